section
-- ===== PART A: goes FIRST, ahead of the names: the tables' words, and 'selects' of the private methods out of them =====
/-- a private method of a class that the tables say can be made, by its rows of tables_1 -/
def lw_okq (q : MethodName × Nat) : Prop := (q.1.cls ≠ "java/lang/invoke/MethodHandle" ∧ q.1.cls ≠ "java/lang/invoke/VarHandle") ∧ Cond.instantiable q.1.cls q.2 ∈ tables_1 ∧ Cond.privateMethod q.1 ∈ tables_1 ∧ Cond.instanceMethod q.1 ∈ tables_1
theorem lw_p0 : lw_okq (⟨"FairGround", "isDoor", "(II)Z"⟩, 14) := ⟨⟨by decide +kernel, by decide +kernel⟩, List.mem_of_getElem? (i := 21) (by decide +kernel), List.mem_of_getElem? (i := 210) (by decide +kernel), List.mem_of_getElem? (i := 211) (by decide +kernel)⟩
theorem lw_p1 : lw_okq (⟨"FairGround", "areDoorsJoined", "()Z"⟩, 14) := ⟨⟨by decide +kernel, by decide +kernel⟩, List.mem_of_getElem? (i := 21) (by decide +kernel), List.mem_of_getElem? (i := 226) (by decide +kernel), List.mem_of_getElem? (i := 227) (by decide +kernel)⟩
theorem lw_p2 : lw_okq (⟨"FairGround$Green", "reach", "(II)V"⟩, 5) := ⟨⟨by decide +kernel, by decide +kernel⟩, List.mem_of_getElem? (i := 29) (by decide +kernel), List.mem_of_getElem? (i := 234) (by decide +kernel), List.mem_of_getElem? (i := 235) (by decide +kernel)⟩
theorem lw_p3 : lw_okq (⟨"FairGround", "countLying", "()I"⟩, 14) := ⟨⟨by decide +kernel, by decide +kernel⟩, List.mem_of_getElem? (i := 21) (by decide +kernel), List.mem_of_getElem? (i := 247) (by decide +kernel), List.mem_of_getElem? (i := 248) (by decide +kernel)⟩
theorem lw_p4 : lw_okq (⟨"FairGround", "find", "(I)LFairGround$Ride;"⟩, 14) := ⟨⟨by decide +kernel, by decide +kernel⟩, List.mem_of_getElem? (i := 21) (by decide +kernel), List.mem_of_getElem? (i := 321) (by decide +kernel), List.mem_of_getElem? (i := 322) (by decide +kernel)⟩
theorem lw_p5 : lw_okq (⟨"FairGround", "canLie", "(LFairGround$Ride;LFairGround$Spot;)Z"⟩, 14) := ⟨⟨by decide +kernel, by decide +kernel⟩, List.mem_of_getElem? (i := 21) (by decide +kernel), List.mem_of_getElem? (i := 329) (by decide +kernel), List.mem_of_getElem? (i := 330) (by decide +kernel)⟩
theorem lw_p6 : lw_okq (⟨"FairGround", "isClear", "(LFairGround$Spot;)Z"⟩, 14) := ⟨⟨by decide +kernel, by decide +kernel⟩, List.mem_of_getElem? (i := 21) (by decide +kernel), List.mem_of_getElem? (i := 333) (by decide +kernel), List.mem_of_getElem? (i := 334) (by decide +kernel)⟩
theorem lw_p7 : lw_okq (⟨"FairGround", "isClearOfOthers", "(LFairGround$Ride;LFairGround$Spot;)Z"⟩, 14) := ⟨⟨by decide +kernel, by decide +kernel⟩, List.mem_of_getElem? (i := 21) (by decide +kernel), List.mem_of_getElem? (i := 349) (by decide +kernel), List.mem_of_getElem? (i := 350) (by decide +kernel)⟩
theorem lw_p8 : lw_okq (⟨"FairGround", "layIfItFits", "(LFairGround$Ride;)Z"⟩, 14) := ⟨⟨by decide +kernel, by decide +kernel⟩, List.mem_of_getElem? (i := 21) (by decide +kernel), List.mem_of_getElem? (i := 379) (by decide +kernel), List.mem_of_getElem? (i := 380) (by decide +kernel)⟩
theorem lw_p9 : lw_okq (⟨"FairGround", "takeAway", "(LFairGround$Ride;)V"⟩, 14) := ⟨⟨by decide +kernel, by decide +kernel⟩, List.mem_of_getElem? (i := 21) (by decide +kernel), List.mem_of_getElem? (i := 391) (by decide +kernel), List.mem_of_getElem? (i := 392) (by decide +kernel)⟩
theorem lw_p10 : lw_okq (⟨"FairGround", "layAtFirstPlace", "(LFairGround$Ride;)V"⟩, 14) := ⟨⟨by decide +kernel, by decide +kernel⟩, List.mem_of_getElem? (i := 21) (by decide +kernel), List.mem_of_getElem? (i := 404) (by decide +kernel), List.mem_of_getElem? (i := 405) (by decide +kernel)⟩
theorem lw_p11 : lw_okq (⟨"FairGround", "keepsRight", "(LFairGround$Ride;)Z"⟩, 14) := ⟨⟨by decide +kernel, by decide +kernel⟩, List.mem_of_getElem? (i := 21) (by decide +kernel), List.mem_of_getElem? (i := 432) (by decide +kernel), List.mem_of_getElem? (i := 433) (by decide +kernel)⟩
theorem lw_p12 : lw_okq (⟨"FairGround$Law", "worth", "(II[I)I"⟩, 6) := ⟨⟨by decide +kernel, by decide +kernel⟩, List.mem_of_getElem? (i := 125) (by decide +kernel), List.mem_of_getElem? (i := 444) (by decide +kernel), List.mem_of_getElem? (i := 445) (by decide +kernel)⟩
theorem lw_p13 : lw_okq (⟨"FairGround$Reader", "scanWord", "(LFairGround$Tape;I)I"⟩, 6) := ⟨⟨by decide +kernel, by decide +kernel⟩, List.mem_of_getElem? (i := 100) (by decide +kernel), List.mem_of_getElem? (i := 484) (by decide +kernel), List.mem_of_getElem? (i := 485) (by decide +kernel)⟩
theorem lw_p14 : lw_okq (⟨"FairGround$Reader", "addToken", "(III)V"⟩, 6) := ⟨⟨by decide +kernel, by decide +kernel⟩, List.mem_of_getElem? (i := 100) (by decide +kernel), List.mem_of_getElem? (i := 556) (by decide +kernel), List.mem_of_getElem? (i := 557) (by decide +kernel)⟩
theorem lw_p15 : lw_okq (⟨"FairGround$Reader", "scanNumber", "(LFairGround$Tape;I)I"⟩, 6) := ⟨⟨by decide +kernel, by decide +kernel⟩, List.mem_of_getElem? (i := 100) (by decide +kernel), List.mem_of_getElem? (i := 564) (by decide +kernel), List.mem_of_getElem? (i := 565) (by decide +kernel)⟩
def lw_privs_1 : List (MethodName × Nat) := [(⟨"FairGround", "isDoor", "(II)Z"⟩, 14), (⟨"FairGround", "areDoorsJoined", "()Z"⟩, 14), (⟨"FairGround$Green", "reach", "(II)V"⟩, 5), (⟨"FairGround", "countLying", "()I"⟩, 14), (⟨"FairGround", "find", "(I)LFairGround$Ride;"⟩, 14), (⟨"FairGround", "canLie", "(LFairGround$Ride;LFairGround$Spot;)Z"⟩, 14), (⟨"FairGround", "isClear", "(LFairGround$Spot;)Z"⟩, 14), (⟨"FairGround", "isClearOfOthers", "(LFairGround$Ride;LFairGround$Spot;)Z"⟩, 14), (⟨"FairGround", "layIfItFits", "(LFairGround$Ride;)Z"⟩, 14), (⟨"FairGround", "takeAway", "(LFairGround$Ride;)V"⟩, 14), (⟨"FairGround", "layAtFirstPlace", "(LFairGround$Ride;)V"⟩, 14), (⟨"FairGround", "keepsRight", "(LFairGround$Ride;)Z"⟩, 14), (⟨"FairGround$Law", "worth", "(II[I)I"⟩, 6), (⟨"FairGround$Reader", "scanWord", "(LFairGround$Tape;I)I"⟩, 6), (⟨"FairGround$Reader", "addToken", "(III)V"⟩, 6), (⟨"FairGround$Reader", "scanNumber", "(LFairGround$Tape;I)I"⟩, 6)]
theorem lw_r1 : ∀ q ∈ lw_privs_1, lw_okq q := List.forall_mem_cons.mpr ⟨lw_p0, List.forall_mem_cons.mpr ⟨lw_p1, List.forall_mem_cons.mpr ⟨lw_p2, List.forall_mem_cons.mpr ⟨lw_p3, List.forall_mem_cons.mpr ⟨lw_p4, List.forall_mem_cons.mpr ⟨lw_p5, List.forall_mem_cons.mpr ⟨lw_p6, List.forall_mem_cons.mpr ⟨lw_p7, List.forall_mem_cons.mpr ⟨lw_p8, List.forall_mem_cons.mpr ⟨lw_p9, List.forall_mem_cons.mpr ⟨lw_p10, List.forall_mem_cons.mpr ⟨lw_p11, List.forall_mem_cons.mpr ⟨lw_p12, List.forall_mem_cons.mpr ⟨lw_p13, List.forall_mem_cons.mpr ⟨lw_p14, List.forall_mem_cons.mpr ⟨lw_p15, fun _ h => absurd h List.not_mem_nil⟩⟩⟩⟩⟩⟩⟩⟩⟩⟩⟩⟩⟩⟩⟩⟩
theorem lw_p16 : lw_okq (⟨"FairGround$Reader", "kind", "()I"⟩, 6) := ⟨⟨by decide +kernel, by decide +kernel⟩, List.mem_of_getElem? (i := 100) (by decide +kernel), List.mem_of_getElem? (i := 589) (by decide +kernel), List.mem_of_getElem? (i := 590) (by decide +kernel)⟩
theorem lw_p17 : lw_okq (⟨"FairGround$Reader", "readLine", "(LFairGround$Law;I)Z"⟩, 6) := ⟨⟨by decide +kernel, by decide +kernel⟩, List.mem_of_getElem? (i := 100) (by decide +kernel), List.mem_of_getElem? (i := 593) (by decide +kernel), List.mem_of_getElem? (i := 594) (by decide +kernel)⟩
theorem lw_p18 : lw_okq (⟨"FairGround$Reader", "refuse", "(I)Z"⟩, 6) := ⟨⟨by decide +kernel, by decide +kernel⟩, List.mem_of_getElem? (i := 100) (by decide +kernel), List.mem_of_getElem? (i := 597) (by decide +kernel), List.mem_of_getElem? (i := 598) (by decide +kernel)⟩
theorem lw_p19 : lw_okq (⟨"FairGround$Reader", "skip", "(I)Z"⟩, 6) := ⟨⟨by decide +kernel, by decide +kernel⟩, List.mem_of_getElem? (i := 100) (by decide +kernel), List.mem_of_getElem? (i := 605) (by decide +kernel), List.mem_of_getElem? (i := 606) (by decide +kernel)⟩
theorem lw_p20 : lw_okq (⟨"FairGround$Reader", "readTests", "(LFairGround$Law;I)Z"⟩, 6) := ⟨⟨by decide +kernel, by decide +kernel⟩, List.mem_of_getElem? (i := 100) (by decide +kernel), List.mem_of_getElem? (i := 609) (by decide +kernel), List.mem_of_getElem? (i := 610) (by decide +kernel)⟩
theorem lw_p21 : lw_okq (⟨"FairGround$Reader", "readSum", "(LFairGround$Law;I)Z"⟩, 6) := ⟨⟨by decide +kernel, by decide +kernel⟩, List.mem_of_getElem? (i := 100) (by decide +kernel), List.mem_of_getElem? (i := 613) (by decide +kernel), List.mem_of_getElem? (i := 614) (by decide +kernel)⟩
theorem lw_p22 : lw_okq (⟨"FairGround$Reader", "readPart", "(LFairGround$Law;I)Z"⟩, 6) := ⟨⟨by decide +kernel, by decide +kernel⟩, List.mem_of_getElem? (i := 100) (by decide +kernel), List.mem_of_getElem? (i := 617) (by decide +kernel), List.mem_of_getElem? (i := 618) (by decide +kernel)⟩
theorem lw_p23 : lw_okq (⟨"FairGround", "powerWanted", "(I)I"⟩, 14) := ⟨⟨by decide +kernel, by decide +kernel⟩, List.mem_of_getElem? (i := 21) (by decide +kernel), List.mem_of_getElem? (i := 638) (by decide +kernel), List.mem_of_getElem? (i := 639) (by decide +kernel)⟩
theorem lw_p24 : lw_okq (⟨"FairGround", "allRents", "()I"⟩, 14) := ⟨⟨by decide +kernel, by decide +kernel⟩, List.mem_of_getElem? (i := 21) (by decide +kernel), List.mem_of_getElem? (i := 654) (by decide +kernel), List.mem_of_getElem? (i := 655) (by decide +kernel)⟩
theorem lw_p25 : lw_okq (⟨"FairGround", "couldGrowTo", "(LFairGround$Ride;LFairGround$Spot;)Z"⟩, 14) := ⟨⟨by decide +kernel, by decide +kernel⟩, List.mem_of_getElem? (i := 21) (by decide +kernel), List.mem_of_getElem? (i := 662) (by decide +kernel), List.mem_of_getElem? (i := 663) (by decide +kernel)⟩
theorem lw_p26 : lw_okq (⟨"FairGround", "movedBy", "(LFairGround$Ride;LFairGround$Spot;)I"⟩, 14) := ⟨⟨by decide +kernel, by decide +kernel⟩, List.mem_of_getElem? (i := 21) (by decide +kernel), List.mem_of_getElem? (i := 670) (by decide +kernel), List.mem_of_getElem? (i := 671) (by decide +kernel)⟩
theorem lw_p27 : lw_okq (⟨"FairGround", "countRights", "()I"⟩, 14) := ⟨⟨by decide +kernel, by decide +kernel⟩, List.mem_of_getElem? (i := 21) (by decide +kernel), List.mem_of_getElem? (i := 692) (by decide +kernel), List.mem_of_getElem? (i := 693) (by decide +kernel)⟩
theorem lw_p28 : lw_okq (⟨"java/lang/Throwable", "fillInStackTrace", "(I)Ljava/lang/Throwable;"⟩, 6) := ⟨⟨by decide +kernel, by decide +kernel⟩, List.mem_of_getElem? (i := 740) (by decide +kernel), List.mem_of_getElem? (i := 738) (by decide +kernel), List.mem_of_getElem? (i := 739) (by decide +kernel)⟩
theorem lw_p29 : lw_okq (⟨"FairGroundModel", "lay", "(J)V"⟩, 50) := ⟨⟨by decide +kernel, by decide +kernel⟩, List.mem_of_getElem? (i := 781) (by decide +kernel), List.mem_of_getElem? (i := 779) (by decide +kernel), List.mem_of_getElem? (i := 780) (by decide +kernel)⟩
theorem lw_p30 : lw_okq (⟨"FairGroundModel", "cutAll", "()V"⟩, 50) := ⟨⟨by decide +kernel, by decide +kernel⟩, List.mem_of_getElem? (i := 781) (by decide +kernel), List.mem_of_getElem? (i := 955) (by decide +kernel), List.mem_of_getElem? (i := 956) (by decide +kernel)⟩
theorem lw_p31 : lw_okq (⟨"FairGroundModel", "line", "()V"⟩, 50) := ⟨⟨by decide +kernel, by decide +kernel⟩, List.mem_of_getElem? (i := 781) (by decide +kernel), List.mem_of_getElem? (i := 974) (by decide +kernel), List.mem_of_getElem? (i := 975) (by decide +kernel)⟩
def lw_privs_2 : List (MethodName × Nat) := [(⟨"FairGround$Reader", "kind", "()I"⟩, 6), (⟨"FairGround$Reader", "readLine", "(LFairGround$Law;I)Z"⟩, 6), (⟨"FairGround$Reader", "refuse", "(I)Z"⟩, 6), (⟨"FairGround$Reader", "skip", "(I)Z"⟩, 6), (⟨"FairGround$Reader", "readTests", "(LFairGround$Law;I)Z"⟩, 6), (⟨"FairGround$Reader", "readSum", "(LFairGround$Law;I)Z"⟩, 6), (⟨"FairGround$Reader", "readPart", "(LFairGround$Law;I)Z"⟩, 6), (⟨"FairGround", "powerWanted", "(I)I"⟩, 14), (⟨"FairGround", "allRents", "()I"⟩, 14), (⟨"FairGround", "couldGrowTo", "(LFairGround$Ride;LFairGround$Spot;)Z"⟩, 14), (⟨"FairGround", "movedBy", "(LFairGround$Ride;LFairGround$Spot;)I"⟩, 14), (⟨"FairGround", "countRights", "()I"⟩, 14), (⟨"java/lang/Throwable", "fillInStackTrace", "(I)Ljava/lang/Throwable;"⟩, 6), (⟨"FairGroundModel", "lay", "(J)V"⟩, 50), (⟨"FairGroundModel", "cutAll", "()V"⟩, 50), (⟨"FairGroundModel", "line", "()V"⟩, 50)]
theorem lw_r2 : ∀ q ∈ lw_privs_2, lw_okq q := List.forall_mem_cons.mpr ⟨lw_p16, List.forall_mem_cons.mpr ⟨lw_p17, List.forall_mem_cons.mpr ⟨lw_p18, List.forall_mem_cons.mpr ⟨lw_p19, List.forall_mem_cons.mpr ⟨lw_p20, List.forall_mem_cons.mpr ⟨lw_p21, List.forall_mem_cons.mpr ⟨lw_p22, List.forall_mem_cons.mpr ⟨lw_p23, List.forall_mem_cons.mpr ⟨lw_p24, List.forall_mem_cons.mpr ⟨lw_p25, List.forall_mem_cons.mpr ⟨lw_p26, List.forall_mem_cons.mpr ⟨lw_p27, List.forall_mem_cons.mpr ⟨lw_p28, List.forall_mem_cons.mpr ⟨lw_p29, List.forall_mem_cons.mpr ⟨lw_p30, List.forall_mem_cons.mpr ⟨lw_p31, fun _ h => absurd h List.not_mem_nil⟩⟩⟩⟩⟩⟩⟩⟩⟩⟩⟩⟩⟩⟩⟩⟩
theorem lw_p32 : lw_okq (⟨"FairGroundModel", "isWord", "(I)Z"⟩, 50) := ⟨⟨by decide +kernel, by decide +kernel⟩, List.mem_of_getElem? (i := 781) (by decide +kernel), List.mem_of_getElem? (i := 978) (by decide +kernel), List.mem_of_getElem? (i := 979) (by decide +kernel)⟩
theorem lw_p33 : lw_okq (⟨"FairGroundModel", "wrong", "(I)V"⟩, 50) := ⟨⟨by decide +kernel, by decide +kernel⟩, List.mem_of_getElem? (i := 781) (by decide +kernel), List.mem_of_getElem? (i := 982) (by decide +kernel), List.mem_of_getElem? (i := 983) (by decide +kernel)⟩
theorem lw_p34 : lw_okq (⟨"FairGroundModel", "takeWord", "(I)V"⟩, 50) := ⟨⟨by decide +kernel, by decide +kernel⟩, List.mem_of_getElem? (i := 781) (by decide +kernel), List.mem_of_getElem? (i := 986) (by decide +kernel), List.mem_of_getElem? (i := 987) (by decide +kernel)⟩
theorem lw_p35 : lw_okq (⟨"FairGroundModel", "hasWord", "(I)Z"⟩, 50) := ⟨⟨by decide +kernel, by decide +kernel⟩, List.mem_of_getElem? (i := 781) (by decide +kernel), List.mem_of_getElem? (i := 990) (by decide +kernel), List.mem_of_getElem? (i := 991) (by decide +kernel)⟩
theorem lw_p36 : lw_okq (⟨"FairGroundModel", "opens", "()V"⟩, 50) := ⟨⟨by decide +kernel, by decide +kernel⟩, List.mem_of_getElem? (i := 781) (by decide +kernel), List.mem_of_getElem? (i := 994) (by decide +kernel), List.mem_of_getElem? (i := 995) (by decide +kernel)⟩
theorem lw_p37 : lw_okq (⟨"FairGroundModel", "part", "()Z"⟩, 50) := ⟨⟨by decide +kernel, by decide +kernel⟩, List.mem_of_getElem? (i := 781) (by decide +kernel), List.mem_of_getElem? (i := 998) (by decide +kernel), List.mem_of_getElem? (i := 999) (by decide +kernel)⟩
theorem lw_p38 : lw_okq (⟨"FairGroundModel", "partWord", "()I"⟩, 50) := ⟨⟨by decide +kernel, by decide +kernel⟩, List.mem_of_getElem? (i := 781) (by decide +kernel), List.mem_of_getElem? (i := 1002) (by decide +kernel), List.mem_of_getElem? (i := 1003) (by decide +kernel)⟩
theorem lw_p39 : lw_okq (⟨"FairGroundModel", "isSign", "(I)Z"⟩, 50) := ⟨⟨by decide +kernel, by decide +kernel⟩, List.mem_of_getElem? (i := 781) (by decide +kernel), List.mem_of_getElem? (i := 1006) (by decide +kernel), List.mem_of_getElem? (i := 1007) (by decide +kernel)⟩
theorem lw_p40 : lw_okq (⟨"FairGroundModel", "hasSign", "(I)Z"⟩, 50) := ⟨⟨by decide +kernel, by decide +kernel⟩, List.mem_of_getElem? (i := 781) (by decide +kernel), List.mem_of_getElem? (i := 1010) (by decide +kernel), List.mem_of_getElem? (i := 1011) (by decide +kernel)⟩
theorem lw_p41 : lw_okq (⟨"FairGroundModel", "emit", "(II)V"⟩, 50) := ⟨⟨by decide +kernel, by decide +kernel⟩, List.mem_of_getElem? (i := 781) (by decide +kernel), List.mem_of_getElem? (i := 1014) (by decide +kernel), List.mem_of_getElem? (i := 1015) (by decide +kernel)⟩
theorem lw_p42 : lw_okq (⟨"FairGroundModel", "goesOnBehind", "()Z"⟩, 50) := ⟨⟨by decide +kernel, by decide +kernel⟩, List.mem_of_getElem? (i := 781) (by decide +kernel), List.mem_of_getElem? (i := 1018) (by decide +kernel), List.mem_of_getElem? (i := 1019) (by decide +kernel)⟩
theorem lw_p43 : lw_okq (⟨"FairGroundModel", "takeSign", "(I)V"⟩, 50) := ⟨⟨by decide +kernel, by decide +kernel⟩, List.mem_of_getElem? (i := 781) (by decide +kernel), List.mem_of_getElem? (i := 1022) (by decide +kernel), List.mem_of_getElem? (i := 1023) (by decide +kernel)⟩
theorem lw_p44 : lw_okq (⟨"FairGroundModel", "coveredBy", "(I)I"⟩, 50) := ⟨⟨by decide +kernel, by decide +kernel⟩, List.mem_of_getElem? (i := 781) (by decide +kernel), List.mem_of_getElem? (i := 1037) (by decide +kernel), List.mem_of_getElem? (i := 1038) (by decide +kernel)⟩
theorem lw_p45 : lw_okq (⟨"FairGroundModel", "covers", "(II)Z"⟩, 50) := ⟨⟨by decide +kernel, by decide +kernel⟩, List.mem_of_getElem? (i := 781) (by decide +kernel), List.mem_of_getElem? (i := 1041) (by decide +kernel), List.mem_of_getElem? (i := 1042) (by decide +kernel)⟩
theorem lw_p46 : lw_okq (⟨"FairGroundModel", "coversAt", "(III)Z"⟩, 50) := ⟨⟨by decide +kernel, by decide +kernel⟩, List.mem_of_getElem? (i := 781) (by decide +kernel), List.mem_of_getElem? (i := 1045) (by decide +kernel), List.mem_of_getElem? (i := 1046) (by decide +kernel)⟩
theorem lw_p47 : lw_okq (⟨"FairGroundModel", "widthAt", "(II)I"⟩, 50) := ⟨⟨by decide +kernel, by decide +kernel⟩, List.mem_of_getElem? (i := 781) (by decide +kernel), List.mem_of_getElem? (i := 1055) (by decide +kernel), List.mem_of_getElem? (i := 1056) (by decide +kernel)⟩
def lw_privs_3 : List (MethodName × Nat) := [(⟨"FairGroundModel", "isWord", "(I)Z"⟩, 50), (⟨"FairGroundModel", "wrong", "(I)V"⟩, 50), (⟨"FairGroundModel", "takeWord", "(I)V"⟩, 50), (⟨"FairGroundModel", "hasWord", "(I)Z"⟩, 50), (⟨"FairGroundModel", "opens", "()V"⟩, 50), (⟨"FairGroundModel", "part", "()Z"⟩, 50), (⟨"FairGroundModel", "partWord", "()I"⟩, 50), (⟨"FairGroundModel", "isSign", "(I)Z"⟩, 50), (⟨"FairGroundModel", "hasSign", "(I)Z"⟩, 50), (⟨"FairGroundModel", "emit", "(II)V"⟩, 50), (⟨"FairGroundModel", "goesOnBehind", "()Z"⟩, 50), (⟨"FairGroundModel", "takeSign", "(I)V"⟩, 50), (⟨"FairGroundModel", "coveredBy", "(I)I"⟩, 50), (⟨"FairGroundModel", "covers", "(II)Z"⟩, 50), (⟨"FairGroundModel", "coversAt", "(III)Z"⟩, 50), (⟨"FairGroundModel", "widthAt", "(II)I"⟩, 50)]
theorem lw_r3 : ∀ q ∈ lw_privs_3, lw_okq q := List.forall_mem_cons.mpr ⟨lw_p32, List.forall_mem_cons.mpr ⟨lw_p33, List.forall_mem_cons.mpr ⟨lw_p34, List.forall_mem_cons.mpr ⟨lw_p35, List.forall_mem_cons.mpr ⟨lw_p36, List.forall_mem_cons.mpr ⟨lw_p37, List.forall_mem_cons.mpr ⟨lw_p38, List.forall_mem_cons.mpr ⟨lw_p39, List.forall_mem_cons.mpr ⟨lw_p40, List.forall_mem_cons.mpr ⟨lw_p41, List.forall_mem_cons.mpr ⟨lw_p42, List.forall_mem_cons.mpr ⟨lw_p43, List.forall_mem_cons.mpr ⟨lw_p44, List.forall_mem_cons.mpr ⟨lw_p45, List.forall_mem_cons.mpr ⟨lw_p46, List.forall_mem_cons.mpr ⟨lw_p47, fun _ h => absurd h List.not_mem_nil⟩⟩⟩⟩⟩⟩⟩⟩⟩⟩⟩⟩⟩⟩⟩⟩
theorem lw_p48 : lw_okq (⟨"FairGroundModel", "heightAt", "(II)I"⟩, 50) := ⟨⟨by decide +kernel, by decide +kernel⟩, List.mem_of_getElem? (i := 781) (by decide +kernel), List.mem_of_getElem? (i := 1059) (by decide +kernel), List.mem_of_getElem? (i := 1060) (by decide +kernel)⟩
theorem lw_p49 : lw_okq (⟨"FairGroundModel", "gateCell", "()I"⟩, 50) := ⟨⟨by decide +kernel, by decide +kernel⟩, List.mem_of_getElem? (i := 781) (by decide +kernel), List.mem_of_getElem? (i := 1066) (by decide +kernel), List.mem_of_getElem? (i := 1067) (by decide +kernel)⟩
theorem lw_p50 : lw_okq (⟨"FairGroundModel", "door", "(I)I"⟩, 50) := ⟨⟨by decide +kernel, by decide +kernel⟩, List.mem_of_getElem? (i := 781) (by decide +kernel), List.mem_of_getElem? (i := 1070) (by decide +kernel), List.mem_of_getElem? (i := 1071) (by decide +kernel)⟩
theorem lw_p51 : lw_okq (⟨"FairGroundModel", "doorAt", "(II)I"⟩, 50) := ⟨⟨by decide +kernel, by decide +kernel⟩, List.mem_of_getElem? (i := 781) (by decide +kernel), List.mem_of_getElem? (i := 1074) (by decide +kernel), List.mem_of_getElem? (i := 1075) (by decide +kernel)⟩
theorem lw_p52 : lw_okq (⟨"FairGroundModel", "barsAll", "()V"⟩, 50) := ⟨⟨by decide +kernel, by decide +kernel⟩, List.mem_of_getElem? (i := 781) (by decide +kernel), List.mem_of_getElem? (i := 1078) (by decide +kernel), List.mem_of_getElem? (i := 1079) (by decide +kernel)⟩
theorem lw_p53 : lw_okq (⟨"FairGroundModel", "isFree", "(I)Z"⟩, 50) := ⟨⟨by decide +kernel, by decide +kernel⟩, List.mem_of_getElem? (i := 781) (by decide +kernel), List.mem_of_getElem? (i := 1082) (by decide +kernel), List.mem_of_getElem? (i := 1083) (by decide +kernel)⟩
theorem lw_p54 : lw_okq (⟨"FairGroundModel", "areDoorsJoined", "()Z"⟩, 50) := ⟨⟨by decide +kernel, by decide +kernel⟩, List.mem_of_getElem? (i := 781) (by decide +kernel), List.mem_of_getElem? (i := 1086) (by decide +kernel), List.mem_of_getElem? (i := 1087) (by decide +kernel)⟩
theorem lw_p55 : lw_okq (⟨"FairGroundModel", "reaches", "()V"⟩, 50) := ⟨⟨by decide +kernel, by decide +kernel⟩, List.mem_of_getElem? (i := 781) (by decide +kernel), List.mem_of_getElem? (i := 1090) (by decide +kernel), List.mem_of_getElem? (i := 1091) (by decide +kernel)⟩
theorem lw_p56 : lw_okq (⟨"FairGroundModel", "isBeside", "(I)Z"⟩, 50) := ⟨⟨by decide +kernel, by decide +kernel⟩, List.mem_of_getElem? (i := 781) (by decide +kernel), List.mem_of_getElem? (i := 1094) (by decide +kernel), List.mem_of_getElem? (i := 1095) (by decide +kernel)⟩
theorem lw_p57 : lw_okq (⟨"FairGroundModel", "lying", "()I"⟩, 50) := ⟨⟨by decide +kernel, by decide +kernel⟩, List.mem_of_getElem? (i := 781) (by decide +kernel), List.mem_of_getElem? (i := 1102) (by decide +kernel), List.mem_of_getElem? (i := 1103) (by decide +kernel)⟩
theorem lw_p58 : lw_okq (⟨"FairGroundModel", "isRide", "(I)Z"⟩, 50) := ⟨⟨by decide +kernel, by decide +kernel⟩, List.mem_of_getElem? (i := 781) (by decide +kernel), List.mem_of_getElem? (i := 1110) (by decide +kernel), List.mem_of_getElem? (i := 1111) (by decide +kernel)⟩
theorem lw_p59 : lw_okq (⟨"FairGroundModel", "fitsAt", "(II)Z"⟩, 50) := ⟨⟨by decide +kernel, by decide +kernel⟩, List.mem_of_getElem? (i := 781) (by decide +kernel), List.mem_of_getElem? (i := 1117) (by decide +kernel), List.mem_of_getElem? (i := 1118) (by decide +kernel)⟩
theorem lw_p60 : lw_okq (⟨"FairGroundModel", "isRoom", "(II)Z"⟩, 50) := ⟨⟨by decide +kernel, by decide +kernel⟩, List.mem_of_getElem? (i := 781) (by decide +kernel), List.mem_of_getElem? (i := 1121) (by decide +kernel), List.mem_of_getElem? (i := 1122) (by decide +kernel)⟩
theorem lw_p61 : lw_okq (⟨"FairGroundModel", "isOn", "(II)Z"⟩, 50) := ⟨⟨by decide +kernel, by decide +kernel⟩, List.mem_of_getElem? (i := 781) (by decide +kernel), List.mem_of_getElem? (i := 1125) (by decide +kernel), List.mem_of_getElem? (i := 1126) (by decide +kernel)⟩
theorem lw_p62 : lw_okq (⟨"FairGroundModel", "isQuiet", "(III)Z"⟩, 50) := ⟨⟨by decide +kernel, by decide +kernel⟩, List.mem_of_getElem? (i := 781) (by decide +kernel), List.mem_of_getElem? (i := 1129) (by decide +kernel), List.mem_of_getElem? (i := 1130) (by decide +kernel)⟩
theorem lw_p63 : lw_okq (⟨"FairGroundModel", "nextAsked", "()I"⟩, 50) := ⟨⟨by decide +kernel, by decide +kernel⟩, List.mem_of_getElem? (i := 781) (by decide +kernel), List.mem_of_getElem? (i := 1145) (by decide +kernel), List.mem_of_getElem? (i := 1146) (by decide +kernel)⟩
def lw_privs_4 : List (MethodName × Nat) := [(⟨"FairGroundModel", "heightAt", "(II)I"⟩, 50), (⟨"FairGroundModel", "gateCell", "()I"⟩, 50), (⟨"FairGroundModel", "door", "(I)I"⟩, 50), (⟨"FairGroundModel", "doorAt", "(II)I"⟩, 50), (⟨"FairGroundModel", "barsAll", "()V"⟩, 50), (⟨"FairGroundModel", "isFree", "(I)Z"⟩, 50), (⟨"FairGroundModel", "areDoorsJoined", "()Z"⟩, 50), (⟨"FairGroundModel", "reaches", "()V"⟩, 50), (⟨"FairGroundModel", "isBeside", "(I)Z"⟩, 50), (⟨"FairGroundModel", "lying", "()I"⟩, 50), (⟨"FairGroundModel", "isRide", "(I)Z"⟩, 50), (⟨"FairGroundModel", "fitsAt", "(II)Z"⟩, 50), (⟨"FairGroundModel", "isRoom", "(II)Z"⟩, 50), (⟨"FairGroundModel", "isOn", "(II)Z"⟩, 50), (⟨"FairGroundModel", "isQuiet", "(III)Z"⟩, 50), (⟨"FairGroundModel", "nextAsked", "()I"⟩, 50)]
theorem lw_r4 : ∀ q ∈ lw_privs_4, lw_okq q := List.forall_mem_cons.mpr ⟨lw_p48, List.forall_mem_cons.mpr ⟨lw_p49, List.forall_mem_cons.mpr ⟨lw_p50, List.forall_mem_cons.mpr ⟨lw_p51, List.forall_mem_cons.mpr ⟨lw_p52, List.forall_mem_cons.mpr ⟨lw_p53, List.forall_mem_cons.mpr ⟨lw_p54, List.forall_mem_cons.mpr ⟨lw_p55, List.forall_mem_cons.mpr ⟨lw_p56, List.forall_mem_cons.mpr ⟨lw_p57, List.forall_mem_cons.mpr ⟨lw_p58, List.forall_mem_cons.mpr ⟨lw_p59, List.forall_mem_cons.mpr ⟨lw_p60, List.forall_mem_cons.mpr ⟨lw_p61, List.forall_mem_cons.mpr ⟨lw_p62, List.forall_mem_cons.mpr ⟨lw_p63, fun _ h => absurd h List.not_mem_nil⟩⟩⟩⟩⟩⟩⟩⟩⟩⟩⟩⟩⟩⟩⟩⟩
theorem lw_p64 : lw_okq (⟨"FairGroundModel", "firstPlace", "(I)I"⟩, 50) := ⟨⟨by decide +kernel, by decide +kernel⟩, List.mem_of_getElem? (i := 781) (by decide +kernel), List.mem_of_getElem? (i := 1149) (by decide +kernel), List.mem_of_getElem? (i := 1150) (by decide +kernel)⟩
theorem lw_p65 : lw_okq (⟨"FairGroundModel", "findWays", "()V"⟩, 50) := ⟨⟨by decide +kernel, by decide +kernel⟩, List.mem_of_getElem? (i := 781) (by decide +kernel), List.mem_of_getElem? (i := 1157) (by decide +kernel), List.mem_of_getElem? (i := 1158) (by decide +kernel)⟩
theorem lw_p66 : lw_okq (⟨"FairGroundModel", "setLying", "()I"⟩, 50) := ⟨⟨by decide +kernel, by decide +kernel⟩, List.mem_of_getElem? (i := 781) (by decide +kernel), List.mem_of_getElem? (i := 1161) (by decide +kernel), List.mem_of_getElem? (i := 1162) (by decide +kernel)⟩
theorem lw_p67 : lw_okq (⟨"FairGroundModel", "pullsOn", "(I)I"⟩, 50) := ⟨⟨by decide +kernel, by decide +kernel⟩, List.mem_of_getElem? (i := 781) (by decide +kernel), List.mem_of_getElem? (i := 1165) (by decide +kernel), List.mem_of_getElem? (i := 1166) (by decide +kernel)⟩
theorem lw_p68 : lw_okq (⟨"FairGroundModel", "lapses", "(I)Z"⟩, 50) := ⟨⟨by decide +kernel, by decide +kernel⟩, List.mem_of_getElem? (i := 781) (by decide +kernel), List.mem_of_getElem? (i := 1181) (by decide +kernel), List.mem_of_getElem? (i := 1182) (by decide +kernel)⟩
theorem lw_p69 : lw_okq (⟨"FairGroundModel", "worth", "(I)I"⟩, 50) := ⟨⟨by decide +kernel, by decide +kernel⟩, List.mem_of_getElem? (i := 781) (by decide +kernel), List.mem_of_getElem? (i := 1185) (by decide +kernel), List.mem_of_getElem? (i := 1186) (by decide +kernel)⟩
theorem lw_p70 : lw_okq (⟨"FairGroundModel", "lineOf", "(I)I"⟩, 50) := ⟨⟨by decide +kernel, by decide +kernel⟩, List.mem_of_getElem? (i := 781) (by decide +kernel), List.mem_of_getElem? (i := 1197) (by decide +kernel), List.mem_of_getElem? (i := 1198) (by decide +kernel)⟩
theorem lw_p71 : lw_okq (⟨"FairGroundModel", "lights", "(I)V"⟩, 50) := ⟨⟨by decide +kernel, by decide +kernel⟩, List.mem_of_getElem? (i := 781) (by decide +kernel), List.mem_of_getElem? (i := 1201) (by decide +kernel), List.mem_of_getElem? (i := 1202) (by decide +kernel)⟩
theorem lw_p72 : lw_okq (⟨"FairGroundModel", "rents", "()I"⟩, 50) := ⟨⟨by decide +kernel, by decide +kernel⟩, List.mem_of_getElem? (i := 781) (by decide +kernel), List.mem_of_getElem? (i := 1217) (by decide +kernel), List.mem_of_getElem? (i := 1218) (by decide +kernel)⟩
theorem lw_p73 : lw_okq (⟨"FairGroundModel", "movesFor", "(IIIII)I"⟩, 50) := ⟨⟨by decide +kernel, by decide +kernel⟩, List.mem_of_getElem? (i := 781) (by decide +kernel), List.mem_of_getElem? (i := 1225) (by decide +kernel), List.mem_of_getElem? (i := 1226) (by decide +kernel)⟩
def lw_privs_5 : List (MethodName × Nat) := [(⟨"FairGroundModel", "firstPlace", "(I)I"⟩, 50), (⟨"FairGroundModel", "findWays", "()V"⟩, 50), (⟨"FairGroundModel", "setLying", "()I"⟩, 50), (⟨"FairGroundModel", "pullsOn", "(I)I"⟩, 50), (⟨"FairGroundModel", "lapses", "(I)Z"⟩, 50), (⟨"FairGroundModel", "worth", "(I)I"⟩, 50), (⟨"FairGroundModel", "lineOf", "(I)I"⟩, 50), (⟨"FairGroundModel", "lights", "(I)V"⟩, 50), (⟨"FairGroundModel", "rents", "()I"⟩, 50), (⟨"FairGroundModel", "movesFor", "(IIIII)I"⟩, 50)]
theorem lw_r5 : ∀ q ∈ lw_privs_5, lw_okq q := List.forall_mem_cons.mpr ⟨lw_p64, List.forall_mem_cons.mpr ⟨lw_p65, List.forall_mem_cons.mpr ⟨lw_p66, List.forall_mem_cons.mpr ⟨lw_p67, List.forall_mem_cons.mpr ⟨lw_p68, List.forall_mem_cons.mpr ⟨lw_p69, List.forall_mem_cons.mpr ⟨lw_p70, List.forall_mem_cons.mpr ⟨lw_p71, List.forall_mem_cons.mpr ⟨lw_p72, List.forall_mem_cons.mpr ⟨lw_p73, fun _ h => absurd h List.not_mem_nil⟩⟩⟩⟩⟩⟩⟩⟩⟩⟩
def lw_privs : List (MethodName × Nat) := lw_privs_1 ++ (lw_privs_2 ++ (lw_privs_3 ++ (lw_privs_4 ++ (lw_privs_5))))
def lw_tbl : List Cond := k2_sels lw_privs ++ tables_1
theorem lw_privs_ok : ∀ q ∈ lw_privs, lw_okq q := by
  show ∀ q ∈ lw_privs_1 ++ (lw_privs_2 ++ (lw_privs_3 ++ (lw_privs_4 ++ (lw_privs_5)))), lw_okq q
  exact List.forall_mem_append.mpr ⟨lw_r1, List.forall_mem_append.mpr ⟨lw_r2, List.forall_mem_append.mpr ⟨lw_r3, List.forall_mem_append.mpr ⟨lw_r4, lw_r5⟩⟩⟩⟩

def RX0 : String := "FairGround$Green"
def TX0 : u_T := fun k => match k with
  | 0 => ("FairGround$Green", "cells", "[I", true)
  | 1 => ("FairGround$Green", "reached", "[I", true)
  | 2 => ("FairGround$Green", "queue", "[I", true)
  | 3 => ("FairGround$Green", "queued", "I", false)
  | _ => ("FairGround$Green", "gateRow", "I", false)
def tyX0 : Nat → FieldType := fun k => match k with
  | 0 => .array .int
  | 1 => .array .int
  | 2 => .array .int
  | 3 => .int
  | _ => .int
theorem nmX0 : ∀ a, a < 5 → ∀ b, b < 5 → a ≠ b → (TX0 a).2.1 ≠ (TX0 b).2.1 := by decide +kernel
theorem tyX0_ok : ∀ k, k < 5 → parseFieldDescriptor (TX0 k).2.2.1 = some (tyX0 k) := by decide +kernel
abbrev cX0_init : ByteArray := prog_2_method_1_code
def yX0_init : MethodName := ⟨RX0, "<init>", "()V"⟩
abbrev cX0_hasCell : ByteArray := prog_2_method_2_code
def yX0_hasCell : MethodName := ⟨RX0, "hasCell", "(II)Z"⟩
abbrev cX0_at : ByteArray := prog_2_method_3_code
def yX0_at : MethodName := ⟨RX0, "at", "(II)I"⟩
abbrev cX0_put : ByteArray := prog_2_method_4_code
def yX0_put : MethodName := ⟨RX0, "put", "(III)V"⟩
abbrev cX0_isGate : ByteArray := prog_2_method_5_code
def yX0_isGate : MethodName := ⟨RX0, "isGate", "(II)Z"⟩
abbrev cX0_cover : ByteArray := prog_2_method_6_code
def yX0_cover : MethodName := ⟨RX0, "cover", "(LFairGround$Spot;I)V"⟩
abbrev cX0_isOpen : ByteArray := prog_2_method_7_code
def yX0_isOpen : MethodName := ⟨RX0, "isOpen", "(LFairGround$Spot;Z)Z"⟩
abbrev cX0_countFree : ByteArray := prog_2_method_8_code
def yX0_countFree : MethodName := ⟨RX0, "countFree", "()I"⟩
abbrev cX0_spreadFromGate : ByteArray := prog_2_method_9_code
def yX0_spreadFromGate : MethodName := ⟨RX0, "spreadFromGate", "()V"⟩
abbrev cX0_reach : ByteArray := prog_2_method_10_code
def yX0_reach : MethodName := ⟨RX0, "reach", "(II)V"⟩
abbrev cX0_isReached : ByteArray := prog_2_method_11_code
def yX0_isReached : MethodName := ⟨RX0, "isReached", "(II)Z"⟩
def RX1 : String := "FairGround$Law"
def TX1 : u_T := fun k => match k with
  | 0 => ("FairGround$Law", "code", "[I", true)
  | 1 => ("FairGround$Law", "codeLength", "I", false)
  | 2 => ("FairGround$Law", "starts", "[I", true)
  | 3 => ("FairGround$Law", "keeps", "[Z", true)
  | 4 => ("FairGround$Law", "stack", "[I", true)
  | _ => ("FairGround$Law", "lines", "I", false)
def tyX1 : Nat → FieldType := fun k => match k with
  | 0 => .array .int
  | 1 => .int
  | 2 => .array .int
  | 3 => .array .boolean
  | 4 => .array .int
  | _ => .int
theorem nmX1 : ∀ a, a < 6 → ∀ b, b < 6 → a ≠ b → (TX1 a).2.1 ≠ (TX1 b).2.1 := by decide +kernel
theorem tyX1_ok : ∀ k, k < 6 → parseFieldDescriptor (TX1 k).2.2.1 = some (tyX1 k) := by decide +kernel
abbrev cX1_init : ByteArray := prog_3_method_1_code
def yX1_init : MethodName := ⟨RX1, "<init>", "()V"⟩
abbrev cX1_wipe : ByteArray := prog_3_method_2_code
def yX1_wipe : MethodName := ⟨RX1, "wipe", "()V"⟩
abbrev cX1_beginLine : ByteArray := prog_3_method_3_code
def yX1_beginLine : MethodName := ⟨RX1, "beginLine", "(Z)V"⟩
abbrev cX1_add : ByteArray := prog_3_method_4_code
def yX1_add : MethodName := ⟨RX1, "add", "(II)V"⟩
abbrev cX1_isKept : ByteArray := prog_3_method_5_code
def yX1_isKept : MethodName := ⟨RX1, "isKept", "([I)Z"⟩
abbrev cX1_worth : ByteArray := prog_3_method_6_code
def yX1_worth : MethodName := ⟨RX1, "worth", "(II[I)I"⟩
abbrev cX1_factAt : ByteArray := prog_3_method_7_code
def yX1_factAt : MethodName := ⟨RX1, "factAt", "([II)I"⟩
abbrev cX1_joined : ByteArray := prog_3_method_8_code
def yX1_joined : MethodName := ⟨RX1, "joined", "(III)I"⟩
def RX2 : String := "FairGround$Reader"
def TX2 : u_T := fun k => match k with
  | 0 => ("FairGround$Reader", "kinds", "[I", true)
  | 1 => ("FairGround$Reader", "values", "[I", true)
  | 2 => ("FairGround$Reader", "places", "[I", true)
  | 3 => ("FairGround$Reader", "tokens", "I", false)
  | 4 => ("FairGround$Reader", "current", "I", false)
  | _ => ("FairGround$Reader", "fault", "I", false)
def tyX2 : Nat → FieldType := fun k => match k with
  | 0 => .array .int
  | 1 => .array .int
  | 2 => .array .int
  | 3 => .int
  | 4 => .int
  | _ => .int
theorem nmX2 : ∀ a, a < 6 → ∀ b, b < 6 → a ≠ b → (TX2 a).2.1 ≠ (TX2 b).2.1 := by decide +kernel
theorem tyX2_ok : ∀ k, k < 6 → parseFieldDescriptor (TX2 k).2.2.1 = some (tyX2 k) := by decide +kernel
abbrev cX2_init : ByteArray := prog_4_method_1_code
def yX2_init : MethodName := ⟨RX2, "<init>", "()V"⟩
abbrev cX2_scan : ByteArray := prog_4_method_2_code
def yX2_scan : MethodName := ⟨RX2, "scan", "(LFairGround$Tape;)V"⟩
abbrev cX2_scanWord : ByteArray := prog_4_method_3_code
def yX2_scanWord : MethodName := ⟨RX2, "scanWord", "(LFairGround$Tape;I)I"⟩
abbrev cX2_kindOfWord : ByteArray := prog_4_method_4_code
def yX2_kindOfWord : MethodName := ⟨RX2, "kindOfWord", "(LFairGround$Tape;II)I"⟩
abbrev cX2_factNamed : ByteArray := prog_4_method_5_code
def yX2_factNamed : MethodName := ⟨RX2, "factNamed", "(LFairGround$Tape;II)I"⟩
abbrev cX2_scanNumber : ByteArray := prog_4_method_6_code
def yX2_scanNumber : MethodName := ⟨RX2, "scanNumber", "(LFairGround$Tape;I)I"⟩
abbrev cX2_kindOfSign : ByteArray := prog_4_method_7_code
def yX2_kindOfSign : MethodName := ⟨RX2, "kindOfSign", "(I)I"⟩
abbrev cX2_addToken : ByteArray := prog_4_method_8_code
def yX2_addToken : MethodName := ⟨RX2, "addToken", "(III)V"⟩
abbrev cX2_read : ByteArray := prog_4_method_9_code
def yX2_read : MethodName := ⟨RX2, "read", "(LFairGround$Law;)I"⟩
abbrev cX2_kind : ByteArray := prog_4_method_10_code
def yX2_kind : MethodName := ⟨RX2, "kind", "()I"⟩
abbrev cX2_refuse : ByteArray := prog_4_method_11_code
def yX2_refuse : MethodName := ⟨RX2, "refuse", "(I)Z"⟩
abbrev cX2_skip : ByteArray := prog_4_method_12_code
def yX2_skip : MethodName := ⟨RX2, "skip", "(I)Z"⟩
abbrev cX2_readLine : ByteArray := prog_4_method_13_code
def yX2_readLine : MethodName := ⟨RX2, "readLine", "(LFairGround$Law;I)Z"⟩
abbrev cX2_readTests : ByteArray := prog_4_method_14_code
def yX2_readTests : MethodName := ⟨RX2, "readTests", "(LFairGround$Law;I)Z"⟩
abbrev cX2_readSum : ByteArray := prog_4_method_15_code
def yX2_readSum : MethodName := ⟨RX2, "readSum", "(LFairGround$Law;I)Z"⟩
abbrev cX2_readPart : ByteArray := prog_4_method_16_code
def yX2_readPart : MethodName := ⟨RX2, "readPart", "(LFairGround$Law;I)Z"⟩
def RX3 : String := "FairGround$Ride"
def TX3 : u_T := fun k => match k with
  | 0 => ("FairGround$Ride", "number", "I", true)
  | 1 => ("FairGround$Ride", "width", "I", true)
  | 2 => ("FairGround$Ride", "height", "I", true)
  | 3 => ("FairGround$Ride", "power", "I", true)
  | 4 => ("FairGround$Ride", "noise", "I", true)
  | 5 => ("FairGround$Ride", "rank", "I", true)
  | 6 => ("FairGround$Ride", "spot", "LFairGround$Spot;", true)
  | 7 => ("FairGround$Ride", "lies", "Z", false)
  | 8 => ("FairGround$Ride", "isSick", "Z", false)
  | 9 => ("FairGround$Ride", "right", "I", false)
  | 10 => ("FairGround$Ride", "held", "I", false)
  | _ => ("FairGround$Ride", "missed", "I", false)
def tyX3 : Nat → FieldType := fun k => match k with
  | 0 => .int
  | 1 => .int
  | 2 => .int
  | 3 => .int
  | 4 => .int
  | 5 => .int
  | 6 => .object "FairGround$Spot"
  | 7 => .boolean
  | 8 => .boolean
  | 9 => .int
  | 10 => .int
  | _ => .int
theorem nmX3 : ∀ a, a < 12 → ∀ b, b < 12 → a ≠ b → (TX3 a).2.1 ≠ (TX3 b).2.1 := by decide +kernel
theorem tyX3_ok : ∀ k, k < 12 → parseFieldDescriptor (TX3 k).2.2.1 = some (tyX3 k) := by decide +kernel
abbrev cX3_init : ByteArray := prog_5_method_1_code
def yX3_init : MethodName := ⟨RX3, "<init>", "(IIIIII)V"⟩
abbrev cX3_area : ByteArray := prog_5_method_2_code
def yX3_area : MethodName := ⟨RX3, "area", "()I"⟩
abbrev cX3_powerLine : ByteArray := prog_5_method_3_code
def yX3_powerLine : MethodName := ⟨RX3, "powerLine", "()I"⟩
abbrev cX3_holdOneYearMore : ByteArray := prog_5_method_4_code
def yX3_holdOneYearMore : MethodName := ⟨RX3, "holdOneYearMore", "()V"⟩
abbrev cX3_loseRight : ByteArray := prog_5_method_5_code
def yX3_loseRight : MethodName := ⟨RX3, "loseRight", "()V"⟩
def RX4 : String := "FairGround$Spot"
def TX4 : u_T := fun k => match k with
  | 0 => ("FairGround$Spot", "x", "I", false)
  | 1 => ("FairGround$Spot", "y", "I", false)
  | 2 => ("FairGround$Spot", "wide", "I", false)
  | 3 => ("FairGround$Spot", "high", "I", false)
  | _ => ("FairGround$Spot", "turned", "Z", false)
def tyX4 : Nat → FieldType := fun k => match k with
  | 0 => .int
  | 1 => .int
  | 2 => .int
  | 3 => .int
  | _ => .boolean
theorem nmX4 : ∀ a, a < 5 → ∀ b, b < 5 → a ≠ b → (TX4 a).2.1 ≠ (TX4 b).2.1 := by decide +kernel
theorem tyX4_ok : ∀ k, k < 5 → parseFieldDescriptor (TX4 k).2.2.1 = some (tyX4 k) := by decide +kernel
abbrev cX4_init : ByteArray := prog_6_method_1_code
def yX4_init : MethodName := ⟨RX4, "<init>", "()V"⟩
abbrev cX4_put : ByteArray := prog_6_method_2_code
def yX4_put : MethodName := ⟨RX4, "put", "(IIIIZ)V"⟩
abbrev cX4_putAtPlace : ByteArray := prog_6_method_3_code
def yX4_putAtPlace : MethodName := ⟨RX4, "putAtPlace", "(III)V"⟩
abbrev cX4_putLike : ByteArray := prog_6_method_4_code
def yX4_putLike : MethodName := ⟨RX4, "putLike", "(LFairGround$Spot;)V"⟩
abbrev cX4_place : ByteArray := prog_6_method_5_code
def yX4_place : MethodName := ⟨RX4, "place", "()I"⟩
abbrev cX4_doorX : ByteArray := prog_6_method_6_code
def yX4_doorX : MethodName := ⟨RX4, "doorX", "()I"⟩
abbrev cX4_doorY : ByteArray := prog_6_method_7_code
def yX4_doorY : MethodName := ⟨RX4, "doorY", "()I"⟩
abbrev cX4_isOnGreen : ByteArray := prog_6_method_8_code
def yX4_isOnGreen : MethodName := ⟨RX4, "isOnGreen", "()Z"⟩
abbrev cX4_covers : ByteArray := prog_6_method_9_code
def yX4_covers : MethodName := ⟨RX4, "covers", "(II)Z"⟩
abbrev cX4_coversDoorOf : ByteArray := prog_6_method_10_code
def yX4_coversDoorOf : MethodName := ⟨RX4, "coversDoorOf", "(LFairGround$Spot;)Z"⟩
abbrev cX4_overlaps : ByteArray := prog_6_method_11_code
def yX4_overlaps : MethodName := ⟨RX4, "overlaps", "(LFairGround$Spot;)Z"⟩
abbrev cX4_isApartFrom : ByteArray := prog_6_method_12_code
def yX4_isApartFrom : MethodName := ⟨RX4, "isApartFrom", "(LFairGround$Spot;)Z"⟩
abbrev cX4_gap : ByteArray := prog_6_method_13_code
def yX4_gap : MethodName := ⟨RX4, "gap", "(IIII)I"⟩
def RX5 : String := "FairGround$Tape"
def TX5 : u_T := fun k => match k with
  | 0 => ("FairGround$Tape", "signs", "[B", true)
  | _ => ("FairGround$Tape", "length", "I", false)
def tyX5 : Nat → FieldType := fun k => match k with
  | 0 => .array .byte
  | _ => .int
theorem nmX5 : ∀ a, a < 2 → ∀ b, b < 2 → a ≠ b → (TX5 a).2.1 ≠ (TX5 b).2.1 := by decide +kernel
theorem tyX5_ok : ∀ k, k < 2 → parseFieldDescriptor (TX5 k).2.2.1 = some (tyX5 k) := by decide +kernel
abbrev cX5_init : ByteArray := prog_7_method_1_code
def yX5_init : MethodName := ⟨RX5, "<init>", "()V"⟩
abbrev cX5_addBytes : ByteArray := prog_7_method_2_code
def yX5_addBytes : MethodName := ⟨RX5, "addBytes", "(J)V"⟩
abbrev cX5_wipe : ByteArray := prog_7_method_3_code
def yX5_wipe : MethodName := ⟨RX5, "wipe", "()V"⟩
abbrev cX5_signAt : ByteArray := prog_7_method_4_code
def yX5_signAt : MethodName := ⟨RX5, "signAt", "(I)I"⟩
abbrev cX5_isBlank : ByteArray := prog_7_method_5_code
def yX5_isBlank : MethodName := ⟨RX5, "isBlank", "(I)Z"⟩
abbrev cX5_isLetter : ByteArray := prog_7_method_6_code
def yX5_isLetter : MethodName := ⟨RX5, "isLetter", "(I)Z"⟩
abbrev cX5_isDigit : ByteArray := prog_7_method_7_code
def yX5_isDigit : MethodName := ⟨RX5, "isDigit", "(I)Z"⟩
abbrev cX5_hasWord : ByteArray := prog_7_method_8_code
def yX5_hasWord : MethodName := ⟨RX5, "hasWord", "(Ljava/lang/String;II)Z"⟩
def RX6 : String := "FairGround"
def TX6 : u_T := fun k => match k with
  | 0 => ("FairGround", "green", "LFairGround$Green;", true)
  | 1 => ("FairGround", "rides", "[LFairGround$Ride;", true)
  | 2 => ("FairGround", "byRank", "[LFairGround$Ride;", true)
  | 3 => ("FairGround", "rideCount", "I", false)
  | 4 => ("FairGround", "year", "I", false)
  | 5 => ("FairGround", "trial", "LFairGround$Spot;", true)
  | 6 => ("FairGround", "tape", "LFairGround$Tape;", true)
  | 7 => ("FairGround", "reader", "LFairGround$Reader;", true)
  | 8 => ("FairGround", "law", "LFairGround$Law;", false)
  | 9 => ("FairGround", "draft", "LFairGround$Law;", false)
  | 10 => ("FairGround", "facts", "[I", true)
  | 11 => ("FairGround", "lineBears", "[I", true)
  | 12 => ("FairGround", "shares", "[I", true)
  | _ => ("FairGround", "ratePerCell", "I", false)
def tyX6 : Nat → FieldType := fun k => match k with
  | 0 => .object "FairGround$Green"
  | 1 => .array (.object "FairGround$Ride")
  | 2 => .array (.object "FairGround$Ride")
  | 3 => .int
  | 4 => .int
  | 5 => .object "FairGround$Spot"
  | 6 => .object "FairGround$Tape"
  | 7 => .object "FairGround$Reader"
  | 8 => .object "FairGround$Law"
  | 9 => .object "FairGround$Law"
  | 10 => .array .int
  | 11 => .array .int
  | 12 => .array .int
  | _ => .int
theorem nmX6 : ∀ a, a < 14 → ∀ b, b < 14 → a ≠ b → (TX6 a).2.1 ≠ (TX6 b).2.1 := by decide +kernel
theorem tyX6_ok : ∀ k, k < 14 → parseFieldDescriptor (TX6 k).2.2.1 = some (tyX6 k) := by decide +kernel
abbrev cX6_init : ByteArray := prog_1_method_1_code
def yX6_init : MethodName := ⟨RX6, "<init>", "()V"⟩
abbrev cX6_close : ByteArray := prog_1_method_2_code
def yX6_close : MethodName := ⟨RX6, "close", "(IIZ)Z"⟩
abbrev cX6_gate : ByteArray := prog_1_method_3_code
def yX6_gate : MethodName := ⟨RX6, "gate", "(I)Z"⟩
abbrev cX6_ride : ByteArray := prog_1_method_4_code
def yX6_ride : MethodName := ⟨RX6, "ride", "(IIIII)I"⟩
abbrev cX6_fits : ByteArray := prog_1_method_5_code
def yX6_fits : MethodName := ⟨RX6, "fits", "(IIIZ)I"⟩
abbrev cX6_lay : ByteArray := prog_1_method_6_code
def yX6_lay : MethodName := ⟨RX6, "lay", "(IIIZ)Z"⟩
abbrev cX6_take : ByteArray := prog_1_method_7_code
def yX6_take : MethodName := ⟨RX6, "take", "(I)Z"⟩
abbrev cX6_layAll : ByteArray := prog_1_method_8_code
def yX6_layAll : MethodName := ⟨RX6, "layAll", "()I"⟩
abbrev cX6_orders : ByteArray := prog_1_method_9_code
def yX6_orders : MethodName := ⟨RX6, "orders", "()I"⟩
abbrev cX6_order : ByteArray := prog_1_method_10_code
def yX6_order : MethodName := ⟨RX6, "order", "(I)I"⟩
abbrev cX6_sick : ByteArray := prog_1_method_11_code
def yX6_sick : MethodName := ⟨RX6, "sick", "(I)Z"⟩
abbrev cX6_end : ByteArray := prog_1_method_12_code
def yX6_end : MethodName := ⟨RX6, "end", "()I"⟩
abbrev cX6_feed : ByteArray := prog_1_method_13_code
def yX6_feed : MethodName := ⟨RX6, "feed", "(JJJ)I"⟩
abbrev cX6_text : ByteArray := prog_1_method_14_code
def yX6_text : MethodName := ⟨RX6, "text", "()I"⟩
abbrev cX6_bears : ByteArray := prog_1_method_15_code
def yX6_bears : MethodName := ⟨RX6, "bears", "(II)Z"⟩
abbrev cX6_lit : ByteArray := prog_1_method_16_code
def yX6_lit : MethodName := ⟨RX6, "lit", "(I)I"⟩
abbrev cX6_rate : ByteArray := prog_1_method_17_code
def yX6_rate : MethodName := ⟨RX6, "rate", "(I)Z"⟩
abbrev cX6_share : ByteArray := prog_1_method_18_code
def yX6_share : MethodName := ⟨RX6, "share", "(II)Z"⟩
abbrev cX6_rent : ByteArray := prog_1_method_19_code
def yX6_rent : MethodName := ⟨RX6, "rent", "(I)I"⟩
abbrev cX6_change : ByteArray := prog_1_method_20_code
def yX6_change : MethodName := ⟨RX6, "change", "(IIII)I"⟩
abbrev cX6_look : ByteArray := prog_1_method_21_code
def yX6_look : MethodName := ⟨RX6, "look", "(II)I"⟩
abbrev cX6_cell : ByteArray := prog_1_method_22_code
def yX6_cell : MethodName := ⟨RX6, "cell", "(II)I"⟩
abbrev cX6_count : ByteArray := prog_1_method_23_code
def yX6_count : MethodName := ⟨RX6, "count", "(I)I"⟩
abbrev cX6_isWithin : ByteArray := prog_1_method_24_code
def yX6_isWithin : MethodName := ⟨RX6, "isWithin", "(III)Z"⟩
abbrev cX6_isSize : ByteArray := prog_1_method_25_code
def yX6_isSize : MethodName := ⟨RX6, "isSize", "(II)Z"⟩
abbrev cX6_find : ByteArray := prog_1_method_26_code
def yX6_find : MethodName := ⟨RX6, "find", "(I)LFairGround$Ride;"⟩
abbrev cX6_countLying : ByteArray := prog_1_method_27_code
def yX6_countLying : MethodName := ⟨RX6, "countLying", "()I"⟩
abbrev cX6_countRights : ByteArray := prog_1_method_28_code
def yX6_countRights : MethodName := ⟨RX6, "countRights", "()I"⟩
abbrev cX6_isDoor : ByteArray := prog_1_method_29_code
def yX6_isDoor : MethodName := ⟨RX6, "isDoor", "(II)Z"⟩
abbrev cX6_areDoorsJoined : ByteArray := prog_1_method_30_code
def yX6_areDoorsJoined : MethodName := ⟨RX6, "areDoorsJoined", "()Z"⟩
abbrev cX6_canLie : ByteArray := prog_1_method_31_code
def yX6_canLie : MethodName := ⟨RX6, "canLie", "(LFairGround$Ride;LFairGround$Spot;)Z"⟩
abbrev cX6_isClear : ByteArray := prog_1_method_32_code
def yX6_isClear : MethodName := ⟨RX6, "isClear", "(LFairGround$Spot;)Z"⟩
abbrev cX6_isClearOfOthers : ByteArray := prog_1_method_33_code
def yX6_isClearOfOthers : MethodName := ⟨RX6, "isClearOfOthers", "(LFairGround$Ride;LFairGround$Spot;)Z"⟩
abbrev cX6_layIfItFits : ByteArray := prog_1_method_34_code
def yX6_layIfItFits : MethodName := ⟨RX6, "layIfItFits", "(LFairGround$Ride;)Z"⟩
abbrev cX6_layAtFirstPlace : ByteArray := prog_1_method_35_code
def yX6_layAtFirstPlace : MethodName := ⟨RX6, "layAtFirstPlace", "(LFairGround$Ride;)V"⟩
abbrev cX6_takeAway : ByteArray := prog_1_method_36_code
def yX6_takeAway : MethodName := ⟨RX6, "takeAway", "(LFairGround$Ride;)V"⟩
abbrev cX6_keepsRight : ByteArray := prog_1_method_37_code
def yX6_keepsRight : MethodName := ⟨RX6, "keepsRight", "(LFairGround$Ride;)Z"⟩
abbrev cX6_powerWanted : ByteArray := prog_1_method_38_code
def yX6_powerWanted : MethodName := ⟨RX6, "powerWanted", "(I)I"⟩
abbrev cX6_allRents : ByteArray := prog_1_method_39_code
def yX6_allRents : MethodName := ⟨RX6, "allRents", "()I"⟩
abbrev cX6_couldGrowTo : ByteArray := prog_1_method_40_code
def yX6_couldGrowTo : MethodName := ⟨RX6, "couldGrowTo", "(LFairGround$Ride;LFairGround$Spot;)Z"⟩
abbrev cX6_movedBy : ByteArray := prog_1_method_41_code
def yX6_movedBy : MethodName := ⟨RX6, "movedBy", "(LFairGround$Ride;LFairGround$Spot;)I"⟩
def RX7 : String := "FairGroundModel"
def TX7 : u_T := fun k => match k with
  | 0 => ("FairGroundModel", "thrown", "I", false)
  | 1 => ("FairGroundModel", "tape", "[I", true)
  | 2 => ("FairGroundModel", "taped", "I", false)
  | 3 => ("FairGroundModel", "size", "I", false)
  | 4 => ("FairGroundModel", "sort", "[I", true)
  | 5 => ("FairGroundModel", "place", "[I", true)
  | 6 => ("FairGroundModel", "value", "[J", true)
  | 7 => ("FairGroundModel", "at", "I", false)
  | 8 => ("FairGroundModel", "fault", "I", false)
  | 9 => ("FairGroundModel", "words", "[J", true)
  | 10 => ("FairGroundModel", "lines", "[I", true)
  | 11 => ("FairGroundModel", "isLapse", "[Z", true)
  | 12 => ("FairGroundModel", "lineAt", "[I", true)
  | 13 => ("FairGroundModel", "op", "[I", true)
  | 14 => ("FairGroundModel", "one", "[I", true)
  | 15 => ("FairGroundModel", "holds", "I", false)
  | 16 => ("FairGroundModel", "next", "I", false)
  | 17 => ("FairGroundModel", "codes", "I", false)
  | 18 => ("FairGroundModel", "deep", "I", false)
  | 19 => ("FairGroundModel", "sumWaits", "[I", true)
  | 20 => ("FairGroundModel", "signWaits", "[I", true)
  | 21 => ("FairGroundModel", "andWaits", "[I", true)
  | 22 => ("FairGroundModel", "known", "[I", true)
  | 23 => ("FairGroundModel", "pile", "[I", true)
  | 24 => ("FairGroundModel", "rides", "I", false)
  | 25 => ("FairGroundModel", "wide", "[I", true)
  | 26 => ("FairGroundModel", "high", "[I", true)
  | 27 => ("FairGroundModel", "power", "[I", true)
  | 28 => ("FairGroundModel", "noise", "[I", true)
  | 29 => ("FairGroundModel", "rank", "[I", true)
  | 30 => ("FairGroundModel", "lies", "[I", true)
  | 31 => ("FairGroundModel", "right", "[I", true)
  | 32 => ("FairGroundModel", "held", "[I", true)
  | 33 => ("FairGroundModel", "missed", "[I", true)
  | 34 => ("FairGroundModel", "isSick", "[Z", true)
  | 35 => ("FairGroundModel", "year", "I", false)
  | 36 => ("FairGroundModel", "isClosed", "[Z", true)
  | 37 => ("FairGroundModel", "gateRow", "I", false)
  | 38 => ("FairGroundModel", "isBarred", "[Z", true)
  | 39 => ("FairGroundModel", "isReached", "[Z", true)
  | 40 => ("FairGroundModel", "isAsked", "[Z", true)
  | 41 => ("FairGroundModel", "ways", "[I", true)
  | 42 => ("FairGroundModel", "can", "[I", true)
  | 43 => ("FairGroundModel", "cover", "[I", true)
  | 44 => ("FairGroundModel", "bears", "[I", true)
  | 45 => ("FairGroundModel", "rate", "I", false)
  | 46 => ("FairGroundModel", "share", "[I", true)
  | 47 => ("FairGroundModel", "isLit", "[Z", true)
  | 48 => ("FairGroundModel", "rest", "[I", true)
  | _ => ("FairGroundModel", "has", "[I", true)
def tyX7 : Nat → FieldType := fun k => match k with
  | 0 => .int
  | 1 => .array .int
  | 2 => .int
  | 3 => .int
  | 4 => .array .int
  | 5 => .array .int
  | 6 => .array .long
  | 7 => .int
  | 8 => .int
  | 9 => .array .long
  | 10 => .array .int
  | 11 => .array .boolean
  | 12 => .array .int
  | 13 => .array .int
  | 14 => .array .int
  | 15 => .int
  | 16 => .int
  | 17 => .int
  | 18 => .int
  | 19 => .array .int
  | 20 => .array .int
  | 21 => .array .int
  | 22 => .array .int
  | 23 => .array .int
  | 24 => .int
  | 25 => .array .int
  | 26 => .array .int
  | 27 => .array .int
  | 28 => .array .int
  | 29 => .array .int
  | 30 => .array .int
  | 31 => .array .int
  | 32 => .array .int
  | 33 => .array .int
  | 34 => .array .boolean
  | 35 => .int
  | 36 => .array .boolean
  | 37 => .int
  | 38 => .array .boolean
  | 39 => .array .boolean
  | 40 => .array .boolean
  | 41 => .array .int
  | 42 => .array .int
  | 43 => .array .int
  | 44 => .array .int
  | 45 => .int
  | 46 => .array .int
  | 47 => .array .boolean
  | 48 => .array .int
  | _ => .array .int
theorem nmX7 : ∀ a, a < 50 → ∀ b, b < 50 → a ≠ b → (TX7 a).2.1 ≠ (TX7 b).2.1 := by decide +kernel
theorem tyX7_ok : ∀ k, k < 50 → parseFieldDescriptor (TX7 k).2.2.1 = some (tyX7 k) := by decide +kernel
abbrev cX7_thrown : ByteArray := prog_9_method_1_code
def yX7_thrown : MethodName := ⟨RX7, "thrown", "()I"⟩
abbrev cX7_feed : ByteArray := prog_9_method_2_code
def yX7_feed : MethodName := ⟨RX7, "feed", "(JJJ)I"⟩
abbrev cX7_lay : ByteArray := prog_9_method_3_code
def yX7_lay : MethodName := ⟨RX7, "lay", "(J)V"⟩
abbrev cX7_init : ByteArray := prog_9_method_4_code
def yX7_init : MethodName := ⟨RX7, "<init>", "()V"⟩
abbrev cX7_isLetter : ByteArray := prog_9_method_5_code
def yX7_isLetter : MethodName := ⟨RX7, "isLetter", "(I)Z"⟩
abbrev cX7_isDigit : ByteArray := prog_9_method_6_code
def yX7_isDigit : MethodName := ⟨RX7, "isDigit", "(I)Z"⟩
abbrev cX7_rank : ByteArray := prog_9_method_7_code
def yX7_rank : MethodName := ⟨RX7, "rank", "(I)I"⟩
abbrev cX7_isSignOf : ByteArray := prog_9_method_8_code
def yX7_isSignOf : MethodName := ⟨RX7, "isSignOf", "(I)Z"⟩
abbrev cX7_cutAll : ByteArray := prog_9_method_9_code
def yX7_cutAll : MethodName := ⟨RX7, "cutAll", "()V"⟩
abbrev cX7_wrong : ByteArray := prog_9_method_10_code
def yX7_wrong : MethodName := ⟨RX7, "wrong", "(I)V"⟩
abbrev cX7_isSign : ByteArray := prog_9_method_11_code
def yX7_isSign : MethodName := ⟨RX7, "isSign", "(I)Z"⟩
abbrev cX7_isWord : ByteArray := prog_9_method_12_code
def yX7_isWord : MethodName := ⟨RX7, "isWord", "(I)Z"⟩
abbrev cX7_takeSign : ByteArray := prog_9_method_13_code
def yX7_takeSign : MethodName := ⟨RX7, "takeSign", "(I)V"⟩
abbrev cX7_hasSign : ByteArray := prog_9_method_14_code
def yX7_hasSign : MethodName := ⟨RX7, "hasSign", "(I)Z"⟩
abbrev cX7_hasWord : ByteArray := prog_9_method_15_code
def yX7_hasWord : MethodName := ⟨RX7, "hasWord", "(I)Z"⟩
abbrev cX7_takeWord : ByteArray := prog_9_method_16_code
def yX7_takeWord : MethodName := ⟨RX7, "takeWord", "(I)V"⟩
abbrev cX7_emit : ByteArray := prog_9_method_17_code
def yX7_emit : MethodName := ⟨RX7, "emit", "(II)V"⟩
abbrev cX7_text : ByteArray := prog_9_method_18_code
def yX7_text : MethodName := ⟨RX7, "text", "()I"⟩
abbrev cX7_line : ByteArray := prog_9_method_19_code
def yX7_line : MethodName := ⟨RX7, "line", "()V"⟩
abbrev cX7_opens : ByteArray := prog_9_method_20_code
def yX7_opens : MethodName := ⟨RX7, "opens", "()V"⟩
abbrev cX7_partWord : ByteArray := prog_9_method_21_code
def yX7_partWord : MethodName := ⟨RX7, "partWord", "()I"⟩
abbrev cX7_part : ByteArray := prog_9_method_22_code
def yX7_part : MethodName := ⟨RX7, "part", "()Z"⟩
abbrev cX7_goesOnBehind : ByteArray := prog_9_method_23_code
def yX7_goesOnBehind : MethodName := ⟨RX7, "goesOnBehind", "()Z"⟩
abbrev cX7_worth : ByteArray := prog_9_method_24_code
def yX7_worth : MethodName := ⟨RX7, "worth", "(I)I"⟩
abbrev cX7_ride : ByteArray := prog_9_method_25_code
def yX7_ride : MethodName := ⟨RX7, "ride", "(IIIII)I"⟩
abbrev cX7_isRide : ByteArray := prog_9_method_26_code
def yX7_isRide : MethodName := ⟨RX7, "isRide", "(I)Z"⟩
abbrev cX7_isCell : ByteArray := prog_9_method_27_code
def yX7_isCell : MethodName := ⟨RX7, "isCell", "(II)Z"⟩
abbrev cX7_placeX : ByteArray := prog_9_method_28_code
def yX7_placeX : MethodName := ⟨RX7, "placeX", "(I)I"⟩
abbrev cX7_placeY : ByteArray := prog_9_method_29_code
def yX7_placeY : MethodName := ⟨RX7, "placeY", "(I)I"⟩
abbrev cX7_widthAt : ByteArray := prog_9_method_30_code
def yX7_widthAt : MethodName := ⟨RX7, "widthAt", "(II)I"⟩
abbrev cX7_heightAt : ByteArray := prog_9_method_31_code
def yX7_heightAt : MethodName := ⟨RX7, "heightAt", "(II)I"⟩
abbrev cX7_isIn : ByteArray := prog_9_method_32_code
def yX7_isIn : MethodName := ⟨RX7, "isIn", "(IIIII)Z"⟩
abbrev cX7_coversAt : ByteArray := prog_9_method_33_code
def yX7_coversAt : MethodName := ⟨RX7, "coversAt", "(III)Z"⟩
abbrev cX7_covers : ByteArray := prog_9_method_34_code
def yX7_covers : MethodName := ⟨RX7, "covers", "(II)Z"⟩
abbrev cX7_coveredBy : ByteArray := prog_9_method_35_code
def yX7_coveredBy : MethodName := ⟨RX7, "coveredBy", "(I)I"⟩
abbrev cX7_isFree : ByteArray := prog_9_method_36_code
def yX7_isFree : MethodName := ⟨RX7, "isFree", "(I)Z"⟩
abbrev cX7_doorAt : ByteArray := prog_9_method_37_code
def yX7_doorAt : MethodName := ⟨RX7, "doorAt", "(II)I"⟩
abbrev cX7_door : ByteArray := prog_9_method_38_code
def yX7_door : MethodName := ⟨RX7, "door", "(I)I"⟩
abbrev cX7_gateCell : ByteArray := prog_9_method_39_code
def yX7_gateCell : MethodName := ⟨RX7, "gateCell", "()I"⟩
abbrev cX7_reaches : ByteArray := prog_9_method_40_code
def yX7_reaches : MethodName := ⟨RX7, "reaches", "()V"⟩
abbrev cX7_isBeside : ByteArray := prog_9_method_41_code
def yX7_isBeside : MethodName := ⟨RX7, "isBeside", "(I)Z"⟩
abbrev cX7_barsAll : ByteArray := prog_9_method_42_code
def yX7_barsAll : MethodName := ⟨RX7, "barsAll", "()V"⟩
abbrev cX7_areDoorsJoined : ByteArray := prog_9_method_43_code
def yX7_areDoorsJoined : MethodName := ⟨RX7, "areDoorsJoined", "()Z"⟩
abbrev cX7_close : ByteArray := prog_9_method_44_code
def yX7_close : MethodName := ⟨RX7, "close", "(IIZ)Z"⟩
abbrev cX7_gate : ByteArray := prog_9_method_45_code
def yX7_gate : MethodName := ⟨RX7, "gate", "(I)Z"⟩
abbrev cX7_lying : ByteArray := prog_9_method_46_code
def yX7_lying : MethodName := ⟨RX7, "lying", "()I"⟩
abbrev cX7_isOn : ByteArray := prog_9_method_47_code
def yX7_isOn : MethodName := ⟨RX7, "isOn", "(II)Z"⟩
abbrev cX7_isRoom : ByteArray := prog_9_method_48_code
def yX7_isRoom : MethodName := ⟨RX7, "isRoom", "(II)Z"⟩
abbrev cX7_isQuiet : ByteArray := prog_9_method_49_code
def yX7_isQuiet : MethodName := ⟨RX7, "isQuiet", "(III)Z"⟩
abbrev cX7_fitsAt : ByteArray := prog_9_method_50_code
def yX7_fitsAt : MethodName := ⟨RX7, "fitsAt", "(II)Z"⟩
abbrev cX7_placeOf : ByteArray := prog_9_method_51_code
def yX7_placeOf : MethodName := ⟨RX7, "placeOf", "(IIZ)I"⟩
abbrev cX7_fits : ByteArray := prog_9_method_52_code
def yX7_fits : MethodName := ⟨RX7, "fits", "(IIIZ)I"⟩
abbrev cX7_lay_ : ByteArray := prog_9_method_53_code
def yX7_lay_ : MethodName := ⟨RX7, "lay", "(IIIZ)Z"⟩
abbrev cX7_take : ByteArray := prog_9_method_54_code
def yX7_take : MethodName := ⟨RX7, "take", "(I)Z"⟩
abbrev cX7_nextAsked : ByteArray := prog_9_method_55_code
def yX7_nextAsked : MethodName := ⟨RX7, "nextAsked", "()I"⟩
abbrev cX7_layAll : ByteArray := prog_9_method_56_code
def yX7_layAll : MethodName := ⟨RX7, "layAll", "()I"⟩
abbrev cX7_firstPlace : ByteArray := prog_9_method_57_code
def yX7_firstPlace : MethodName := ⟨RX7, "firstPlace", "(I)I"⟩
abbrev cX7_pullsOn : ByteArray := prog_9_method_58_code
def yX7_pullsOn : MethodName := ⟨RX7, "pullsOn", "(I)I"⟩
abbrev cX7_setLying : ByteArray := prog_9_method_59_code
def yX7_setLying : MethodName := ⟨RX7, "setLying", "()I"⟩
abbrev cX7_findWays : ByteArray := prog_9_method_60_code
def yX7_findWays : MethodName := ⟨RX7, "findWays", "()V"⟩
abbrev cX7_orders : ByteArray := prog_9_method_61_code
def yX7_orders : MethodName := ⟨RX7, "orders", "()I"⟩
abbrev cX7_order : ByteArray := prog_9_method_62_code
def yX7_order : MethodName := ⟨RX7, "order", "(I)I"⟩
abbrev cX7_sick : ByteArray := prog_9_method_63_code
def yX7_sick : MethodName := ⟨RX7, "sick", "(I)Z"⟩
abbrev cX7_lapses : ByteArray := prog_9_method_64_code
def yX7_lapses : MethodName := ⟨RX7, "lapses", "(I)Z"⟩
abbrev cX7_end : ByteArray := prog_9_method_65_code
def yX7_end : MethodName := ⟨RX7, "end", "()I"⟩
abbrev cX7_bears : ByteArray := prog_9_method_66_code
def yX7_bears : MethodName := ⟨RX7, "bears", "(II)Z"⟩
abbrev cX7_lineOf : ByteArray := prog_9_method_67_code
def yX7_lineOf : MethodName := ⟨RX7, "lineOf", "(I)I"⟩
abbrev cX7_lights : ByteArray := prog_9_method_68_code
def yX7_lights : MethodName := ⟨RX7, "lights", "(I)V"⟩
abbrev cX7_lit : ByteArray := prog_9_method_69_code
def yX7_lit : MethodName := ⟨RX7, "lit", "(I)I"⟩
abbrev cX7_rate : ByteArray := prog_9_method_70_code
def yX7_rate : MethodName := ⟨RX7, "rate", "(I)Z"⟩
abbrev cX7_share : ByteArray := prog_9_method_71_code
def yX7_share : MethodName := ⟨RX7, "share", "(II)Z"⟩
abbrev cX7_rents : ByteArray := prog_9_method_72_code
def yX7_rents : MethodName := ⟨RX7, "rents", "()I"⟩
abbrev cX7_rent : ByteArray := prog_9_method_73_code
def yX7_rent : MethodName := ⟨RX7, "rent", "(I)I"⟩
abbrev cX7_movesFor : ByteArray := prog_9_method_74_code
def yX7_movesFor : MethodName := ⟨RX7, "movesFor", "(IIIII)I"⟩
abbrev cX7_bits : ByteArray := prog_9_method_75_code
def yX7_bits : MethodName := ⟨RX7, "bits", "(I)I"⟩
abbrev cX7_change : ByteArray := prog_9_method_76_code
def yX7_change : MethodName := ⟨RX7, "change", "(IIII)I"⟩
abbrev cX7_look : ByteArray := prog_9_method_77_code
def yX7_look : MethodName := ⟨RX7, "look", "(II)I"⟩
abbrev cX7_cell : ByteArray := prog_9_method_78_code
def yX7_cell : MethodName := ⟨RX7, "cell", "(II)I"⟩
abbrev cX7_count : ByteArray := prog_9_method_79_code
def yX7_count : MethodName := ⟨RX7, "count", "(I)I"⟩
def RJ6 : String := "java/lang/Integer"
def TJ6 : u_T := fun k => match k with
  | _ => ("", "", "", false)
def tyJ6 : Nat → FieldType := fun k => match k with
  | _ => .int
theorem nmJ6 : ∀ a, a < 0 → ∀ b, b < 0 → a ≠ b → (TJ6 a).2.1 ≠ (TJ6 b).2.1 := by decide +kernel
theorem tyJ6_ok : ∀ k, k < 0 → parseFieldDescriptor (TJ6 k).2.2.1 = some (tyJ6 k) := by decide +kernel
abbrev cJ6_bitCount_0f7a4 : ByteArray := prog_11_method_49_code
def yJ6_bitCount_0f7a4 : MethodName := ⟨RJ6, "bitCount", "(I)I"⟩
def RJ9 : String := "java/lang/Math"
def TJ9 : u_T := fun k => match k with
  | _ => ("", "", "", false)
def tyJ9 : Nat → FieldType := fun k => match k with
  | _ => .int
theorem nmJ9 : ∀ a, a < 0 → ∀ b, b < 0 → a ≠ b → (TJ9 a).2.1 ≠ (TJ9 b).2.1 := by decide +kernel
theorem tyJ9_ok : ∀ k, k < 0 → parseFieldDescriptor (TJ9 k).2.2.1 = some (tyJ9 k) := by decide +kernel
abbrev cJ9_max_7cf53 : ByteArray := prog_12_method_65_code
def yJ9_max_7cf53 : MethodName := ⟨RJ9, "max", "(II)I"⟩
def RJ0 : String := "java/lang/String"
def TJ0 : u_T := fun k => match k with
  | _ => ("", "", "", false)
def tyJ0 : Nat → FieldType := fun k => match k with
  | _ => .int
theorem nmJ0 : ∀ a, a < 0 → ∀ b, b < 0 → a ≠ b → (TJ0 a).2.1 ≠ (TJ0 b).2.1 := by decide +kernel
theorem tyJ0_ok : ∀ k, k < 0 → parseFieldDescriptor (TJ0 k).2.2.1 = some (tyJ0 k) := by decide +kernel
abbrev cJ0_length_8abf5 : ByteArray := prog_14_method_54_code
def yJ0_length_8abf5 : MethodName := ⟨RJ0, "length", "()I"⟩
abbrev cJ0_charAt_5068e : ByteArray := prog_14_method_56_code
def yJ0_charAt_5068e : MethodName := ⟨RJ0, "charAt", "(I)C"⟩
abbrev cJ0_coder_7d493 : ByteArray := prog_14_method_152_code
def yJ0_coder_7d493 : MethodName := ⟨RJ0, "coder", "()B"⟩
abbrev cJ0_isLatin1_aae02 : ByteArray := prog_14_method_154_code
def yJ0_isLatin1_aae02 : MethodName := ⟨RJ0, "isLatin1", "()Z"⟩
abbrev cJ0_checkIndex_df160 : ByteArray := prog_14_method_155_code
def yJ0_checkIndex_df160 : MethodName := ⟨RJ0, "checkIndex", "(II)V"⟩
def RJ1 : String := "java/lang/StringLatin1"
def TJ1 : u_T := fun k => match k with
  | _ => ("", "", "", false)
def tyJ1 : Nat → FieldType := fun k => match k with
  | _ => .int
theorem nmJ1 : ∀ a, a < 0 → ∀ b, b < 0 → a ≠ b → (TJ1 a).2.1 ≠ (TJ1 b).2.1 := by decide +kernel
theorem tyJ1_ok : ∀ k, k < 0 → parseFieldDescriptor (TJ1 k).2.2.1 = some (tyJ1 k) := by decide +kernel
abbrev cJ1_charAt_3b067 : ByteArray := prog_15_method_2_code
def yJ1_charAt_3b067 : MethodName := ⟨RJ1, "charAt", "([BI)C"⟩
def RJ2 : String := "java/lang/StringUTF16"
def TJ2 : u_T := fun k => match k with
  | _ => ("", "", "", false)
def tyJ2 : Nat → FieldType := fun k => match k with
  | _ => .int
theorem nmJ2 : ∀ a, a < 0 → ∀ b, b < 0 → a ≠ b → (TJ2 a).2.1 ≠ (TJ2 b).2.1 := by decide +kernel
theorem tyJ2_ok : ∀ k, k < 0 → parseFieldDescriptor (TJ2 k).2.2.1 = some (tyJ2 k) := by decide +kernel
abbrev cJ2_getChar_3b067 : ByteArray := prog_16_method_5_code
def yJ2_getChar_3b067 : MethodName := ⟨RJ2, "getChar", "([BI)C"⟩
abbrev cJ2_length_9d52b : ByteArray := prog_16_method_6_code
def yJ2_length_9d52b : MethodName := ⟨RJ2, "length", "([B)I"⟩
abbrev cJ2_charAt_3b067 : ByteArray := prog_16_method_83_code
def yJ2_charAt_3b067 : MethodName := ⟨RJ2, "charAt", "([BI)C"⟩
abbrev cJ2_checkIndex_2214a : ByteArray := prog_16_method_91_code
def yJ2_checkIndex_2214a : MethodName := ⟨RJ2, "checkIndex", "(I[B)V"⟩
def RJ7 : String := "java/util/Arrays"
def TJ7 : u_T := fun k => match k with
  | _ => ("", "", "", false)
def tyJ7 : Nat → FieldType := fun k => match k with
  | _ => .int
theorem nmJ7 : ∀ a, a < 0 → ∀ b, b < 0 → a ≠ b → (TJ7 a).2.1 ≠ (TJ7 b).2.1 := by decide +kernel
theorem tyJ7_ok : ∀ k, k < 0 → parseFieldDescriptor (TJ7 k).2.2.1 = some (tyJ7 k) := by decide +kernel
abbrev cJ7_fill_53178 : ByteArray := prog_18_method_103_code
def yJ7_fill_53178 : MethodName := ⟨RJ7, "fill", "([II)V"⟩
def RJ3 : String := "jdk/internal/util/Preconditions"
def TJ3 : u_T := fun k => match k with
  | _ => ("", "", "", false)
def tyJ3 : Nat → FieldType := fun k => match k with
  | _ => .int
theorem nmJ3 : ∀ a, a < 0 → ∀ b, b < 0 → a ≠ b → (TJ3 a).2.1 ≠ (TJ3 b).2.1 := by decide +kernel
theorem tyJ3_ok : ∀ k, k < 0 → parseFieldDescriptor (TJ3 k).2.2.1 = some (tyJ3 k) := by decide +kernel
abbrev cJ3_checkIndex_8e157 : ByteArray := prog_20_method_11_code
def yJ3_checkIndex_8e157 : MethodName := ⟨RJ3, "checkIndex", "(IILjava/util/function/BiFunction;)I"⟩
def RL : String := "FairGroundLaw"
abbrev cL_look : ByteArray := method_3_code
def yL_look : MethodName := ⟨RL, "look", "(LFairGround;II[J)I"⟩
abbrev cL_law : ByteArray := code
def yL_law : MethodName := ⟨RL, "law", "([I)Z"⟩
abbrev vwCl : List vw_C := [(RX0, TX0, 5), (RX1, TX1, 6), (RX2, TX2, 6), (RX3, TX3, 12), (RX4, TX4, 5), (RX5, TX5, 2), (RX6, TX6, 14), (RX7, TX7, 50)]
end
section
/-! ===== the heap as functions; the world; the judgement wX ===== -/
def rv (n : Nat) : Value := if n = 0 then .null else .ref n
def op (n : Nat) : Option Nat := if n = 0 then none else some n
theorem va_rf_op (n : Nat) : va_rf (op n) = rv n := by unfold op rv; split <;> rfl
theorem rv_ref {n : Nat} (h : n ≠ 0) : rv n = .ref n := if_neg h
theorem rv_0 : rv 0 = .null := rfl
theorem rv_cat (n : Nat) : (rv n).category = 1 := by unfold rv; split <;> rfl
theorem rv_or (n : Nat) : rv n = .null ∨ ∃ a, rv n = .ref a := by
  unfold rv; split
  · exact Or.inl rfl
  · exact Or.inr ⟨_, rfl⟩
def b2i (b : Bool) : Int32 := if b then 1 else 0
theorem b2i_t : b2i true = 1 := rfl
theorem b2i_f : b2i false = 0 := rfl
theorem b2i_nar (b : Bool) : narrow .boolean (.int (b2i b)) = .int (b2i b) := by cases b <;> decide
theorem b2i_0 (b : Bool) : b2i b = 0 ↔ b = false := by cases b <;> decide
theorem b2i_n0 (b : Bool) : ¬ b2i b = 0 ↔ b = true := by cases b <;> decide
def up2 {α : Type} (f : Nat → Nat → α) (g a : Nat) (v : α) : Nat → Nat → α := fun g' a' => if g' = g ∧ a' = a then v else f g' a'
def clr {α : Type} (f : Nat → Nat → α) (a : Nat) (v : α) : Nat → Nat → α := fun g' a' => if a' = a then v else f g' a'
def clr1 {α : Type} (f : Nat → Nat → α) (a : Nat) (v : α) : Nat → Nat → α := fun a' j => if a' = a then v else f a' j
def HP : Type := (Nat → Nat × Nat) × (Nat → Nat → Int32) × (Nat → Nat → Nat) × (Nat → Nat → Int32) × (Nat → Nat → Int64) × (Nat → Nat → Nat) × (Nat → Nat)
def HP.of (kd : Nat → Nat × Nat) (fi : Nat → Nat → Int32) (fr : Nat → Nat → Nat) (ai : Nat → Nat → Int32) (al : Nat → Nat → Int64) (ar : Nat → Nat → Nat) (gl : Nat → Nat) : HP := (kd, fi, fr, ai, al, ar, gl)
/-- kinds: (0, c) an object of the class c; (8 byte, 9 int, 10 long, 11 boolean, 12 Ride; n) an array of length n; (99, _) none -/
def HP.kd (h : HP) : Nat → Nat × Nat := Prod.fst h
def HP.fi (h : HP) : Nat → Nat → Int32 := Prod.fst (Prod.snd h)
def HP.fr (h : HP) : Nat → Nat → Nat := Prod.fst (Prod.snd (Prod.snd h))
def HP.ai (h : HP) : Nat → Nat → Int32 := Prod.fst (Prod.snd (Prod.snd (Prod.snd h)))
def HP.al (h : HP) : Nat → Nat → Int64 := Prod.fst (Prod.snd (Prod.snd (Prod.snd (Prod.snd h))))
def HP.ar (h : HP) : Nat → Nat → Nat := Prod.fst (Prod.snd (Prod.snd (Prod.snd (Prod.snd (Prod.snd h)))))
/-- labels of our own: which cell is which -/
def HP.gl (h : HP) : Nat → Nat := Prod.snd (Prod.snd (Prod.snd (Prod.snd (Prod.snd (Prod.snd h)))))
def HP.setI (h : HP) (g a : Nat) (v : Int32) : HP := HP.of h.kd (up2 h.fi g a v) h.fr h.ai h.al h.ar h.gl
def HP.setR (h : HP) (g a : Nat) (v : Nat) : HP := HP.of h.kd h.fi (up2 h.fr g a v) h.ai h.al h.ar h.gl
def HP.stI (h : HP) (a i : Nat) (v : Int32) : HP := HP.of h.kd h.fi h.fr (up2 h.ai a i v) h.al h.ar h.gl
def HP.stL (h : HP) (a i : Nat) (v : Int64) : HP := HP.of h.kd h.fi h.fr h.ai (up2 h.al a i v) h.ar h.gl
def HP.stR (h : HP) (a i : Nat) (v : Nat) : HP := HP.of h.kd h.fi h.fr h.ai h.al (up2 h.ar a i v) h.gl
def HP.new (h : HP) (a : Nat) (k : Nat × Nat) (lb : Nat) : HP := HP.of (fun b => if b = a then k else h.kd b) (clr h.fi a 0) (clr h.fr a 0) (clr1 h.ai a 0) (clr1 h.al a 0) (clr1 h.ar a 0) (fun b => if b = a then lb else h.gl b)
def gid (c k : Nat) : Nat := 64 * c + k
def fv (h : HP) (a : Nat) (q : Bool × Nat) : Value := match q.1 with
  | true => rv (h.fr q.2 a)
  | false => .int (h.fi q.2 a)
def ftab (c : Nat) : List (Bool × Nat) := match c with
  | 0 => [(true, 0), (true, 1), (true, 2), (false, 3), (false, 4)]
  | 1 => [(true, 64), (false, 65), (true, 66), (true, 67), (true, 68), (false, 69)]
  | 2 => [(true, 128), (true, 129), (true, 130), (false, 131), (false, 132), (false, 133)]
  | 3 => [(false, 192), (false, 193), (false, 194), (false, 195), (false, 196), (false, 197), (true, 198), (false, 199), (false, 200), (false, 201), (false, 202), (false, 203)]
  | 4 => [(false, 256), (false, 257), (false, 258), (false, 259), (false, 260)]
  | 5 => [(true, 320), (false, 321)]
  | 6 => [(true, 384), (true, 385), (true, 386), (false, 387), (false, 388), (true, 389), (true, 390), (true, 391), (true, 392), (true, 393), (true, 394), (true, 395), (true, 396), (false, 397)]
  | 7 => [(false, 448), (true, 449), (false, 450), (false, 451), (true, 452), (true, 453), (true, 454), (false, 455), (false, 456), (true, 457), (true, 458), (true, 459), (true, 460), (true, 461), (true, 462), (false, 463), (false, 464), (false, 465), (false, 466), (true, 467), (true, 468), (true, 469), (true, 470), (true, 471), (false, 472), (true, 473), (true, 474), (true, 475), (true, 476), (true, 477), (true, 478), (true, 479), (true, 480), (true, 481), (true, 482), (false, 483), (true, 484), (false, 485), (true, 486), (true, 487), (true, 488), (true, 489), (true, 490), (true, 491), (true, 492), (false, 493), (true, 494), (true, 495), (true, 496), (true, 497)]
  | _ => []
def kE (ca : Nat → ClassId) (h : HP) (a : Nat) : va_E := match (h.kd a).1 with
  | 8 => .inl (ca 8, (h.kd a).2, .inl (h.ai a))
  | 9 => .inl (ca 9, (h.kd a).2, .inl (h.ai a))
  | 10 => .inl (ca 10, (h.kd a).2, .inr (.inl (h.al a)))
  | 11 => .inl (ca 11, (h.kd a).2, .inl (h.ai a))
  | 12 => .inl (ca 12, (h.kd a).2, .inr (.inr (.inr (.inr (fun j => op (h.ar a j))))))
  | _ => .inr ((h.kd a).2, (ftab (h.kd a).2).map (fv h a))
theorem kE_obj {ca : Nat → ClassId} {h : HP} {a c : Nat} (hk : h.kd a = (0, c)) : kE ca h a = .inr (c, (ftab c).map (fv h a)) := by
  unfold kE; rw [hk]; rfl
theorem kE_b {ca : Nat → ClassId} {h : HP} {a n : Nat} (hk : h.kd a = (8, n)) : kE ca h a = .inl (ca 8, n, .inl (h.ai a)) := by
  unfold kE; rw [hk]; rfl
theorem kE_i {ca : Nat → ClassId} {h : HP} {a n : Nat} (hk : h.kd a = (9, n)) : kE ca h a = .inl (ca 9, n, .inl (h.ai a)) := by
  unfold kE; rw [hk]; rfl
theorem kE_l {ca : Nat → ClassId} {h : HP} {a n : Nat} (hk : h.kd a = (10, n)) : kE ca h a = .inl (ca 10, n, .inr (.inl (h.al a))) := by
  unfold kE; rw [hk]; rfl
theorem kE_z {ca : Nat → ClassId} {h : HP} {a n : Nat} (hk : h.kd a = (11, n)) : kE ca h a = .inl (ca 11, n, .inl (h.ai a)) := by
  unfold kE; rw [hk]; rfl
theorem kE_r {ca : Nat → ClassId} {h : HP} {a n : Nat} (hk : h.kd a = (12, n)) : kE ca h a = .inl (ca 12, n, .inr (.inr (.inr (.inr (fun j => op (h.ar a j)))))) := by
  unfold kE; rw [hk]; rfl
theorem kE_congr {ca : Nat → ClassId} {h h' : HP} {a : Nat} (h1 : h'.kd a = h.kd a) (h2 : ∀ g, h'.fi g a = h.fi g a) (h3 : ∀ g, h'.fr g a = h.fr g a) (h4 : h'.ai a = h.ai a) (h5 : h'.al a = h.al a) (h6 : h'.ar a = h.ar a) : kE ca h' a = kE ca h a := by
  have e : fv h' a = fv h a := by
    funext q
    unfold fv
    rw [h2, h3]
  unfold kE
  rw [h1, h4, h5, h6, e]
/-- launch, class numbers, array classes, the cells that may change, the Strings' addresses -/
def GT : Type := Launch × va_G × (Nat → ClassId) × (Nat → Prop) × (Nat → Nat) × (Nat → Nat)
abbrev GT.l (G : GT) : Launch := Prod.fst G
abbrev GT.D (G : GT) : va_G := Prod.fst (Prod.snd G)
abbrev GT.ca (G : GT) : Nat → ClassId := Prod.fst (Prod.snd (Prod.snd G))
abbrev GT.A (G : GT) : Nat → Prop := Prod.fst (Prod.snd (Prod.snd (Prod.snd G)))
abbrev GT.aK (G : GT) : Nat → Nat := Prod.fst (Prod.snd (Prod.snd (Prod.snd (Prod.snd G))))
abbrev GT.aV (G : GT) : Nat → Nat := Prod.snd (Prod.snd (Prod.snd (Prod.snd (Prod.snd G))))
def CT : Type := Program × Env × Room × State × MethodId × Array Value × List Frame × Method × Code
abbrev CT.p (Γ : CT) : Program := Prod.fst Γ
abbrev CT.e (Γ : CT) : Env := Prod.fst (Prod.snd Γ)
abbrev CT.R (Γ : CT) : Room := Prod.fst (Prod.snd (Prod.snd Γ))
abbrev CT.s (Γ : CT) : State := Prod.fst (Prod.snd (Prod.snd (Prod.snd Γ)))
abbrev CT.m (Γ : CT) : MethodId := Prod.fst (Prod.snd (Prod.snd (Prod.snd (Prod.snd Γ))))
abbrev CT.args (Γ : CT) : Array Value := Prod.fst (Prod.snd (Prod.snd (Prod.snd (Prod.snd (Prod.snd Γ)))))
abbrev CT.below (Γ : CT) : List Frame := Prod.fst (Prod.snd (Prod.snd (Prod.snd (Prod.snd (Prod.snd (Prod.snd Γ))))))
abbrev CT.meth (Γ : CT) : Method := Prod.fst (Prod.snd (Prod.snd (Prod.snd (Prod.snd (Prod.snd (Prod.snd (Prod.snd Γ)))))))
abbrev CT.c (Γ : CT) : Code := Prod.snd (Prod.snd (Prod.snd (Prod.snd (Prod.snd (Prod.snd (Prod.snd (Prod.snd Γ)))))))
def WS : List Cond := lw_tbl.filter goodWord
abbrev tys_ (ca : Nat → ClassId) : List (ClassId × FieldType) := [(ca 8, .byte), (ca 9, .int), (ca 10, .long), (ca 11, .boolean), (ca 12, .object RX3)]
def wld (G : GT) (h : HP) (la : List Nat) : va_W := va_pl la (kE G.ca h)
def Rl (G : GT) (h : HP) (H : Heap) : Prop := ∃ la : List Nat, (∀ a, a ∈ la ↔ (h.kd a).1 ≠ 99) ∧ va_P G.D vwCl (wld G h la) H ∧ va_D G.A (wld G h la)
def st_own : List (String × Nat × String) := [(RX2, 89, "missed"), (RX2, 91, "held"), (RX2, 93, "sick"), (RX2, 95, "rank"), (RX2, 97, "area"), (RX2, 99, "year"), (RX2, 77, "keep"), (RX2, 83, "lapse"), (RX2, 85, "when"), (RX2, 87, "and"), (RX6, 216, "no such ride"), (RX6, 236, "nothing such to look at")]
def st_len : List Nat := st_own.map (fun q => q.2.2.length)
def st_byt : List (List Int32) := st_own.map (fun q => q.2.2.toList.map (fun ch => Int32.ofNat ch.toNat))
def st_nest : List (String × Nat × MethodName × String) := [(RX6, 34, yX4_init, RX6), (RX6, 41, yX5_init, RX6), (RX6, 48, yX2_init, RX6), (RX6, 55, yX1_init, RX6), (RX3, 11, yX4_init, RX6), (RX5, 21, yX6_isWithin, RX6)]
/-- what the tables and the old heap say, of any state in the run -/
def KN (G : GT) (U : State) : Prop := va_K G.D vwCl (tys_ G.ca) U ∧ va_AO RX3 U ∧ (∀ q ∈ st_nest, va_Nw (.methodLinkNest q.1 q.2.1 q.2.2.1 q.2.2.2) U) ∧
  (∀ (i : Nat) (q : String × Nat × String), st_own[i]? = some q → vk_R q.1 q.2.1 q.2.2 (G.aK i) U)
/-- what the old heap says -/
def KH (G : GT) (U : State) (H : Heap) : Prop := vk_S 12 st_len st_byt G.aK G.aV G.A U H ∧ va_Z "java/lang/String" "COMPACT_STRINGS" "Z" (.int 1) G.A U H
def lvh (nL : Nat) (ls : Array Slot) (lv : List (Option Value)) : Prop := ls.size = nL ∧ lv_wf ls ∧ ∀ (i : Nat) (v : Value), lv[i]? = some (some v) → ls[i]? = some (.val v)
def wX (G : GT) (Γ : CT) (Q : State → Prop) (k n : Nat) (h : HP) (pc : Nat) (lv : List (Option Value)) (st : List Value) : Prop :=
  ∀ (H : Heap) (locs : List Loc) (ls : Array Slot), Rl G h H → va_S G.A Γ.s.heap H locs → lvh Γ.c.maxLocals ls lv → W Γ.p G.l Γ.e Γ.R Γ.s Γ.m Γ.args Γ.below Γ.meth Γ.c H locs k n Q (F0 Γ.m pc ls st)
/-- where a method's body stands: machine, code, tables -/
abbrev Cx (G : GT) (Γ : CT) (y : MethodName) (cc : ByteArray) (nL : Nat) (rt : Option FieldType) : Prop :=
  Γ.p.tables.exec = Jvm.exec ∧ Γ.c.code = cc ∧ Γ.c.maxLocals = nL ∧ Γ.s.vm.findClass y.cls = some Γ.m.cls ∧ (∀ w ∈ WS, w.before Γ.args Γ.s = true) ∧ Γ.meth.sig.returnType = rt ∧ Γ.meth.locks = false ∧ Γ.meth.name = y.name ∧ KN G Γ.s ∧ KH G Γ.s Γ.s.heap ∧ (∀ q, Γ.s.heap.size ≤ q → G.A q) ∧ ¬ G.A 0
/-! locals -/
def lvp (lv : List (Option Value)) : List (Nat × Value) := (List.range lv.length).filterMap (fun j => match lv[j]? with | some (some w) => some (j, w) | _ => none)
theorem lvp_mem {lv : List (Option Value)} {j : Nat} {w : Value} : (j, w) ∈ lvp lv ↔ lv[j]? = some (some w) := by
  unfold lvp
  rw [List.mem_filterMap]
  constructor
  · rintro ⟨i, -, hi⟩
    split at hi
    · rename_i w' hw
      cases hi
      exact hw
    · cases hi
  · intro h
    refine ⟨j, List.mem_range.mpr (List.getElem?_eq_some_iff.mp h).1, ?_⟩
    rw [h]
theorem lvh_has {nL : Nat} {ls : Array Slot} {lv : List (Option Value)} (h : lvh nL ls lv) : lv_has ls nL (lvp lv) := ⟨h.1, h.2.1, fun q hq => h.2.2 q.1 q.2 (lvp_mem.mp hq)⟩
def okst (lv : List (Option Value)) (i : Nat) : Bool := match i with
  | 0 => true
  | j + 1 => match lv[j]? with
    | some (some w) => !(w.category == 2)
    | _ => true
theorem lvh_of1 {nL : Nat} {ls : Array Slot} {lv : List (Option Value)} {i : Nat} {v : Value} (ho : okst lv i = true) (h : lv_has ls nL ((i, v) :: (lvp lv).filter (fun q => !(q.1 == i) && !(q.1 + 1 == i && q.2.category == 2)))) : lvh nL ls (lv.set i (some v)) := by
  refine ⟨h.1, h.2.1, fun j w hj => ?_⟩
  by_cases e : j = i
  · subst e
    have hl : j < lv.length := by
      have := (List.getElem?_eq_some_iff.mp hj).1
      rwa [List.length_set] at this
    rw [List.getElem?_set_self hl] at hj
    cases hj
    exact h.2.2 (j, v) List.mem_cons_self
  · rw [List.getElem?_set_ne (Ne.symm e)] at hj
    refine h.2.2 (j, w) (List.mem_cons_of_mem _ (List.mem_filter.mpr ⟨lvp_mem.mpr hj, ?_⟩))
    have e1 : (j == i) = false := by simpa using e
    have e2 : (j + 1 == i && w.category == 2) = false := by
      by_cases e3 : j + 1 = i
      · subst e3
        simp only [okst, hj] at ho
        simpa using ho
      · simp [e3]
    simp only [e1, e2]
    rfl
theorem lvh_of2 {nL : Nat} {ls : Array Slot} {lv : List (Option Value)} {i : Nat} {v : Value} (ho : okst lv i = true) (h : lv_has ls nL ((i, v) :: (lvp lv).filter (fun q => !(q.1 == i) && (!(q.1 == i + 1) && !(q.1 + 1 == i && q.2.category == 2))))) : lvh nL ls ((lv.set i (some v)).set (i + 1) none) := by
  refine ⟨h.1, h.2.1, fun j w hj => ?_⟩
  by_cases e0 : j = i + 1
  · subst e0
    have hl : i + 1 < (lv.set i (some v)).length := by
      have := (List.getElem?_eq_some_iff.mp hj).1
      rwa [List.length_set] at this
    rw [List.getElem?_set_self hl] at hj
    cases hj
  · rw [List.getElem?_set_ne (Ne.symm e0)] at hj
    by_cases e : j = i
    · subst e
      have hl : j < lv.length := by
        have := (List.getElem?_eq_some_iff.mp hj).1
        rwa [List.length_set] at this
      rw [List.getElem?_set_self hl] at hj
      cases hj
      exact h.2.2 (j, v) List.mem_cons_self
    · rw [List.getElem?_set_ne (Ne.symm e)] at hj
      refine h.2.2 (j, w) (List.mem_cons_of_mem _ (List.mem_filter.mpr ⟨lvp_mem.mpr hj, ?_⟩))
      have e1 : (j == i) = false := by simpa using e
      have e4 : (j == i + 1) = false := by simpa using e0
      have e2 : (j + 1 == i && w.category == 2) = false := by
        by_cases e3 : j + 1 = i
        · subst e3
          simp only [okst, hj] at ho
          simpa using ho
        · simp [e3]
      simp only [e1, e2, e4]
      rfl
theorem lvh_at {nL : Nat} {ls : Array Slot} {lv : List (Option Value)} (h : lvh nL ls lv) {i : Nat} {v : Value} (hi : lv[i]? = some (some v)) : ls[i]? = some (.val v) := h.2.2 i v hi
theorem lvh_sub {nL : Nat} {ls : Array Slot} {lv lv' : List (Option Value)} (h : lvh nL ls lv) (hs : ∀ (i : Nat) (v : Value), lv'[i]? = some (some v) → lv[i]? = some (some v)) : lvh nL ls lv' := ⟨h.1, h.2.1, fun i v hi => h.2.2 i v (hs i v hi)⟩
def lsub (lv' lv : List (Option Value)) : Prop := ∀ (i : Nat) (v : Value), lv'[i]? = some (some v) → lv[i]? = some (some v)
theorem wX.sub {G : GT} {Γ : CT} {Q : State → Prop} {k n : Nat} {h : HP} {pc : Nat} {lv lv' : List (Option Value)} {st : List Value} (hs : lsub lv' lv) (kk : wX G Γ Q k n h pc lv' st) : wX G Γ Q k n h pc lv st := fun H locs ls a b c => kk H locs ls a b (lvh_sub c hs)
theorem lsub_nil : lsub [] [] := fun i v h => h
theorem lsub_s {v : Option Value} {a b : List (Option Value)} (h : lsub a b) : lsub (v :: a) (v :: b) := fun i w hi => by
  cases i with
  | zero => exact hi
  | succ i => exact h i w hi
theorem lsub_n {v : Option Value} {a b : List (Option Value)} (h : lsub a b) : lsub (none :: a) (v :: b) := fun i w hi => by
  cases i with
  | zero => cases hi
  | succ i => exact h i w hi
theorem wX.widen {G : GT} {Γ : CT} {Q : State → Prop} {k n k' n' : Nat} {h : HP} {pc : Nat} {lv : List (Option Value)} {st : List Value} (h1 : k ≤ k') (h2 : n ≤ n') (kk : wX G Γ Q k' n' h pc lv st) : wX G Γ Q k n h pc lv st := fun H locs ls a b c => W.widen h1 h2 (kk H locs ls a b c)
theorem Rl.in {G : GT} {h : HP} {H : Heap} (hR : Rl G h H) {a : Nat} {k : Nat × Nat} (hk : h.kd a = k) (h9 : k.1 ≠ 99) : ∃ (la : List Nat) (q0 : Nat), (∀ b, b ∈ la ↔ (h.kd b).1 ≠ 99) ∧ va_P G.D vwCl (wld G h la) H ∧ va_D G.A (wld G h la) ∧ (wld G h la)[q0]? = some (a, kE G.ca h a) ∧ a ∈ la := by
  obtain ⟨la, h1, h2, h3⟩ := hR
  have hm : a ∈ la := (h1 a).mpr (by rw [hk]; exact h9)
  obtain ⟨q0, hq⟩ := va_pl_get (X := []) (f := kE G.ca h) hm
  exact ⟨la, q0, h1, h2, h3, hq, hm⟩
theorem Rl.ne0 {G : GT} {h : HP} {H : Heap} (hR : Rl G h H) (hA : ¬ G.A 0) {a : Nat} {k : Nat × Nat} (hk : h.kd a = k) (h9 : k.1 ≠ 99) : a ≠ 0 := by
  obtain ⟨la, q0, h1, h2, h3, h4, h5⟩ := Rl.in hR hk h9
  rintro rfl
  exact hA (h3.2 q0 _ h4)
/-- one cell has changed -/
theorem Rl.upd {G : GT} {h h' : HP} {H1 : Heap} {la : List Nat} {q0 a : Nat} (h1 : ∀ b, b ∈ la ↔ (h.kd b).1 ≠ 99) (hD : va_D G.A (wld G h la)) (hq : (wld G h la)[q0]? = some (a, kE G.ca h a)) (hm : a ∈ la) (hk : h'.kd = h.kd) (hb : ∀ b, b ≠ a → kE G.ca h' b = kE G.ca h b)
    (hP1 : va_P G.D vwCl ((wld G h la).set q0 (a, kE G.ca h' a)) H1) (hD1 : va_D G.A ((wld G h la).set q0 (a, kE G.ca h' a))) : Rl G h' H1 := by
  have e : (wld G h la).set q0 (a, kE G.ca h' a) = wld G h' la := by
    have e1 := va_pl_set (X := []) (e := kE G.ca h' a) hD hm hq
    refine (show (wld G h la).set q0 (a, kE G.ca h' a) = va_pl la (va_up (kE G.ca h) a (kE G.ca h' a)) from e1).trans (va_pl_congr fun b => ?_)
    by_cases hba : b = a
    · subst hba; rw [va_up_self]
    · rw [va_up_ne _ _ hba, hb b hba]
  rw [e] at hP1 hD1
  exact ⟨la, fun b => by rw [hk]; exact h1 b, hP1, hD1⟩
/-- one cell has come -/
theorem Rl.push {G : GT} {h h' : HP} {H1 : Heap} {la : List Nat} {a : Nat} {k : Nat × Nat} (h1 : ∀ b, b ∈ la ↔ (h.kd b).1 ≠ 99) (hk9 : k.1 ≠ 99) (hk : h'.kd a = k) (hko : ∀ b, b ≠ a → h'.kd b = h.kd b) (hb : ∀ b, b ≠ a → kE G.ca h' b = kE G.ca h b)
    (hP1 : va_P G.D vwCl (wld G h la ++ [(a, kE G.ca h' a)]) H1) (hD1 : va_D G.A (wld G h la ++ [(a, kE G.ca h' a)])) : Rl G h' H1 ∧ (h.kd a).1 = 99 := by
  have hf : a ∉ la := va_pl_fresh2 (X := []) (f := kE G.ca h) (e := kE G.ca h' a) hD1
  have e : wld G h la ++ [(a, kE G.ca h' a)] = wld G h' (la ++ [a]) := by
    have e1 := va_pl_push (f := kE G.ca h) (e := kE G.ca h' a) hf
    refine (show wld G h la ++ [(a, kE G.ca h' a)] = _ from e1).trans (va_pl_congr fun b => ?_)
    by_cases hba : b = a
    · subst hba; rw [va_up_self]
    · rw [va_up_ne _ _ hba, hb b hba]
  rw [e] at hP1 hD1
  refine ⟨⟨la ++ [a], fun b => ?_, hP1, hD1⟩, ?_⟩
  · by_cases hba : b = a
    · subst hba
      simp [hk, hk9]
    · rw [hko b hba, ← h1 b]
      simp [hba]
  · have := mt (h1 a).mpr hf
    omega
end
section
section ROWS
variable {G : GT} {Γ : CT} {y : MethodName} {cc : ByteArray} {nL : Nat} {rt : Option FieldType} {Q : State → Prop} {k n : Nat} {h : HP} {pc q : Nat} {lv : List (Option Value)} {st : List Value}
theorem r_iconst (C : Cx G Γ y cc nL rt) {z : Int} {v : Int32} (hq : pc + 1 = q) (d : decode cc pc = .ok (.iconst z, 1)) (hv : Int32.ofInt z = v) (kk : wX G Γ Q k n h q lv (.int v :: st)) : wX G Γ Q k n h pc lv st := by
  subst hq
  exact fun H locs ls a b c => lv_iconst C.1 C.2.1 d hv (kk H locs ls a b c)
theorem r_bipush (C : Cx G Γ y cc nL rt) {z : Int} {v : Int32} (hq : pc + 2 = q) (d : decode cc pc = .ok (.bipush z, 2)) (hv : (Int8.ofInt z).toInt32 = v) (kk : wX G Γ Q k n h q lv (.int v :: st)) : wX G Γ Q k n h pc lv st := by
  subst hq
  exact fun H locs ls a b c => lv_bipush C.1 C.2.1 d hv (kk H locs ls a b c)
theorem r_sipush (C : Cx G Γ y cc nL rt) {z : Int} {v : Int32} (hq : pc + 3 = q) (d : decode cc pc = .ok (.sipush z, 3)) (hv : (Int16.ofInt z).toInt32 = v) (kk : wX G Γ Q k n h q lv (.int v :: st)) : wX G Γ Q k n h pc lv st := by
  subst hq
  exact fun H locs ls a b c => lv_sipush C.1 C.2.1 d hv (kk H locs ls a b c)
theorem r_lconst (C : Cx G Γ y cc nL rt) {z : Fin 2} {v : Int64} (hq : pc + 1 = q) (d : decode cc pc = .ok (.lconst z, 1)) (hv : Int64.ofNat (z : Nat) = v) (kk : wX G Γ Q k n h q lv (.long v :: st)) : wX G Γ Q k n h pc lv st := by
  subst hq
  exact fun H locs ls a b c => lv_lconst C.1 C.2.1 d hv (kk H locs ls a b c)
theorem r_ldc (C : Cx G Γ y cc nL rt) {i : Nat} {v : Int32} (hq : pc + 2 = q) (d : decode cc pc = .ok (.ldc i, 2)) (hw : Cond.constant y.cls i v ∈ WS) (kk : wX G Γ Q k n h q lv (.int v :: st)) : wX G Γ Q k n h pc lv st := by
  subst hq
  exact fun H locs ls a b c => lv_ldc C.1 C.2.1 C.2.2.2.1 (C.2.2.2.2.1 _ hw) d (kk H locs ls a b c)
theorem r_ldcw (C : Cx G Γ y cc nL rt) {i : Nat} {v : Int32} (hq : pc + 3 = q) (d : decode cc pc = .ok (.ldc_w i, 3)) (hw : Cond.constant y.cls i v ∈ WS) (kk : wX G Γ Q k n h q lv (.int v :: st)) : wX G Γ Q k n h pc lv st := by
  subst hq
  exact fun H locs ls a b c => lv_ldcw C.1 C.2.1 C.2.2.2.1 (C.2.2.2.2.1 _ hw) d (kk H locs ls a b c)
theorem r_ldc2 (C : Cx G Γ y cc nL rt) {i : Nat} {v : Int64} (hq : pc + 3 = q) (d : decode cc pc = .ok (.ldc2_w i, 3)) (hw : Cond.constantLong y.cls i v ∈ WS) (kk : wX G Γ Q k n h q lv (.long v :: st)) : wX G Γ Q k n h pc lv st := by
  subst hq
  exact fun H locs ls a b c => lv_ldc2 C.1 C.2.1 C.2.2.2.1 (C.2.2.2.2.1 _ hw) d (kk H locs ls a b c)
theorem r_ldcS (C : Cx G Γ y cc nL rt) {i j : Nat} {tx : String} (hq : pc + 2 = q) (d : decode cc pc = .ok (.ldc i, 2)) (hw : st_own[j]? = some (y.cls, i, tx)) (kk : wX G Γ Q k n h q lv (.ref (G.aK j) :: st)) : wX G Γ Q k n h pc lv st := by
  subst hq
  exact fun H locs ls a b c => va_ldcS C.1 C.2.1 C.2.2.2.1 (C.2.2.2.2.2.2.2.2.1.2.2.2 j _ hw) d (kk H locs ls a b c)
theorem r_iload_n (C : Cx G Γ y cc nL rt) (i : Nat) {z : Fin 4} {x : Int32} (hq : pc + 1 = q) (d : decode cc pc = .ok (.iload_n z, 1)) (hz : (z : Nat) = i) (hl : lv[i]? = some (some (.int x))) (kk : wX G Γ Q k n h q lv (.int x :: st)) : wX G Γ Q k n h pc lv st := by
  subst hq
  exact fun H locs ls a b c => lv_iload_n C.1 C.2.1 d hz (c.2.2 i _ hl) (kk H locs ls a b c)
theorem r_iload (C : Cx G Γ y cc nL rt) (i : Nat) {x : Int32} (hq : pc + 2 = q) (d : decode cc pc = .ok (.iload i, 2)) (hl : lv[i]? = some (some (.int x))) (kk : wX G Γ Q k n h q lv (.int x :: st)) : wX G Γ Q k n h pc lv st := by
  subst hq
  exact fun H locs ls a b c => lv_iload C.1 C.2.1 d (c.2.2 i _ hl) (kk H locs ls a b c)
theorem r_lload_n (C : Cx G Γ y cc nL rt) (i : Nat) {z : Fin 4} {x : Int64} (hq : pc + 1 = q) (d : decode cc pc = .ok (.lload_n z, 1)) (hz : (z : Nat) = i) (hl : lv[i]? = some (some (.long x))) (kk : wX G Γ Q k n h q lv (.long x :: st)) : wX G Γ Q k n h pc lv st := by
  subst hq
  exact fun H locs ls a b c => lv_lload_n C.1 C.2.1 d hz (c.2.2 i _ hl) (kk H locs ls a b c)
theorem r_lload (C : Cx G Γ y cc nL rt) (i : Nat) {x : Int64} (hq : pc + 2 = q) (d : decode cc pc = .ok (.lload i, 2)) (hl : lv[i]? = some (some (.long x))) (kk : wX G Γ Q k n h q lv (.long x :: st)) : wX G Γ Q k n h pc lv st := by
  subst hq
  exact fun H locs ls a b c => lv_lload C.1 C.2.1 d (c.2.2 i _ hl) (kk H locs ls a b c)
theorem r_aload_n (C : Cx G Γ y cc nL rt) (i : Nat) {z : Fin 4} {x : Nat} (hq : pc + 1 = q) (d : decode cc pc = .ok (.aload_n z, 1)) (hz : (z : Nat) = i) (hl : lv[i]? = some (some (rv x))) (kk : wX G Γ Q k n h q lv (rv x :: st)) : wX G Γ Q k n h pc lv st := by
  subst hq
  intro H locs ls a b c
  have k1 := kk H locs ls a b c
  have h1 := c.2.2 i _ hl
  by_cases e : x = 0
  · subst e
    exact lv_aload_nN C.1 C.2.1 d hz h1 k1
  · rw [rv_ref e] at h1 k1
    exact lv_aload_n C.1 C.2.1 d hz h1 k1
theorem r_aload (C : Cx G Γ y cc nL rt) (i : Nat) {x : Nat} (hq : pc + 2 = q) (d : decode cc pc = .ok (.aload i, 2)) (hl : lv[i]? = some (some (rv x))) (kk : wX G Γ Q k n h q lv (rv x :: st)) : wX G Γ Q k n h pc lv st := by
  subst hq
  intro H locs ls a b c
  have k1 := kk H locs ls a b c
  have h1 := c.2.2 i _ hl
  by_cases e : x = 0
  · subst e
    exact lv_aloadN C.1 C.2.1 d h1 k1
  · rw [rv_ref e] at h1 k1
    exact lv_aload C.1 C.2.1 d h1 k1
theorem r_aload_nS (C : Cx G Γ y cc nL rt) (i : Nat) {z : Fin 4} {x : Nat} (hq : pc + 1 = q) (d : decode cc pc = .ok (.aload_n z, 1)) (hz : (z : Nat) = i) (hl : lv[i]? = some (some (.ref x))) (kk : wX G Γ Q k n h q lv (.ref x :: st)) : wX G Γ Q k n h pc lv st := by
  subst hq
  exact fun H locs ls a b c => lv_aload_n C.1 C.2.1 d hz (c.2.2 i _ hl) (kk H locs ls a b c)
theorem r_aloadS (C : Cx G Γ y cc nL rt) (i : Nat) {x : Nat} (hq : pc + 2 = q) (d : decode cc pc = .ok (.aload i, 2)) (hl : lv[i]? = some (some (.ref x))) (kk : wX G Γ Q k n h q lv (.ref x :: st)) : wX G Γ Q k n h pc lv st := by
  subst hq
  exact fun H locs ls a b c => lv_aload C.1 C.2.1 d (c.2.2 i _ hl) (kk H locs ls a b c)
theorem r_istore_n (C : Cx G Γ y cc nL rt) (i : Nat) {z : Fin 4} {x : Int32} (hq : pc + 1 = q) (d : decode cc pc = .ok (.istore_n z, 1)) (hz : (z : Nat) = i) (hn : i < nL) (ho : okst lv i = true) (kk : wX G Γ Q k n h q (lv.set i (some (.int x))) st) : wX G Γ Q k n h pc lv (.int x :: st) := by
  subst hq
  intro H locs ls a b c
  exact lv_istore_n C.1 C.2.1 d hz (lvh_has c) (C.2.2.1 ▸ hn) rfl (fun ls' h' => kk H locs ls' a b (lvh_of1 ho h'))
theorem r_istore (C : Cx G Γ y cc nL rt) (i : Nat) {x : Int32} (hq : pc + 2 = q) (d : decode cc pc = .ok (.istore i, 2)) (hn : i < nL) (ho : okst lv i = true) (kk : wX G Γ Q k n h q (lv.set i (some (.int x))) st) : wX G Γ Q k n h pc lv (.int x :: st) := by
  subst hq
  intro H locs ls a b c
  exact lv_istore C.1 C.2.1 d (lvh_has c) (C.2.2.1 ▸ hn) rfl (fun ls' h' => kk H locs ls' a b (lvh_of1 ho h'))
theorem r_lstore_n (C : Cx G Γ y cc nL rt) (i : Nat) {z : Fin 4} {x : Int64} (hq : pc + 1 = q) (d : decode cc pc = .ok (.lstore_n z, 1)) (hz : (z : Nat) = i) (hn : i + 1 < nL) (ho : okst lv i = true) (kk : wX G Γ Q k n h q ((lv.set i (some (.long x))).set (i + 1) none) st) : wX G Γ Q k n h pc lv (.long x :: st) := by
  subst hq
  intro H locs ls a b c
  exact lv_lstore_n C.1 C.2.1 d hz (lvh_has c) (C.2.2.1 ▸ hn) rfl (fun ls' h' => kk H locs ls' a b (lvh_of2 ho h'))
theorem r_lstore (C : Cx G Γ y cc nL rt) (i : Nat) {x : Int64} (hq : pc + 2 = q) (d : decode cc pc = .ok (.lstore i, 2)) (hn : i + 1 < nL) (ho : okst lv i = true) (kk : wX G Γ Q k n h q ((lv.set i (some (.long x))).set (i + 1) none) st) : wX G Γ Q k n h pc lv (.long x :: st) := by
  subst hq
  intro H locs ls a b c
  exact lv_lstore C.1 C.2.1 d (lvh_has c) (C.2.2.1 ▸ hn) rfl (fun ls' h' => kk H locs ls' a b (lvh_of2 ho h'))
theorem r_astore_n (C : Cx G Γ y cc nL rt) (i : Nat) {z : Fin 4} {x : Nat} (hq : pc + 1 = q) (d : decode cc pc = .ok (.astore_n z, 1)) (hz : (z : Nat) = i) (hn : i < nL) (ho : okst lv i = true) (kk : wX G Γ Q k n h q (lv.set i (some (rv x))) st) : wX G Γ Q k n h pc lv (rv x :: st) := by
  subst hq
  intro H locs ls a b c
  have k1 := fun ls' h' => kk H locs ls' a b (lvh_of1 (nL := Γ.c.maxLocals) ho h')
  by_cases e : x = 0
  · subst e
    exact lv_astore_nN C.1 C.2.1 d hz (lvh_has c) (C.2.2.1 ▸ hn) rfl k1
  · rw [rv_ref e] at k1 ⊢
    exact lv_astore_n C.1 C.2.1 d hz (lvh_has c) (C.2.2.1 ▸ hn) rfl k1
theorem r_astore (C : Cx G Γ y cc nL rt) (i : Nat) {x : Nat} (hq : pc + 2 = q) (d : decode cc pc = .ok (.astore i, 2)) (hn : i < nL) (ho : okst lv i = true) (kk : wX G Γ Q k n h q (lv.set i (some (rv x))) st) : wX G Γ Q k n h pc lv (rv x :: st) := by
  subst hq
  intro H locs ls a b c
  have k1 := fun ls' h' => kk H locs ls' a b (lvh_of1 (nL := Γ.c.maxLocals) ho h')
  by_cases e : x = 0
  · subst e
    exact lv_astoreN C.1 C.2.1 d (lvh_has c) (C.2.2.1 ▸ hn) rfl k1
  · rw [rv_ref e] at k1 ⊢
    exact lv_astore C.1 C.2.1 d (lvh_has c) (C.2.2.1 ▸ hn) rfl k1
theorem r_iinc (C : Cx G Γ y cc nL rt) (i : Nat) {z : Int} {x v : Int32} (hq : pc + 3 = q) (d : decode cc pc = .ok (.iinc i z, 3)) (hl : lv[i]? = some (some (.int x))) (hz : Int32.ofInt z = v) (hn : i < nL) (ho : okst lv i = true) (kk : wX G Γ Q k n h q (lv.set i (some (.int (x + v)))) st) : wX G Γ Q k n h pc lv st := by
  subst hq
  subst hz
  intro H locs ls a b c
  obtain ⟨j, hj⟩ := List.getElem?_of_mem (lvp_mem.mpr hl)
  exact lv_iinc C.1 C.2.1 d (lvh_has c) hj rfl (C.2.2.1 ▸ hn) rfl (fun ls' h' => kk H locs ls' a b (lvh_of1 ho h'))
theorem r_iadd (C : Cx G Γ y cc nL rt) {x z : Int32} (hq : pc + 1 = q) (d : decode cc pc = .ok (.iadd, 1))  (kk : wX G Γ Q k n h q lv (.int (x + z) :: st)) : wX G Γ Q k n h pc lv (.int z :: .int x :: st) := by
  subst hq
  exact fun H locs ls a b c => lv_iadd C.1 C.2.1 d (kk H locs ls a b c)
theorem r_isub (C : Cx G Γ y cc nL rt) {x z : Int32} (hq : pc + 1 = q) (d : decode cc pc = .ok (.isub, 1))  (kk : wX G Γ Q k n h q lv (.int (x - z) :: st)) : wX G Γ Q k n h pc lv (.int z :: .int x :: st) := by
  subst hq
  exact fun H locs ls a b c => lv_isub C.1 C.2.1 d (kk H locs ls a b c)
theorem r_imul (C : Cx G Γ y cc nL rt) {x z : Int32} (hq : pc + 1 = q) (d : decode cc pc = .ok (.imul, 1))  (kk : wX G Γ Q k n h q lv (.int (x * z) :: st)) : wX G Γ Q k n h pc lv (.int z :: .int x :: st) := by
  subst hq
  exact fun H locs ls a b c => lv_imul C.1 C.2.1 d (kk H locs ls a b c)
theorem r_iand (C : Cx G Γ y cc nL rt) {x z : Int32} (hq : pc + 1 = q) (d : decode cc pc = .ok (.iand, 1))  (kk : wX G Γ Q k n h q lv (.int (x &&& z) :: st)) : wX G Γ Q k n h pc lv (.int z :: .int x :: st) := by
  subst hq
  exact fun H locs ls a b c => lv_iand C.1 C.2.1 d (kk H locs ls a b c)
theorem r_ior (C : Cx G Γ y cc nL rt) {x z : Int32} (hq : pc + 1 = q) (d : decode cc pc = .ok (.ior, 1))  (kk : wX G Γ Q k n h q lv (.int (x ||| z) :: st)) : wX G Γ Q k n h pc lv (.int z :: .int x :: st) := by
  subst hq
  exact fun H locs ls a b c => lv_ior C.1 C.2.1 d (kk H locs ls a b c)
theorem r_ixor (C : Cx G Γ y cc nL rt) {x z : Int32} (hq : pc + 1 = q) (d : decode cc pc = .ok (.ixor, 1))  (kk : wX G Γ Q k n h q lv (.int (x ^^^ z) :: st)) : wX G Γ Q k n h pc lv (.int z :: .int x :: st) := by
  subst hq
  exact fun H locs ls a b c => lv_ixor C.1 C.2.1 d (kk H locs ls a b c)
theorem r_idiv (C : Cx G Γ y cc nL rt) {x z : Int32} (hq : pc + 1 = q) (d : decode cc pc = .ok (.idiv, 1)) (hz : ¬ z = 0) (kk : wX G Γ Q k n h q lv (.int (x / z) :: st)) : wX G Γ Q k n h pc lv (.int z :: .int x :: st) := by
  subst hq
  exact fun H locs ls a b c => lv_idiv C.1 C.2.1 d hz (kk H locs ls a b c)
theorem r_irem (C : Cx G Γ y cc nL rt) {x z : Int32} (hq : pc + 1 = q) (d : decode cc pc = .ok (.irem, 1)) (hz : ¬ z = 0) (kk : wX G Γ Q k n h q lv (.int (x - x / z * z) :: st)) : wX G Γ Q k n h pc lv (.int z :: .int x :: st) := by
  subst hq
  exact fun H locs ls a b c => lv_irem C.1 C.2.1 d hz (kk H locs ls a b c)
theorem r_ineg (C : Cx G Γ y cc nL rt) {x : Int32} (hq : pc + 1 = q) (d : decode cc pc = .ok (.ineg, 1))  (kk : wX G Γ Q k n h q lv (.int (-x) :: st)) : wX G Γ Q k n h pc lv (.int x :: st) := by
  subst hq
  exact fun H locs ls a b c => lv_ineg C.1 C.2.1 d (kk H locs ls a b c)
theorem r_ladd (C : Cx G Γ y cc nL rt) {x z : Int64} (hq : pc + 1 = q) (d : decode cc pc = .ok (.ladd, 1))  (kk : wX G Γ Q k n h q lv (.long (x + z) :: st)) : wX G Γ Q k n h pc lv (.long z :: .long x :: st) := by
  subst hq
  exact fun H locs ls a b c => lv_ladd C.1 C.2.1 d (kk H locs ls a b c)
theorem r_lsub (C : Cx G Γ y cc nL rt) {x z : Int64} (hq : pc + 1 = q) (d : decode cc pc = .ok (.lsub, 1))  (kk : wX G Γ Q k n h q lv (.long (x - z) :: st)) : wX G Γ Q k n h pc lv (.long z :: .long x :: st) := by
  subst hq
  exact fun H locs ls a b c => lv_lsub C.1 C.2.1 d (kk H locs ls a b c)
theorem r_lmul (C : Cx G Γ y cc nL rt) {x z : Int64} (hq : pc + 1 = q) (d : decode cc pc = .ok (.lmul, 1))  (kk : wX G Γ Q k n h q lv (.long (x * z) :: st)) : wX G Γ Q k n h pc lv (.long z :: .long x :: st) := by
  subst hq
  exact fun H locs ls a b c => lv_lmul C.1 C.2.1 d (kk H locs ls a b c)
theorem r_land (C : Cx G Γ y cc nL rt) {x z : Int64} (hq : pc + 1 = q) (d : decode cc pc = .ok (.land, 1))  (kk : wX G Γ Q k n h q lv (.long (x &&& z) :: st)) : wX G Γ Q k n h pc lv (.long z :: .long x :: st) := by
  subst hq
  exact fun H locs ls a b c => lv_land C.1 C.2.1 d (kk H locs ls a b c)
theorem r_lor (C : Cx G Γ y cc nL rt) {x z : Int64} (hq : pc + 1 = q) (d : decode cc pc = .ok (.lor, 1))  (kk : wX G Γ Q k n h q lv (.long (x ||| z) :: st)) : wX G Γ Q k n h pc lv (.long z :: .long x :: st) := by
  subst hq
  exact fun H locs ls a b c => lv_lor C.1 C.2.1 d (kk H locs ls a b c)
theorem r_ldiv (C : Cx G Γ y cc nL rt) {x z : Int64} (hq : pc + 1 = q) (d : decode cc pc = .ok (.ldiv, 1)) (hz : ¬ z = 0) (kk : wX G Γ Q k n h q lv (.long (x / z) :: st)) : wX G Γ Q k n h pc lv (.long z :: .long x :: st) := by
  subst hq
  exact fun H locs ls a b c => lv_ldiv C.1 C.2.1 d hz (kk H locs ls a b c)
theorem r_lrem (C : Cx G Γ y cc nL rt) {x z : Int64} (hq : pc + 1 = q) (d : decode cc pc = .ok (.lrem, 1)) (hz : ¬ z = 0) (kk : wX G Γ Q k n h q lv (.long (x - x / z * z) :: st)) : wX G Γ Q k n h pc lv (.long z :: .long x :: st) := by
  subst hq
  exact fun H locs ls a b c => lv_lrem C.1 C.2.1 d hz (kk H locs ls a b c)
theorem r_ishl (C : Cx G Γ y cc nL rt) {x z : Int32} (hq : pc + 1 = q) (d : decode cc pc = .ok (.ishl, 1))  (kk : wX G Γ Q k n h q lv (.int (x <<< (z &&& 31)) :: st)) : wX G Γ Q k n h pc lv (.int z :: .int x :: st) := by
  subst hq
  exact fun H locs ls a b c => lv_ishl C.1 C.2.1 d (kk H locs ls a b c)
theorem r_ishr (C : Cx G Γ y cc nL rt) {x z : Int32} (hq : pc + 1 = q) (d : decode cc pc = .ok (.ishr, 1))  (kk : wX G Γ Q k n h q lv (.int (x >>> (z &&& 31)) :: st)) : wX G Γ Q k n h pc lv (.int z :: .int x :: st) := by
  subst hq
  exact fun H locs ls a b c => lv_ishr C.1 C.2.1 d (kk H locs ls a b c)
theorem r_iushr (C : Cx G Γ y cc nL rt) {x z : Int32} (hq : pc + 1 = q) (d : decode cc pc = .ok (.iushr, 1))  (kk : wX G Γ Q k n h q lv (.int (x.toUInt32 >>> (z.toUInt32 &&& Int32.toUInt32 31)).toInt32 :: st)) : wX G Γ Q k n h pc lv (.int z :: .int x :: st) := by
  subst hq
  exact fun H locs ls a b c => lv_iushr C.1 C.2.1 d rfl (kk H locs ls a b c)
theorem r_lshl (C : Cx G Γ y cc nL rt) {x : Int64} {z : Int32} (hq : pc + 1 = q) (d : decode cc pc = .ok (.lshl, 1))  (kk : wX G Γ Q k n h q lv (.long (x <<< (z.toInt64 &&& 63)) :: st)) : wX G Γ Q k n h pc lv (.int z :: .long x :: st) := by
  subst hq
  exact fun H locs ls a b c => lv_lshl C.1 C.2.1 d rfl (kk H locs ls a b c)
theorem r_lshr (C : Cx G Γ y cc nL rt) {x : Int64} {z : Int32} (hq : pc + 1 = q) (d : decode cc pc = .ok (.lshr, 1))  (kk : wX G Γ Q k n h q lv (.long (x >>> (z.toInt64 &&& 63)) :: st)) : wX G Γ Q k n h pc lv (.int z :: .long x :: st) := by
  subst hq
  exact fun H locs ls a b c => lv_lshr C.1 C.2.1 d rfl (kk H locs ls a b c)
theorem r_lushr (C : Cx G Γ y cc nL rt) {x : Int64} {z : Int32} (hq : pc + 1 = q) (d : decode cc pc = .ok (.lushr, 1))  (kk : wX G Γ Q k n h q lv (.long (x.toUInt64 >>> (z.toInt64.toUInt64 &&& Int64.toUInt64 63)).toInt64 :: st)) : wX G Γ Q k n h pc lv (.int z :: .long x :: st) := by
  subst hq
  exact fun H locs ls a b c => lv_lushr C.1 C.2.1 d rfl (kk H locs ls a b c)
theorem r_i2l (C : Cx G Γ y cc nL rt) {x : Int32} (hq : pc + 1 = q) (d : decode cc pc = .ok (.i2l, 1))  (kk : wX G Γ Q k n h q lv (.long x.toInt64 :: st)) : wX G Γ Q k n h pc lv (.int x :: st) := by
  subst hq
  exact fun H locs ls a b c => lv_i2l C.1 C.2.1 d rfl (kk H locs ls a b c)
theorem r_l2i (C : Cx G Γ y cc nL rt) {x : Int64} (hq : pc + 1 = q) (d : decode cc pc = .ok (.l2i, 1))  (kk : wX G Γ Q k n h q lv (.int x.toInt32 :: st)) : wX G Γ Q k n h pc lv (.long x :: st) := by
  subst hq
  exact fun H locs ls a b c => lv_l2i C.1 C.2.1 d rfl (kk H locs ls a b c)
theorem r_i2b (C : Cx G Γ y cc nL rt) {x : Int32} (hq : pc + 1 = q) (d : decode cc pc = .ok (.i2b, 1))  (kk : wX G Γ Q k n h q lv (.int x.toInt8.toInt32 :: st)) : wX G Γ Q k n h pc lv (.int x :: st) := by
  subst hq
  exact fun H locs ls a b c => lv_i2b C.1 C.2.1 d rfl (kk H locs ls a b c)
theorem r_i2c (C : Cx G Γ y cc nL rt) {x : Int32} (hq : pc + 1 = q) (d : decode cc pc = .ok (.i2c, 1))  (kk : wX G Γ Q k n h q lv (.int (x.toUInt32 % 65536).toInt32 :: st)) : wX G Γ Q k n h pc lv (.int x :: st) := by
  subst hq
  exact fun H locs ls a b c => lv_i2c C.1 C.2.1 d rfl (kk H locs ls a b c)
theorem r_lcmp (C : Cx G Γ y cc nL rt) {x z : Int64} (hq : pc + 1 = q) (d : decode cc pc = .ok (.lcmp, 1))  (kk : wX G Γ Q k n h q lv (.int (lg_cmp x z) :: st)) : wX G Γ Q k n h pc lv (.long z :: .long x :: st) := by
  subst hq
  exact fun H locs ls a b c => W.lcmp C.1 C.2.1 d (kk H locs ls a b c)
theorem r_dup (C : Cx G Γ y cc nL rt) {va : Value} (hq : pc + 1 = q) (d : decode cc pc = .ok (.dup, 1)) (hva : va.category = 1) (kk : wX G Γ Q k n h q lv (va :: va :: st)) : wX G Γ Q k n h pc lv (va :: st) := by
  subst hq
  exact fun H locs ls a b c => lv_dup C.1 C.2.1 d hva (kk H locs ls a b c)
theorem r_pop (C : Cx G Γ y cc nL rt) {va : Value} (hq : pc + 1 = q) (d : decode cc pc = .ok (.pop, 1)) (hva : va.category = 1) (kk : wX G Γ Q k n h q lv st) : wX G Γ Q k n h pc lv (va :: st) := by
  subst hq
  exact fun H locs ls a b c => lv_pop C.1 C.2.1 d hva (kk H locs ls a b c)
theorem r_dup_x1 (C : Cx G Γ y cc nL rt) {va vb : Value} (hq : pc + 1 = q) (d : decode cc pc = .ok (.dup_x1, 1)) (hva : va.category = 1) (hvb : vb.category = 1) (kk : wX G Γ Q k n h q lv (va :: vb :: va :: st)) : wX G Γ Q k n h pc lv (va :: vb :: st) := by
  subst hq
  exact fun H locs ls a b c => lv_dup_x1 C.1 C.2.1 d hva hvb (kk H locs ls a b c)
theorem r_dup2 (C : Cx G Γ y cc nL rt) {va vb : Value} (hq : pc + 1 = q) (d : decode cc pc = .ok (.dup2, 1)) (hva : va.category = 1) (hvb : vb.category = 1) (kk : wX G Γ Q k n h q lv (va :: vb :: va :: vb :: st)) : wX G Γ Q k n h pc lv (va :: vb :: st) := by
  subst hq
  exact fun H locs ls a b c => lv_dup2_11 C.1 C.2.1 d hva hvb (kk H locs ls a b c)
theorem r_null (C : Cx G Γ y cc nL rt)  (hq : pc + 1 = q) (d : decode cc pc = .ok (.aconst_null, 1))  (kk : wX G Γ Q k n h q lv (rv 0 :: st)) : wX G Γ Q k n h pc lv st := by
  subst hq
  exact fun H locs ls a b c => lv_null C.1 C.2.1 d (kk H locs ls a b c)
theorem r_if_eq (C : Cx G Γ y cc nL rt) {x : Int32} {off : Int} {tgt : Nat} (hq : pc + 3 = q) (d : decode cc pc = .ok (.ifCond .eq off, 3)) (ht : (pc : Int) + off = (tgt : Int)) (kt : x = 0 → wX G Γ Q k n h tgt lv st) (kf : ¬ (x = 0) → wX G Γ Q k n h q lv st) : wX G Γ Q k n h pc lv (.int x :: st) := by
  subst hq
  exact fun H locs ls a b c => lv_if_eq C.1 C.2.1 d ht (fun e => kt e H locs ls a b c) (fun e => kf e H locs ls a b c)
theorem r_icmp_eq (C : Cx G Γ y cc nL rt) {x z : Int32} {off : Int} {tgt : Nat} (hq : pc + 3 = q) (d : decode cc pc = .ok (.if_icmp .eq off, 3)) (ht : (pc : Int) + off = (tgt : Int)) (kt : x = z → wX G Γ Q k n h tgt lv st) (kf : ¬ (x = z) → wX G Γ Q k n h q lv st) : wX G Γ Q k n h pc lv (.int z :: .int x :: st) := by
  subst hq
  exact fun H locs ls a b c => lv_icmp_eq C.1 C.2.1 d ht (fun e => kt e H locs ls a b c) (fun e => kf e H locs ls a b c)
theorem r_if_ne (C : Cx G Γ y cc nL rt) {x : Int32} {off : Int} {tgt : Nat} (hq : pc + 3 = q) (d : decode cc pc = .ok (.ifCond .ne off, 3)) (ht : (pc : Int) + off = (tgt : Int)) (kt : ¬ x = 0 → wX G Γ Q k n h tgt lv st) (kf : x = 0 → wX G Γ Q k n h q lv st) : wX G Γ Q k n h pc lv (.int x :: st) := by
  subst hq
  exact fun H locs ls a b c => lv_if_ne C.1 C.2.1 d ht (fun e => kt e H locs ls a b c) (fun e => kf e H locs ls a b c)
theorem r_icmp_ne (C : Cx G Γ y cc nL rt) {x z : Int32} {off : Int} {tgt : Nat} (hq : pc + 3 = q) (d : decode cc pc = .ok (.if_icmp .ne off, 3)) (ht : (pc : Int) + off = (tgt : Int)) (kt : ¬ x = z → wX G Γ Q k n h tgt lv st) (kf : x = z → wX G Γ Q k n h q lv st) : wX G Γ Q k n h pc lv (.int z :: .int x :: st) := by
  subst hq
  exact fun H locs ls a b c => lv_icmp_ne C.1 C.2.1 d ht (fun e => kt e H locs ls a b c) (fun e => kf e H locs ls a b c)
theorem r_if_lt (C : Cx G Γ y cc nL rt) {x : Int32} {off : Int} {tgt : Nat} (hq : pc + 3 = q) (d : decode cc pc = .ok (.ifCond .lt off, 3)) (ht : (pc : Int) + off = (tgt : Int)) (kt : x < 0 → wX G Γ Q k n h tgt lv st) (kf : ¬ (x < 0) → wX G Γ Q k n h q lv st) : wX G Γ Q k n h pc lv (.int x :: st) := by
  subst hq
  exact fun H locs ls a b c => lv_if_lt C.1 C.2.1 d ht (fun e => kt e H locs ls a b c) (fun e => kf e H locs ls a b c)
theorem r_icmp_lt (C : Cx G Γ y cc nL rt) {x z : Int32} {off : Int} {tgt : Nat} (hq : pc + 3 = q) (d : decode cc pc = .ok (.if_icmp .lt off, 3)) (ht : (pc : Int) + off = (tgt : Int)) (kt : x < z → wX G Γ Q k n h tgt lv st) (kf : ¬ (x < z) → wX G Γ Q k n h q lv st) : wX G Γ Q k n h pc lv (.int z :: .int x :: st) := by
  subst hq
  exact fun H locs ls a b c => lv_icmp_lt C.1 C.2.1 d ht (fun e => kt e H locs ls a b c) (fun e => kf e H locs ls a b c)
theorem r_if_ge (C : Cx G Γ y cc nL rt) {x : Int32} {off : Int} {tgt : Nat} (hq : pc + 3 = q) (d : decode cc pc = .ok (.ifCond .ge off, 3)) (ht : (pc : Int) + off = (tgt : Int)) (kt : 0 ≤ x → wX G Γ Q k n h tgt lv st) (kf : ¬ (0 ≤ x) → wX G Γ Q k n h q lv st) : wX G Γ Q k n h pc lv (.int x :: st) := by
  subst hq
  exact fun H locs ls a b c => lv_if_ge C.1 C.2.1 d ht (fun e => kt e H locs ls a b c) (fun e => kf e H locs ls a b c)
theorem r_icmp_ge (C : Cx G Γ y cc nL rt) {x z : Int32} {off : Int} {tgt : Nat} (hq : pc + 3 = q) (d : decode cc pc = .ok (.if_icmp .ge off, 3)) (ht : (pc : Int) + off = (tgt : Int)) (kt : z ≤ x → wX G Γ Q k n h tgt lv st) (kf : ¬ (z ≤ x) → wX G Γ Q k n h q lv st) : wX G Γ Q k n h pc lv (.int z :: .int x :: st) := by
  subst hq
  exact fun H locs ls a b c => lv_icmp_ge C.1 C.2.1 d ht (fun e => kt e H locs ls a b c) (fun e => kf e H locs ls a b c)
theorem r_if_gt (C : Cx G Γ y cc nL rt) {x : Int32} {off : Int} {tgt : Nat} (hq : pc + 3 = q) (d : decode cc pc = .ok (.ifCond .gt off, 3)) (ht : (pc : Int) + off = (tgt : Int)) (kt : 0 < x → wX G Γ Q k n h tgt lv st) (kf : ¬ (0 < x) → wX G Γ Q k n h q lv st) : wX G Γ Q k n h pc lv (.int x :: st) := by
  subst hq
  exact fun H locs ls a b c => lv_if_gt C.1 C.2.1 d ht (fun e => kt e H locs ls a b c) (fun e => kf e H locs ls a b c)
theorem r_icmp_gt (C : Cx G Γ y cc nL rt) {x z : Int32} {off : Int} {tgt : Nat} (hq : pc + 3 = q) (d : decode cc pc = .ok (.if_icmp .gt off, 3)) (ht : (pc : Int) + off = (tgt : Int)) (kt : z < x → wX G Γ Q k n h tgt lv st) (kf : ¬ (z < x) → wX G Γ Q k n h q lv st) : wX G Γ Q k n h pc lv (.int z :: .int x :: st) := by
  subst hq
  exact fun H locs ls a b c => lv_icmp_gt C.1 C.2.1 d ht (fun e => kt e H locs ls a b c) (fun e => kf e H locs ls a b c)
theorem r_if_le (C : Cx G Γ y cc nL rt) {x : Int32} {off : Int} {tgt : Nat} (hq : pc + 3 = q) (d : decode cc pc = .ok (.ifCond .le off, 3)) (ht : (pc : Int) + off = (tgt : Int)) (kt : x ≤ 0 → wX G Γ Q k n h tgt lv st) (kf : ¬ (x ≤ 0) → wX G Γ Q k n h q lv st) : wX G Γ Q k n h pc lv (.int x :: st) := by
  subst hq
  exact fun H locs ls a b c => lv_if_le C.1 C.2.1 d ht (fun e => kt e H locs ls a b c) (fun e => kf e H locs ls a b c)
theorem r_icmp_le (C : Cx G Γ y cc nL rt) {x z : Int32} {off : Int} {tgt : Nat} (hq : pc + 3 = q) (d : decode cc pc = .ok (.if_icmp .le off, 3)) (ht : (pc : Int) + off = (tgt : Int)) (kt : x ≤ z → wX G Γ Q k n h tgt lv st) (kf : ¬ (x ≤ z) → wX G Γ Q k n h q lv st) : wX G Γ Q k n h pc lv (.int z :: .int x :: st) := by
  subst hq
  exact fun H locs ls a b c => lv_icmp_le C.1 C.2.1 d ht (fun e => kt e H locs ls a b c) (fun e => kf e H locs ls a b c)
theorem r_goto (C : Cx G Γ y cc nL rt) {off : Int} {tgt : Nat} (d : decode cc pc = .ok (.goto off, 3)) (ht : (pc : Int) + off = (tgt : Int)) (kk : wX G Γ Q k n h tgt lv st) : wX G Γ Q k n h pc lv st :=
  fun H locs ls a b c => lv_goto C.1 C.2.1 d ht (kk H locs ls a b c)
theorem r_ifnull (C : Cx G Γ y cc nL rt) {x : Nat} {off : Int} {tgt : Nat} (hq : pc + 3 = q) (d : decode cc pc = .ok (.ifnull off, 3)) (ht : (pc : Int) + off = (tgt : Int)) (kt : x = 0 → wX G Γ Q k n h tgt lv st) (kf : ¬ x = 0 → wX G Γ Q k n h q lv st) : wX G Γ Q k n h pc lv (rv x :: st) := by
  subst hq
  intro H locs ls a b c
  by_cases e : x = 0
  · have k1 := kt e H locs ls a b c
    subst e
    exact lv_ifnullN C.1 C.2.1 d ht k1
  · have k1 := kf e H locs ls a b c
    rw [rv_ref e]
    exact lv_ifnull C.1 C.2.1 d k1
theorem r_ifnonnull (C : Cx G Γ y cc nL rt) {x : Nat} {off : Int} {tgt : Nat} (hq : pc + 3 = q) (d : decode cc pc = .ok (.ifnonnull off, 3)) (ht : (pc : Int) + off = (tgt : Int)) (kt : ¬ x = 0 → wX G Γ Q k n h tgt lv st) (kf : x = 0 → wX G Γ Q k n h q lv st) : wX G Γ Q k n h pc lv (rv x :: st) := by
  subst hq
  intro H locs ls a b c
  by_cases e : x = 0
  · have k1 := kf e H locs ls a b c
    subst e
    exact lv_ifnonnullN C.1 C.2.1 d k1
  · have k1 := kt e H locs ls a b c
    rw [rv_ref e]
    exact lv_ifnonnull C.1 C.2.1 d ht k1
theorem op_inj {a b : Nat} (h : op a = op b) : a = b := by
  unfold op at h
  split at h <;> split at h
  · omega
  · cases h
  · cases h
  · exact Option.some.inj h
theorem r_acmp_eq (C : Cx G Γ y cc nL rt) {x z : Nat} {off : Int} {tgt : Nat} (hq : pc + 3 = q) (d : decode cc pc = .ok (.if_acmp .eq off, 3)) (ht : (pc : Int) + off = (tgt : Int)) (kt : x = z → wX G Γ Q k n h tgt lv st) (kf : ¬ x = z → wX G Γ Q k n h q lv st) : wX G Γ Q k n h pc lv (rv z :: rv x :: st) := by
  subst hq
  rw [← va_rf_op x, ← va_rf_op z]
  exact fun H locs ls a b c => lv_acmp_eq C.1 C.2.1 d ht (fun e => kt (op_inj e) H locs ls a b c) (fun e => kf (fun e' => e (by rw [e'])) H locs ls a b c)
theorem r_acmp_ne (C : Cx G Γ y cc nL rt) {x z : Nat} {off : Int} {tgt : Nat} (hq : pc + 3 = q) (d : decode cc pc = .ok (.if_acmp .ne off, 3)) (ht : (pc : Int) + off = (tgt : Int)) (kt : ¬ x = z → wX G Γ Q k n h tgt lv st) (kf : x = z → wX G Γ Q k n h q lv st) : wX G Γ Q k n h pc lv (rv z :: rv x :: st) := by
  subst hq
  rw [← va_rf_op x, ← va_rf_op z]
  refine fun H locs ls a b c => lv_acmp_ne C.1 C.2.1 d ht (fun e => kt (fun e' => e (by rw [e'])) H locs ls a b c) (fun e => kf (by first | exact op_inj e | exact op_inj (Classical.not_not.mp e)) H locs ls a b c)
theorem r_lookup (C : Cx G Γ y cc nL rt) {dflt : Int} {ps : Array (Int × Int)} {len : Nat} {x : Int32} {off : Int} {tgt : Nat} (d : decode cc pc = .ok (.lookupswitch dflt ps, len)) (hp : (ps.toList.zip (ps.toList.drop 1)).all (fun (a, next) => a.1 < next.1) = true) (ho : Op.lookupswitch.offset ps.toList dflt x.toInt = off) (ht : (pc : Int) + off = (tgt : Int)) (kk : wX G Γ Q k n h tgt lv st) : wX G Γ Q k n h pc lv (.int x :: st) :=
  fun H locs ls a b c => lv_lookup C.1 C.2.1 d hp ho ht (kk H locs ls a b c)
theorem r_tableOut (C : Cx G Γ y cc nL rt) {dflt lo hi : Int} {offs : Array Int} {len : Nat} {x : Int32} {tgt : Nat} (d : decode cc pc = .ok (.tableswitch dflt lo hi offs, len)) (h1 : x.toInt < lo ∨ hi < x.toInt) (ht : (pc : Int) + dflt = (tgt : Int)) (kk : wX G Γ Q k n h tgt lv st) : wX G Γ Q k n h pc lv (.int x :: st) :=
  fun H locs ls a b c => lv_tableOut C.1 C.2.1 d h1 ht (kk H locs ls a b c)
theorem r_tableIn (C : Cx G Γ y cc nL rt) {dflt lo hi : Int} {offs : Array Int} {len : Nat} {x : Int32} {off : Int} {tgt : Nat} (d : decode cc pc = .ok (.tableswitch dflt lo hi offs, len)) (h1 : ¬ x.toInt < lo) (h2 : ¬ hi < x.toInt) (ho : offs[(x.toInt - lo).toNat]? = some off) (ht : (pc : Int) + off = (tgt : Int)) (kk : wX G Γ Q k n h tgt lv st) : wX G Γ Q k n h pc lv (.int x :: st) :=
  fun H locs ls a b c => lv_tableIn C.1 C.2.1 d h1 h2 ho ht (kk H locs ls a b c)
/-! fields -/
theorem r_getI (C : Cx G Γ y cc nL rt) (c s0 g : Nat) {a : Nat} {Cn ref : String} {T : u_T} {N i : Nat} (hq : pc + 3 = q) (d : decode cc pc = .ok (.getfield i, 3)) (hcl : vwCl[c]? = some (Cn, T, N)) (hs : s0 < N) (hf : (ftab c)[s0]? = some (false, g)) (hr : (T s0).1 = ref) (hw : Cond.fieldLink y.cls i ref (T s0).2.1 (T s0).2.2.1 ∈ WS) (hin : ∀ w ∈ u_ws Cn T N, w ∈ WS)
    (hk : h.kd a = (0, c)) (kk : wX G Γ Q k n h q lv (.int (h.fi g a) :: st)) : wX G Γ Q k n h pc lv (rv a :: st) := by
  subst hq
  subst hr
  intro H locs ls aa b cl
  have h0 := Rl.ne0 aa C.2.2.2.2.2.2.2.2.2.2.2 hk (show (0 : Nat) ≠ 99 by decide)
  obtain ⟨la, q0, -, hP, -, h4, -⟩ := Rl.in aa hk (show (0 : Nat) ≠ 99 by decide)
  rw [kE_obj hk] at h4
  rw [rv_ref h0]
  exact va_get (Ts := WS) C.1 C.2.1 C.2.2.2.2.1 hin C.2.2.2.1 C.2.2.2.2.2.2.2.2.1.1 hP q0 h4 hcl s0 hs (C.2.2.2.2.1 _ hw) (fun _ h => h) (v := .int (h.fi g a)) (by rw [List.getElem?_map, hf]; rfl) d (kk H locs ls aa b cl)
theorem r_getR (C : Cx G Γ y cc nL rt) (c s0 g : Nat) {a : Nat} {Cn ref : String} {T : u_T} {N i : Nat} (hq : pc + 3 = q) (d : decode cc pc = .ok (.getfield i, 3)) (hcl : vwCl[c]? = some (Cn, T, N)) (hs : s0 < N) (hf : (ftab c)[s0]? = some (true, g)) (hr : (T s0).1 = ref) (hw : Cond.fieldLink y.cls i ref (T s0).2.1 (T s0).2.2.1 ∈ WS) (hin : ∀ w ∈ u_ws Cn T N, w ∈ WS)
    (hk : h.kd a = (0, c)) (kk : wX G Γ Q k n h q lv (rv (h.fr g a) :: st)) : wX G Γ Q k n h pc lv (rv a :: st) := by
  subst hq
  subst hr
  intro H locs ls aa b cl
  have h0 := Rl.ne0 aa C.2.2.2.2.2.2.2.2.2.2.2 hk (show (0 : Nat) ≠ 99 by decide)
  obtain ⟨la, q0, -, hP, -, h4, -⟩ := Rl.in aa hk (show (0 : Nat) ≠ 99 by decide)
  rw [kE_obj hk] at h4
  rw [rv_ref h0]
  exact va_get (Ts := WS) C.1 C.2.1 C.2.2.2.2.1 hin C.2.2.2.1 C.2.2.2.2.2.2.2.2.1.1 hP q0 h4 hcl s0 hs (C.2.2.2.2.1 _ hw) (fun _ h => h) (v := rv (h.fr g a)) (by rw [List.getElem?_map, hf]; rfl) d (kk H locs ls aa b cl)
theorem fv_setI {h : HP} {a g : Nat} {v : Int32} {q : Bool × Nat} (hq : q.2 ≠ g) : fv (h.setI g a v) a q = fv h a q := by
  unfold fv
  have : (h.setI g a v).fi q.2 a = h.fi q.2 a := if_neg (fun e => hq e.1)
  rw [this]
  rfl
theorem fv_setR {h : HP} {a g v : Nat} {q : Bool × Nat} (hq : q.2 ≠ g) : fv (h.setR g a v) a q = fv h a q := by
  unfold fv
  have : (h.setR g a v).fr q.2 a = h.fr q.2 a := if_neg (fun e => hq e.1)
  rw [this]
  rfl
theorem map_setI {h : HP} {a g : Nat} {v : Int32} : ∀ (l : List (Bool × Nat)) (s0 : Nat), l[s0]? = some (false, g) → va_nd (l.map (·.2)) = true → (l.map (fv h a)).set s0 (.int v) = l.map (fv (h.setI g a v) a)
  | [], s0, hf, _ => by simp at hf
  | x :: l, s0, hf, hn => by
    simp only [List.map_cons, va_nd, Bool.and_eq_true, decide_eq_true_eq] at hn
    cases s0 with
    | zero =>
      cases hf
      have e1 : fv (h.setI g a v) a (false, g) = .int v := by
        show Value.int (if g = g ∧ a = a then v else h.fi g a) = .int v
        rw [if_pos ⟨rfl, rfl⟩]
      have e2 : l.map (fv (h.setI g a v) a) = l.map (fv h a) := List.map_congr_left fun z hz => fv_setI (fun e => hn.1 (by rw [← e]; exact List.mem_map.mpr ⟨z, hz, rfl⟩))
      rw [List.map_cons, List.map_cons, List.set_cons_zero, e1, e2]
    | succ s0 =>
      rw [List.getElem?_cons_succ] at hf
      have e1 : fv (h.setI g a v) a x = fv h a x := fv_setI (fun e => hn.1 (by rw [e]; exact List.mem_map.mpr ⟨_, List.mem_of_getElem? hf, rfl⟩))
      rw [List.map_cons, List.map_cons, List.set_cons_succ, e1, map_setI l s0 hf hn.2]
theorem map_setR {h : HP} {a g v : Nat} : ∀ (l : List (Bool × Nat)) (s0 : Nat), l[s0]? = some (true, g) → va_nd (l.map (·.2)) = true → (l.map (fv h a)).set s0 (rv v) = l.map (fv (h.setR g a v) a)
  | [], s0, hf, _ => by simp at hf
  | x :: l, s0, hf, hn => by
    simp only [List.map_cons, va_nd, Bool.and_eq_true, decide_eq_true_eq] at hn
    cases s0 with
    | zero =>
      cases hf
      have e1 : fv (h.setR g a v) a (true, g) = rv v := by
        show rv (if g = g ∧ a = a then v else h.fr g a) = rv v
        rw [if_pos ⟨rfl, rfl⟩]
      have e2 : l.map (fv (h.setR g a v) a) = l.map (fv h a) := List.map_congr_left fun z hz => fv_setR (fun e => hn.1 (by rw [← e]; exact List.mem_map.mpr ⟨z, hz, rfl⟩))
      rw [List.map_cons, List.map_cons, List.set_cons_zero, e1, e2]
    | succ s0 =>
      rw [List.getElem?_cons_succ] at hf
      have e1 : fv (h.setR g a v) a x = fv h a x := fv_setR (fun e => hn.1 (by rw [e]; exact List.mem_map.mpr ⟨_, List.mem_of_getElem? hf, rfl⟩))
      rw [List.map_cons, List.map_cons, List.set_cons_succ, e1, map_setR l s0 hf hn.2]
theorem kE_setI_ne {ca : Nat → ClassId} {h : HP} {a b g : Nat} {v : Int32} (hb : b ≠ a) : kE ca (h.setI g a v) b = kE ca h b := kE_congr rfl (fun g' => if_neg (fun e => hb e.2)) (fun _ => rfl) rfl rfl rfl
theorem kE_setR_ne {ca : Nat → ClassId} {h : HP} {a b g v : Nat} (hb : b ≠ a) : kE ca (h.setR g a v) b = kE ca h b := kE_congr rfl (fun _ => rfl) (fun g' => if_neg (fun e => hb e.2)) rfl rfl rfl
theorem r_putI (C : Cx G Γ y cc nL rt) (c s0 g : Nat) {a : Nat} {Cn ref : String} {T : u_T} {N i : Nat} {v : Int32} {ty : FieldType} (hq : pc + 3 = q) (d : decode cc pc = .ok (.putfield i, 3)) (hcl : vwCl[c]? = some (Cn, T, N)) (hs : s0 < N) (hf : (ftab c)[s0]? = some (false, g)) (hr : (T s0).1 = ref) (hw : Cond.fieldLink y.cls i ref (T s0).2.1 (T s0).2.2.1 ∈ WS) (hin : ∀ w ∈ u_ws Cn T N, w ∈ WS)
    (ty0 : Nat → FieldType) (hty : ∀ k, k < N → parseFieldDescriptor (T k).2.2.1 = some (ty0 k)) (hnm : ∀ a, a < N → ∀ b, b < N → a ≠ b → (T a).2.1 ≠ (T b).2.1) (hfin : (T s0).2.2.2 = false) (hd : parseFieldDescriptor (T s0).2.2.1 = some ty) (hl : (ftab c).length = N) (hnd : va_nd ((ftab c).map (·.2)) = true)
    (hn : narrow ty (.int v) = .int v) (hfit : fits ty (.int v) = true) (hk : h.kd a = (0, c)) (kk : wX G Γ Q k n (h.setI g a v) q lv st) : wX G Γ Q k n h pc lv (.int v :: rv a :: st) := by
  subst hq
  subst hr
  intro H locs ls aa b cl
  have h0 := Rl.ne0 aa C.2.2.2.2.2.2.2.2.2.2.2 hk (show (0 : Nat) ≠ 99 by decide)
  obtain ⟨la, q0, h1, hP, hD, h4, hm⟩ := Rl.in aa hk (show (0 : Nat) ≠ 99 by decide)
  have h4' := h4
  rw [kE_obj hk] at h4'
  rw [rv_ref h0]
  refine va_put (Ts := WS) C.1 C.2.1 C.2.2.2.2.1 hin ty0 hty hnm C.2.2.2.1 C.2.2.2.2.2.2.2.2.1.1 hP hD b q0 h4' hcl s0 hs (C.2.2.2.2.1 _ hw) (fun _ h => h) hfin hd hn hfit (by rw [List.length_map, hl]; exact hs) d (fun H1 locs1 hP1 hD1 hS1 => ?_)
  have e : (Sum.inr (c, ((ftab c).map (fv h a)).set s0 (.int v)) : va_E) = kE G.ca (h.setI g a v) a := by rw [kE_obj (h := h.setI g a v) hk, map_setI _ _ hf hnd]
  rw [e] at hP1 hD1
  exact kk H1 locs1 ls (Rl.upd h1 hD h4 hm rfl (fun b hb => kE_setI_ne hb) hP1 hD1) hS1 cl
theorem r_putIF (C : Cx G Γ y cc nL rt) (c s0 g : Nat) {a : Nat} {Cn ref : String} {T : u_T} {N i : Nat} {v : Int32} {ty : FieldType} (hq : pc + 3 = q) (d : decode cc pc = .ok (.putfield i, 3)) (hcl : vwCl[c]? = some (Cn, T, N)) (hs : s0 < N) (hf : (ftab c)[s0]? = some (false, g)) (hr : (T s0).1 = ref) (hw : Cond.fieldLink y.cls i ref (T s0).2.1 (T s0).2.2.1 ∈ WS) (hin : ∀ w ∈ u_ws Cn T N, w ∈ WS)
    (ty0 : Nat → FieldType) (hty : ∀ k, k < N → parseFieldDescriptor (T k).2.2.1 = some (ty0 k)) (hnm : ∀ a, a < N → ∀ b, b < N → a ≠ b → (T a).2.1 ≠ (T b).2.1) (hfin : (T s0).2.2.2 = true) (hnm0 : y.name = "<init>") (hdecl : (T s0).1 = y.cls) (hd : parseFieldDescriptor (T s0).2.2.1 = some ty) (hl : (ftab c).length = N) (hnd : va_nd ((ftab c).map (·.2)) = true)
    (hn : narrow ty (.int v) = .int v) (hfit : fits ty (.int v) = true) (hk : h.kd a = (0, c)) (kk : wX G Γ Q k n (h.setI g a v) q lv st) : wX G Γ Q k n h pc lv (.int v :: rv a :: st) := by
  subst hq
  subst hr
  intro H locs ls aa b cl
  have h0 := Rl.ne0 aa C.2.2.2.2.2.2.2.2.2.2.2 hk (show (0 : Nat) ≠ 99 by decide)
  obtain ⟨la, q0, h1, hP, hD, h4, hm⟩ := Rl.in aa hk (show (0 : Nat) ≠ 99 by decide)
  have h4' := h4
  rw [kE_obj hk] at h4'
  rw [rv_ref h0]
  refine va_putF (Ts := WS) C.1 C.2.1 C.2.2.2.2.1 hin ty0 hty hnm C.2.2.2.1 C.2.2.2.2.2.2.2.2.1.1 hP hD b q0 h4' hcl s0 hs (C.2.2.2.2.1 _ hw) (fun _ h => h) hfin (C.2.2.2.2.2.2.2.1.trans hnm0) hdecl hd hn hfit (by rw [List.length_map, hl]; exact hs) d (fun H1 locs1 hP1 hD1 hS1 => ?_)
  have e : (Sum.inr (c, ((ftab c).map (fv h a)).set s0 (.int v)) : va_E) = kE G.ca (h.setI g a v) a := by rw [kE_obj (h := h.setI g a v) hk, map_setI _ _ hf hnd]
  rw [e] at hP1 hD1
  exact kk H1 locs1 ls (Rl.upd h1 hD h4 hm rfl (fun b hb => kE_setI_ne hb) hP1 hD1) hS1 cl
theorem r_putR (C : Cx G Γ y cc nL rt) (c s0 g : Nat) {a : Nat} {Cn ref : String} {T : u_T} {N i : Nat} {v : Nat} {ty : FieldType} (hq : pc + 3 = q) (d : decode cc pc = .ok (.putfield i, 3)) (hcl : vwCl[c]? = some (Cn, T, N)) (hs : s0 < N) (hf : (ftab c)[s0]? = some (true, g)) (hr : (T s0).1 = ref) (hw : Cond.fieldLink y.cls i ref (T s0).2.1 (T s0).2.2.1 ∈ WS) (hin : ∀ w ∈ u_ws Cn T N, w ∈ WS)
    (ty0 : Nat → FieldType) (hty : ∀ k, k < N → parseFieldDescriptor (T k).2.2.1 = some (ty0 k)) (hnm : ∀ a, a < N → ∀ b, b < N → a ≠ b → (T a).2.1 ≠ (T b).2.1) (hfin : (T s0).2.2.2 = false) (hd : parseFieldDescriptor (T s0).2.2.1 = some ty) (hl : (ftab c).length = N) (hnd : va_nd ((ftab c).map (·.2)) = true)
    (hn : narrow ty (rv v) = rv v) (hfit : fits ty (rv v) = true) (hk : h.kd a = (0, c)) (kk : wX G Γ Q k n (h.setR g a v) q lv st) : wX G Γ Q k n h pc lv (rv v :: rv a :: st) := by
  subst hq
  subst hr
  intro H locs ls aa b cl
  have h0 := Rl.ne0 aa C.2.2.2.2.2.2.2.2.2.2.2 hk (show (0 : Nat) ≠ 99 by decide)
  obtain ⟨la, q0, h1, hP, hD, h4, hm⟩ := Rl.in aa hk (show (0 : Nat) ≠ 99 by decide)
  have h4' := h4
  rw [kE_obj hk] at h4'
  rw [rv_ref h0]
  refine va_put (Ts := WS) C.1 C.2.1 C.2.2.2.2.1 hin ty0 hty hnm C.2.2.2.1 C.2.2.2.2.2.2.2.2.1.1 hP hD b q0 h4' hcl s0 hs (C.2.2.2.2.1 _ hw) (fun _ h => h) hfin hd hn hfit (by rw [List.length_map, hl]; exact hs) d (fun H1 locs1 hP1 hD1 hS1 => ?_)
  have e : (Sum.inr (c, ((ftab c).map (fv h a)).set s0 (rv v)) : va_E) = kE G.ca (h.setR g a v) a := by rw [kE_obj (h := h.setR g a v) hk, map_setR _ _ hf hnd]
  rw [e] at hP1 hD1
  exact kk H1 locs1 ls (Rl.upd h1 hD h4 hm rfl (fun b hb => kE_setR_ne hb) hP1 hD1) hS1 cl
theorem r_putRF (C : Cx G Γ y cc nL rt) (c s0 g : Nat) {a : Nat} {Cn ref : String} {T : u_T} {N i : Nat} {v : Nat} {ty : FieldType} (hq : pc + 3 = q) (d : decode cc pc = .ok (.putfield i, 3)) (hcl : vwCl[c]? = some (Cn, T, N)) (hs : s0 < N) (hf : (ftab c)[s0]? = some (true, g)) (hr : (T s0).1 = ref) (hw : Cond.fieldLink y.cls i ref (T s0).2.1 (T s0).2.2.1 ∈ WS) (hin : ∀ w ∈ u_ws Cn T N, w ∈ WS)
    (ty0 : Nat → FieldType) (hty : ∀ k, k < N → parseFieldDescriptor (T k).2.2.1 = some (ty0 k)) (hnm : ∀ a, a < N → ∀ b, b < N → a ≠ b → (T a).2.1 ≠ (T b).2.1) (hfin : (T s0).2.2.2 = true) (hnm0 : y.name = "<init>") (hdecl : (T s0).1 = y.cls) (hd : parseFieldDescriptor (T s0).2.2.1 = some ty) (hl : (ftab c).length = N) (hnd : va_nd ((ftab c).map (·.2)) = true)
    (hn : narrow ty (rv v) = rv v) (hfit : fits ty (rv v) = true) (hk : h.kd a = (0, c)) (kk : wX G Γ Q k n (h.setR g a v) q lv st) : wX G Γ Q k n h pc lv (rv v :: rv a :: st) := by
  subst hq
  subst hr
  intro H locs ls aa b cl
  have h0 := Rl.ne0 aa C.2.2.2.2.2.2.2.2.2.2.2 hk (show (0 : Nat) ≠ 99 by decide)
  obtain ⟨la, q0, h1, hP, hD, h4, hm⟩ := Rl.in aa hk (show (0 : Nat) ≠ 99 by decide)
  have h4' := h4
  rw [kE_obj hk] at h4'
  rw [rv_ref h0]
  refine va_putF (Ts := WS) C.1 C.2.1 C.2.2.2.2.1 hin ty0 hty hnm C.2.2.2.1 C.2.2.2.2.2.2.2.2.1.1 hP hD b q0 h4' hcl s0 hs (C.2.2.2.2.1 _ hw) (fun _ h => h) hfin (C.2.2.2.2.2.2.2.1.trans hnm0) hdecl hd hn hfit (by rw [List.length_map, hl]; exact hs) d (fun H1 locs1 hP1 hD1 hS1 => ?_)
  have e : (Sum.inr (c, ((ftab c).map (fv h a)).set s0 (rv v)) : va_E) = kE G.ca (h.setR g a v) a := by rw [kE_obj (h := h.setR g a v) hk, map_setR _ _ hf hnd]
  rw [e] at hP1 hD1
  exact kk H1 locs1 ls (Rl.upd h1 hD h4 hm rfl (fun b hb => kE_setR_ne hb) hP1 hD1) hS1 cl
/-! arrays -/
theorem kE_stI_ne {ca : Nat → ClassId} {h : HP} {a b i : Nat} {v : Int32} (hb : b ≠ a) : kE ca (h.stI a i v) b = kE ca h b := kE_congr rfl (fun _ => rfl) (fun _ => rfl) (funext fun j => if_neg (fun e => hb e.1)) rfl rfl
theorem kE_stL_ne {ca : Nat → ClassId} {h : HP} {a b i : Nat} {v : Int64} (hb : b ≠ a) : kE ca (h.stL a i v) b = kE ca h b := kE_congr rfl (fun _ => rfl) (fun _ => rfl) rfl (funext fun j => if_neg (fun e => hb e.1)) rfl
theorem kE_stR_ne {ca : Nat → ClassId} {h : HP} {a b i v : Nat} (hb : b ≠ a) : kE ca (h.stR a i v) b = kE ca h b := kE_congr rfl (fun _ => rfl) (fun _ => rfl) rfl rfl (funext fun j => if_neg (fun e => hb e.1))
theorem ai_stI {h : HP} {a i : Nat} {v : Int32} : upd (h.ai a) i v = (h.stI a i v).ai a := by
  funext j
  show upd (h.ai a) i v j = if a = a ∧ j = i then v else h.ai a j
  unfold upd
  by_cases e : j = i <;> simp [e]
theorem al_stL {h : HP} {a i : Nat} {v : Int64} : vp_updL (h.al a) i v = (h.stL a i v).al a := by
  funext j
  show vp_updL (h.al a) i v j = if a = a ∧ j = i then v else h.al a j
  unfold vp_updL
  by_cases e : j = i <;> simp [e]
theorem ar_stR {h : HP} {a i v : Nat} (hv : v ≠ 0) : va_up (fun j => op (h.ar a j)) i (some v) = fun j => op ((h.stR a i v).ar a j) := by
  funext j
  show va_up (fun j => op (h.ar a j)) i (some v) j = op (if a = a ∧ j = i then v else h.ar a j)
  unfold va_up
  by_cases e : j = i
  · simp [e, op, hv]
  · simp [e]
theorem r_iald (C : Cx G Γ y cc nL rt) {a z : Nat} {i : Int32} (hq : pc + 1 = q) (d : decode cc pc = .ok (.iaload, 1)) (hk : h.kd a = (9, z)) (hi : vp_in i z) (kk : wX G Γ Q k n h q lv (.int (h.ai a i.toNatClampNeg) :: st)) : wX G Γ Q k n h pc lv (.int i :: rv a :: st) := by
  subst hq
  intro H locs ls aa b cl
  have h0 := Rl.ne0 aa C.2.2.2.2.2.2.2.2.2.2.2 hk (show (9 : Nat) ≠ 99 by decide)
  obtain ⟨la, q0, -, hP, -, h4, -⟩ := Rl.in aa hk (show (9 : Nat) ≠ 99 by decide)
  rw [kE_i hk] at h4
  rw [rv_ref h0]
  exact va_iald C.1 C.2.1 C.2.2.2.2.2.2.2.2.1.1 hP q0 1 h4 rfl hi d (kk H locs ls aa b cl)
theorem r_zald (C : Cx G Γ y cc nL rt) {a z : Nat} {i : Int32} (hq : pc + 1 = q) (d : decode cc pc = .ok (.baload, 1)) (hk : h.kd a = (11, z)) (hi : vp_in i z) (kk : wX G Γ Q k n h q lv (.int (h.ai a i.toNatClampNeg) :: st)) : wX G Γ Q k n h pc lv (.int i :: rv a :: st) := by
  subst hq
  intro H locs ls aa b cl
  have h0 := Rl.ne0 aa C.2.2.2.2.2.2.2.2.2.2.2 hk (show (11 : Nat) ≠ 99 by decide)
  obtain ⟨la, q0, -, hP, -, h4, -⟩ := Rl.in aa hk (show (11 : Nat) ≠ 99 by decide)
  rw [kE_z hk] at h4
  rw [rv_ref h0]
  exact va_zald C.1 C.2.1 C.2.2.2.2.2.2.2.2.1.1 hP q0 3 h4 rfl hi d (kk H locs ls aa b cl)
theorem r_bald (C : Cx G Γ y cc nL rt) {a z : Nat} {i : Int32} (hq : pc + 1 = q) (d : decode cc pc = .ok (.baload, 1)) (hk : h.kd a = (8, z)) (hi : vp_in i z) (kk : wX G Γ Q k n h q lv (.int (h.ai a i.toNatClampNeg) :: st)) : wX G Γ Q k n h pc lv (.int i :: rv a :: st) := by
  subst hq
  intro H locs ls aa b cl
  have h0 := Rl.ne0 aa C.2.2.2.2.2.2.2.2.2.2.2 hk (show (8 : Nat) ≠ 99 by decide)
  obtain ⟨la, q0, -, hP, -, h4, -⟩ := Rl.in aa hk (show (8 : Nat) ≠ 99 by decide)
  rw [kE_b hk] at h4
  rw [rv_ref h0]
  exact va_bald C.1 C.2.1 C.2.2.2.2.2.2.2.2.1.1 hP q0 0 h4 rfl hi d (kk H locs ls aa b cl)
theorem r_lald (C : Cx G Γ y cc nL rt) {a z : Nat} {i : Int32} (hq : pc + 1 = q) (d : decode cc pc = .ok (.laload, 1)) (hk : h.kd a = (10, z)) (hi : vp_in i z) (kk : wX G Γ Q k n h q lv (.long (h.al a i.toNatClampNeg) :: st)) : wX G Γ Q k n h pc lv (.int i :: rv a :: st) := by
  subst hq
  intro H locs ls aa b cl
  have h0 := Rl.ne0 aa C.2.2.2.2.2.2.2.2.2.2.2 hk (show (10 : Nat) ≠ 99 by decide)
  obtain ⟨la, q0, -, hP, -, h4, -⟩ := Rl.in aa hk (show (10 : Nat) ≠ 99 by decide)
  rw [kE_l hk] at h4
  rw [rv_ref h0]
  exact va_lald C.1 C.2.1 C.2.2.2.2.2.2.2.2.1.1 hP q0 2 h4 rfl hi d (kk H locs ls aa b cl)
theorem r_aald (C : Cx G Γ y cc nL rt) {a z : Nat} {i : Int32} (hq : pc + 1 = q) (d : decode cc pc = .ok (.aaload, 1)) (hk : h.kd a = (12, z)) (hi : vp_in i z) (kk : wX G Γ Q k n h q lv (rv (h.ar a i.toNatClampNeg) :: st)) : wX G Γ Q k n h pc lv (.int i :: rv a :: st) := by
  subst hq
  intro H locs ls aa b cl
  have h0 := Rl.ne0 aa C.2.2.2.2.2.2.2.2.2.2.2 hk (show (12 : Nat) ≠ 99 by decide)
  obtain ⟨la, q0, -, hP, -, h4, -⟩ := Rl.in aa hk (show (12 : Nat) ≠ 99 by decide)
  rw [kE_r hk] at h4
  rw [rv_ref h0]
  have k1 := kk H locs ls aa b cl
  rw [← va_rf_op] at k1
  exact va_aldq C.1 C.2.1 C.2.2.2.2.2.2.2.2.1.1 hP q0 4 h4 rfl hi d k1
theorem r_iast (C : Cx G Γ y cc nL rt) {a z : Nat} {i v w : Int32} (hq : pc + 1 = q) (d : decode cc pc = .ok (.iastore, 1)) (hw : v = w) (hk : h.kd a = (9, z)) (hi : vp_in i z) (kk : wX G Γ Q k n (h.stI a i.toNatClampNeg w) q lv st) : wX G Γ Q k n h pc lv (.int v :: .int i :: rv a :: st) := by
  subst hq
  subst hw
  intro H locs ls aa b cl
  have h0 := Rl.ne0 aa C.2.2.2.2.2.2.2.2.2.2.2 hk (show (9 : Nat) ≠ 99 by decide)
  obtain ⟨la, q0, h1, hP, hD, h4, hm⟩ := Rl.in aa hk (show (9 : Nat) ≠ 99 by decide)
  have h4' := h4
  rw [kE_i hk] at h4'
  rw [rv_ref h0]
  refine va_iast C.1 C.2.1 C.2.2.2.2.2.2.2.2.1.1 hP hD b q0 1 h4' rfl hi d (fun H1 locs1 hP1 hD1 hS1 => ?_)
  have e : (Sum.inl (G.ca 9, z, Sum.inl (upd (h.ai a) i.toNatClampNeg v)) : va_E) = kE G.ca (h.stI a i.toNatClampNeg v) a := by rw [kE_i (h := h.stI a i.toNatClampNeg v) hk, ai_stI]
  rw [e] at hP1 hD1
  exact kk H1 locs1 ls (Rl.upd h1 hD h4 hm rfl (fun b hb => kE_stI_ne hb) hP1 hD1) hS1 cl
theorem r_zast (C : Cx G Γ y cc nL rt) {a z : Nat} {i v w : Int32} (hq : pc + 1 = q) (d : decode cc pc = .ok (.bastore, 1)) (hw : (vp_nar .boolean v) = w) (hk : h.kd a = (11, z)) (hi : vp_in i z) (kk : wX G Γ Q k n (h.stI a i.toNatClampNeg w) q lv st) : wX G Γ Q k n h pc lv (.int v :: .int i :: rv a :: st) := by
  subst hq
  subst hw
  intro H locs ls aa b cl
  have h0 := Rl.ne0 aa C.2.2.2.2.2.2.2.2.2.2.2 hk (show (11 : Nat) ≠ 99 by decide)
  obtain ⟨la, q0, h1, hP, hD, h4, hm⟩ := Rl.in aa hk (show (11 : Nat) ≠ 99 by decide)
  have h4' := h4
  rw [kE_z hk] at h4'
  rw [rv_ref h0]
  refine va_zast C.1 C.2.1 C.2.2.2.2.2.2.2.2.1.1 hP hD b q0 3 h4' rfl hi d (fun H1 locs1 hP1 hD1 hS1 => ?_)
  have e : (Sum.inl (G.ca 11, z, Sum.inl (upd (h.ai a) i.toNatClampNeg (vp_nar .boolean v))) : va_E) = kE G.ca (h.stI a i.toNatClampNeg (vp_nar .boolean v)) a := by rw [kE_z (h := h.stI a i.toNatClampNeg (vp_nar .boolean v)) hk, ai_stI]
  rw [e] at hP1 hD1
  exact kk H1 locs1 ls (Rl.upd h1 hD h4 hm rfl (fun b hb => kE_stI_ne hb) hP1 hD1) hS1 cl
theorem r_bast (C : Cx G Γ y cc nL rt) {a z : Nat} {i v w : Int32} (hq : pc + 1 = q) (d : decode cc pc = .ok (.bastore, 1)) (hw : (vp_nar .byte v) = w) (hk : h.kd a = (8, z)) (hi : vp_in i z) (kk : wX G Γ Q k n (h.stI a i.toNatClampNeg w) q lv st) : wX G Γ Q k n h pc lv (.int v :: .int i :: rv a :: st) := by
  subst hq
  subst hw
  intro H locs ls aa b cl
  have h0 := Rl.ne0 aa C.2.2.2.2.2.2.2.2.2.2.2 hk (show (8 : Nat) ≠ 99 by decide)
  obtain ⟨la, q0, h1, hP, hD, h4, hm⟩ := Rl.in aa hk (show (8 : Nat) ≠ 99 by decide)
  have h4' := h4
  rw [kE_b hk] at h4'
  rw [rv_ref h0]
  refine va_bast C.1 C.2.1 C.2.2.2.2.2.2.2.2.1.1 hP hD b q0 0 h4' rfl hi d (fun H1 locs1 hP1 hD1 hS1 => ?_)
  have e : (Sum.inl (G.ca 8, z, Sum.inl (upd (h.ai a) i.toNatClampNeg (vp_nar .byte v))) : va_E) = kE G.ca (h.stI a i.toNatClampNeg (vp_nar .byte v)) a := by rw [kE_b (h := h.stI a i.toNatClampNeg (vp_nar .byte v)) hk, ai_stI]
  rw [e] at hP1 hD1
  exact kk H1 locs1 ls (Rl.upd h1 hD h4 hm rfl (fun b hb => kE_stI_ne hb) hP1 hD1) hS1 cl
theorem r_last (C : Cx G Γ y cc nL rt) {a z : Nat} {i : Int32} {v : Int64} (hq : pc + 1 = q) (d : decode cc pc = .ok (.lastore, 1)) (hk : h.kd a = (10, z)) (hi : vp_in i z) (kk : wX G Γ Q k n (h.stL a i.toNatClampNeg v) q lv st) : wX G Γ Q k n h pc lv (.long v :: .int i :: rv a :: st) := by
  subst hq
  intro H locs ls aa b cl
  have h0 := Rl.ne0 aa C.2.2.2.2.2.2.2.2.2.2.2 hk (show (10 : Nat) ≠ 99 by decide)
  obtain ⟨la, q0, h1, hP, hD, h4, hm⟩ := Rl.in aa hk (show (10 : Nat) ≠ 99 by decide)
  have h4' := h4
  rw [kE_l hk] at h4'
  rw [rv_ref h0]
  refine va_last C.1 C.2.1 C.2.2.2.2.2.2.2.2.1.1 hP hD b q0 2 h4' rfl hi d (fun H1 locs1 hP1 hD1 hS1 => ?_)
  have e : (Sum.inl (G.ca 10, z, Sum.inr (Sum.inl (vp_updL (h.al a) i.toNatClampNeg v))) : va_E) = kE G.ca (h.stL a i.toNatClampNeg v) a := by rw [kE_l (h := h.stL a i.toNatClampNeg v) hk, al_stL]
  rw [e] at hP1 hD1
  exact kk H1 locs1 ls (Rl.upd h1 hD h4 hm rfl (fun b hb => kE_stL_ne hb) hP1 hD1) hS1 cl
theorem r_aast (C : Cx G Γ y cc nL rt) {a z v : Nat} {i : Int32} (hq : pc + 1 = q) (d : decode cc pc = .ok (.aastore, 1)) (hk : h.kd a = (12, z)) (hkv : h.kd v = (0, 3)) (hi : vp_in i z) (kk : wX G Γ Q k n (h.stR a i.toNatClampNeg v) q lv st) : wX G Γ Q k n h pc lv (rv v :: .int i :: rv a :: st) := by
  subst hq
  intro H locs ls aa b cl
  have h0 := Rl.ne0 aa C.2.2.2.2.2.2.2.2.2.2.2 hk (show (12 : Nat) ≠ 99 by decide)
  have hv0 := Rl.ne0 aa C.2.2.2.2.2.2.2.2.2.2.2 hkv (show (0 : Nat) ≠ 99 by decide)
  obtain ⟨la, q0, h1, hP, hD, h4, hm⟩ := Rl.in aa hk (show (12 : Nat) ≠ 99 by decide)
  obtain ⟨qv, hqv⟩ := va_pl_get (X := []) (f := kE G.ca h) ((h1 v).mpr (by rw [hkv]; decide))
  have h4' := h4
  rw [kE_r hk] at h4'
  rw [kE_obj hkv] at hqv
  rw [rv_ref h0, rv_ref hv0]
  refine va_astq C.1 C.2.1 C.2.2.2.2.2.2.2.2.1.1 hP hD b q0 4 qv 3 (r := (RX3, TX3, 12)) h4' rfl hqv rfl hi d (fun H1 locs1 hP1 hD1 hS1 => ?_)
  have e : (Sum.inl (G.ca 12, z, Sum.inr (Sum.inr (Sum.inr (Sum.inr (va_up (fun j => op (h.ar a j)) i.toNatClampNeg (some v)))))) : va_E) = kE G.ca (h.stR a i.toNatClampNeg v) a := by rw [kE_r (h := h.stR a i.toNatClampNeg v) hk, ar_stR hv0]
  rw [e] at hP1 hD1
  exact kk H1 locs1 ls (Rl.upd h1 hD h4 hm rfl (fun b hb => kE_stR_ne hb) hP1 hD1) hS1 cl
theorem r_alen (C : Cx G Γ y cc nL rt) {a t z : Nat} (hq : pc + 1 = q) (d : decode cc pc = .ok (.arraylength, 1)) (hk : h.kd a = (t, z)) (ht : t = 9 ∨ t = 8) (kk : wX G Γ Q k n h q lv (.int (Int32.ofNat z) :: st)) : wX G Γ Q k n h pc lv (rv a :: st) := by
  subst hq
  intro H locs ls aa b cl
  have h0 := Rl.ne0 aa C.2.2.2.2.2.2.2.2.2.2.2 hk (by rcases ht with rfl | rfl; exact (show (9 : Nat) ≠ 99 by decide); exact (show (8 : Nat) ≠ 99 by decide))
  obtain ⟨la, q0, -, hP, -, h4, -⟩ := Rl.in aa hk (by rcases ht with rfl | rfl; exact (show (9 : Nat) ≠ 99 by decide); exact (show (8 : Nat) ≠ 99 by decide))
  rw [rv_ref h0]
  rcases ht with rfl | rfl
  · rw [kE_i hk] at h4
    exact va_alen C.1 C.2.1 C.2.2.2.2.2.2.2.2.1.1 hP q0 1 h4 rfl rfl d (kk H locs ls aa b cl)
  · rw [kE_b hk] at h4
    exact va_alen C.1 C.2.1 C.2.2.2.2.2.2.2.2.1.1 hP q0 0 h4 rfl rfl d (kk H locs ls aa b cl)
end ROWS
end
section
/-! ===== contracts over the functional heap: entry, returns, calls, new cells ===== -/
theorem WS_good : GoodIn WS WS := fun w hw => ⟨hw, good_of_word (List.mem_filter.mp hw).2⟩
theorem ws_code {y : MethodName} {cc : ByteArray} {nL : Nat} {rt : Option FieldType} (h : Cond.code y cc nL rt ∈ WS) : GoodIn WS (.code y cc nL rt :: WS) := fun w hw => by
  rcases List.mem_cons.mp hw with rfl | hw
  · exact WS_good _ h
  · exact WS_good _ hw
def rmm (lev mc ms : Nat) : Room := { frames := lev, cells := mc, slots := ms, locals := 64 * lev }
def Rm (Γ : CT) (lev mc ms : Nat) : Prop := lev ≤ Γ.R.frames ∧ mc ≤ Γ.R.cells ∧ ms ≤ Γ.R.slots ∧ 64 * lev ≤ Γ.R.locals
def PreU (G : GT) (h : HP) (U : State) : Prop := Rl G h U.heap ∧ KN G U ∧ KH G U U.heap ∧ (∀ q, U.heap.size ≤ q → G.A q) ∧ ¬ G.A 0
def QC (G : GT) (post : Option Value → HP → Prop) : Array Value → State → Outcome → State → Prop := fun _ s0 o t => (∃ (v : Option Value) (h' : HP), o = .returned v ∧ post v h' ∧ Rl G h' t.heap) ∧ va_F G.A s0 t
def qM (G : GT) (Γ : CT) (post : Option Value → HP → Prop) (mc ms : Nat) : State → Prop := MQ Γ.below (QC G post) Γ.args Γ.s mc ms G.A
/-- the contract: any heap like h, the arguments av: it returns, and post holds of the answer and the new heap -/
def Con (G : GT) (lev mc ms : Nat) (y : MethodName) (cc : ByteArray) (nL : Nat) (rt : Option FieldType) (av : List Value) (h : HP) (post : Option Value → HP → Prop) : Prop :=
  Met G.l y (.code y cc nL rt :: WS) (rmm lev mc ms) (va_Pc av (PreU G h)) (QC G post) mc ms G.A
theorem KN.same {G : GT} {u U : State} (hv : u.vm = U.vm) (h : KN G u) : KN G U := by
  obtain ⟨h1, h2, h3, h4⟩ := h
  have ha : u.vm.Alike U.vm := hv ▸ Vm.Alike.refl u.vm
  exact ⟨va_K.moved ha h1, h2.moved ha, fun q hq => (h3 q hq).same rfl hv, fun i q hq => (h4 i q hq).same hv.symm⟩
theorem KN.warm {G : GT} {s U : State} (hW : s.WarmedH U.vm) (h : KN G s) : KN G U := by
  obtain ⟨h1, h2, h3, h4⟩ := h
  exact ⟨va_K.moved hW.alike h1, h2.moved hW.alike, fun q hq => (h3 q hq).warmM hW, fun i q hq => (h4 i q hq).warm hW⟩
theorem KH.moved {G : GT} {u U : State} {H : Heap} (ha : u.vm.Alike U.vm) (h : KH G u H) : KH G U H := ⟨h.1.moved ha, h.2.moved ha⟩
theorem KH.kept {G : GT} {U : State} {H H1 : Heap} (h : KH G U H) (hq : ∀ a : Nat, a < H.size → ¬ G.A a → H1[a]? = H[a]?) : KH G U H1 := ⟨h.1.kept hq, h.2.kept hq⟩
theorem pre_blind {G : GT} {h : HP} {av : List Value} : FrameBlind (va_Pc av (PreU G h)) := fun a U g mk hp => by
  obtain ⟨h0, h1, h2, h3, h4, h5⟩ := hp
  exact ⟨h0, h1, h2.same rfl, h3.moved (u := U) (U := U.calling g mk a) (Vm.Alike.refl U.vm), h4, h5⟩
theorem pre_of {G : GT} {Γ : CT} {y : MethodName} {cc : ByteArray} {nL : Nat} {rt : Option FieldType} (C : Cx G Γ y cc nL rt) {h : HP} {H : Heap} {locs : List Loc} (hR : Rl G h H) (hS : va_S G.A Γ.s.heap H locs) (U : State) (hU : U.heap = H) (hW : Γ.s.WarmedH U.vm) : PreU G h U := by
  obtain ⟨-, -, -, -, -, -, -, -, c1, c2, c3, c4⟩ := C
  refine ⟨by rw [hU]; exact hR, c1.warm hW, (c2.moved hW.alike).kept (fun a h1 h2 => ?_), fun q hq => c3 q ?_, c4⟩
  · rw [hU]; exact hS.2.1 a h1 h2
  · rw [hU] at hq
    exact Nat.le_trans hS.1 hq
/-- the locals at the entry -/
def lvE : Nat → List Value → List (Option Value)
  | n, [] => List.replicate n none
  | n, v :: vs => if v.category = 2 then some v :: none :: lvE (n - 2) vs else some v :: lvE (n - 1) vs
theorem lvE_at (vs : List Value) : ∀ (n i0 i : Nat) (v : Value), (lvE n vs)[i]? = some (some v) → (i0 + i, v) ∈ lv_args i0 vs := by
  induction vs with
  | nil =>
    intro n i0 i v h
    simp only [lvE] at h
    have := List.mem_of_getElem? h
    rw [List.mem_replicate] at this
    exact absurd this.2 (by simp)
  | cons w vs ih =>
    intro n i0 i v h
    simp only [lvE] at h
    simp only [lv_args]
    by_cases hc : w.category = 2
    · rw [if_pos hc] at h
      match i, h with
      | 0, h => cases h; exact List.mem_cons_self
      | 1, h => cases h
      | i + 2, h =>
        refine List.mem_cons_of_mem _ ?_
        have := ih (n - 2) (i0 + 2) i v h
        rw [show i0 + (i + 2) = i0 + 2 + i by omega]
        rw [hc]
        exact this
    · rw [if_neg hc] at h
      have hc1 : w.category = 1 := (lv_cat w).resolve_right hc
      match i, h with
      | 0, h => cases h; exact List.mem_cons_self
      | i + 1, h =>
        refine List.mem_cons_of_mem _ ?_
        have := ih (n - 1) (i0 + 1) i v h
        rw [show i0 + (i + 1) = i0 + 1 + i by omega]
        rw [hc1]
        exact this
theorem Con.of {G : GT} {lev mc ms : Nat} {y : MethodName} {cc : ByteArray} {nL : Nat} {rt : Option FieldType} {av : List Value} {h : HP} {post : Option Value → HP → Prop} {lv : List (Option Value)} (hy : plainName y.cls = true) (he : lvE nL av = lv) (hn : (lg_sl av).length ≤ nL)
    (body : ∀ Γ : CT, Cx G Γ y cc nL rt → Rm Γ lev mc ms → wX G Γ (qM G Γ post mc ms) 0 0 h 0 lv []) : Con G lev mc ms y cc nL rt av h post := by
  refine Met.ofW (cc := cc) (maxL := nL) (ret := rt) hy rfl ?_
  intro p e s m args below meth c s₁ B hml hv
  obtain ⟨rfl, h1, h2, h3, h4, h5⟩ := hv
  have hown : s.vm.findClass y.cls = some m.cls := findClass_of_methodNamed B.named
  have hts := atoms_spec (ws := Cond.code y cc nL rt :: WS) B.pre
  have hnm : meth.name = y.name := (name_of_methodNamed B.named B.method).1
  have hl := lv_entry av (n := nL) hn
  rw [lg_entry_eq]
  refine body (p, e, (headSpec (Cond.code y cc nL rt :: WS) (rmm lev mc ms)).room, s, m, av.toArray, below, meth, c) ⟨B.exec, B.bytes, hml, hown, fun w hw => hts w (List.mem_cons_of_mem _ hw), B.returns, B.notSynchronized, hnm, h2, h3, h4, h5⟩ ⟨Nat.le_refl _, Nat.le_refl _, Nat.le_refl _, Nat.le_refl _⟩ s.heap [] _ h1 va_S.rf ⟨hl.1.trans hml.symm, hl.2.1, fun i v hi => ?_⟩
  subst he
  have := lvE_at av nL 0 i v hi
  rw [Nat.zero_add] at this
  exact hl.2.2 (i, v) this
section CALLS
variable {G : GT} {Γ : CT} {y : MethodName} {cc : ByteArray} {nL : Nat} {rt : Option FieldType} {Q : State → Prop} {k n : Nat} {h : HP} {pc q : Nat} {lv : List (Option Value)} {st : List Value} {lev mc ms : Nat} {post : Option Value → HP → Prop}
/-! returns -/
theorem r_ret (C : Cx G Γ y cc nL rt) (d : decode cc pc = .ok (.return_, 1)) (hr : rt = none) (h1 : k ≤ mc) (h2 : n ≤ ms) (hp : post none h) : wX G Γ (qM G Γ post mc ms) k n h pc lv [] := by
  subst hr
  intro H locs ls a b c
  refine W.widen h1 h2 ?_
  exact W.vret C.1 C.2.1 C.2.2.2.2.2.1 (fun t ht hW => ⟨⟨none, h, rfl, hp, by rw [ht]; exact a⟩, b.F ht⟩) b.2.2 d C.2.2.2.2.2.2.1
theorem r_iret (C : Cx G Γ y cc nL rt) {v : Int32} (d : decode cc pc = .ok (.ireturn, 1)) (hr : rt = some .int) (h1 : k ≤ mc) (h2 : n ≤ ms) (hp : post (some (.int v)) h) : wX G Γ (qM G Γ post mc ms) k n h pc lv [.int v] := by
  subst hr
  intro H locs ls a b c
  refine W.widen h1 h2 ?_
  exact W.iret C.1 C.2.1 C.2.2.2.2.2.1 (fun t ht hW => ⟨⟨_, h, rfl, hp, by rw [ht]; exact a⟩, b.F ht⟩) b.2.2 d C.2.2.2.2.2.2.1
theorem r_zret (C : Cx G Γ y cc nL rt) {v : Int32} {ty : FieldType} (d : decode cc pc = .ok (.ireturn, 1)) (hr : rt = some ty) (hn : narrow ty (.int v) = .int v) (h1 : k ≤ mc) (h2 : n ≤ ms) (hp : post (some (.int v)) h) : wX G Γ (qM G Γ post mc ms) k n h pc lv [.int v] := by
  subst hr
  intro H locs ls a b c
  refine W.widen h1 h2 ?_
  exact W.zret C.1 C.2.1 C.2.2.2.2.2.1 hn (fun t ht hW => ⟨⟨_, h, rfl, hp, by rw [ht]; exact a⟩, b.F ht⟩) b.2.2 d C.2.2.2.2.2.2.1
theorem r_aret (C : Cx G Γ y cc nL rt) {v : Nat} {cn : String} (d : decode cc pc = .ok (.areturn, 1)) (hr : rt = some (.object cn)) (h1 : k ≤ mc) (h2 : n ≤ ms) (hp : post (some (rv v)) h) : wX G Γ (qM G Γ post mc ms) k n h pc lv [rv v] := by
  subst hr
  intro H locs ls a b c
  refine W.widen h1 h2 ?_
  exact W.aret C.1 C.2.1 C.2.2.2.2.2.1 (Or.inl ⟨_, rfl⟩) (rv_or v) (fun t ht hW => ⟨⟨_, h, rfl, hp, by rw [ht]; exact a⟩, b.F ht⟩) b.2.2 d C.2.2.2.2.2.2.1
/-! calls -/
theorem wX_run {st0 : List Value} {av : Array Value} {mc' ms' : Nat} (hq : pc + 3 = q) (hr : ∀ (H : Heap) (locs : List Loc) (ls : Array Slot), Rl G h H → va_S G.A Γ.s.heap H locs → lvh Γ.c.maxLocals ls lv → va_Run Γ.p G.l Γ.e Γ.R Γ.s Γ.m Γ.args Γ.below Γ.meth Γ.c H locs k n mc' ms' (F0 Γ.m pc ls st0) st (QC G post av) G.A)
    (kk : ∀ v h', post v h' → wX G Γ Q (k + mc') (n + ms') h' q lv (v.toList ++ st)) : wX G Γ Q k n h pc lv st0 := by
  subst hq
  intro H locs ls a b c T hT X
  obtain ⟨v, st₀, t, T', L, h0, X', hL, e1, e2, ⟨⟨v', h', hv, hp, hR⟩, hz, hk⟩, st⟩ := hr H locs ls a b c T hT X
  cases hv
  rw [h0] at hz hk
  obtain ⟨t2, a1, b1⟩ := kk v h' hp T'.heap (locs ++ L) ls (by rw [e1]; exact hR) ⟨Nat.le_trans b.1 (by rw [e1]; exact hz), fun q h1 h2 => by rw [e1, hk q (Nat.lt_of_lt_of_le h1 b.1) h2]; exact b.2.1 q h1 h2, fun q hq => by
      rcases List.mem_append.mp hq with h | h
      · exact b.2.2 q h
      · exact hL q h⟩ c T' rfl X'
  exact ⟨t2, st t2 a1, b1⟩
theorem rm_ok {lev' mc' ms' nL' : Nat} (R : Rm Γ lev mc ms) (hl : lev' < lev) (hn : nL' ≤ 45) : (rmm lev' mc' ms').frames + 1 ≤ Γ.R.frames ∧ 8 + (nL' + 11) + (rmm lev' mc' ms').locals ≤ Γ.R.locals := by
  obtain ⟨r1, r2, r3, r4⟩ := R
  constructor
  · show lev' + 1 ≤ _
    omega
  · show 8 + (nL' + 11) + 64 * lev' ≤ _
    omega
/-- what a call takes of the tables: the callee's name, its parameters -/
def okCall (y' : MethodName) (np : Nat) : Bool := decide (y'.cls ≠ "java/lang/invoke/MethodHandle") && decide (y'.cls ≠ "java/lang/invoke/VarHandle") && decide ((parseMethodDescriptor y'.desc).map (fun d => d.parameters.length) = some np)
theorem okCall_spec {y' : MethodName} {np : Nat} (h : okCall y' np = true) : y'.cls ≠ "java/lang/invoke/MethodHandle" ∧ y'.cls ≠ "java/lang/invoke/VarHandle" ∧ (parseMethodDescriptor y'.desc).map (fun d => d.parameters.length) = some np := by
  simp only [okCall, Bool.and_eq_true, decide_eq_true_eq] at h
  exact ⟨h.1.1, h.1.2, h.2⟩
theorem r_callV {lev' mc' ms' nL' np ci i b : Nat} {y' : MethodName} {cc' : ByteArray} {rt' : Option FieldType} {As : List Value} {T : u_T} {N : Nat} (C : Cx G Γ y cc nL rt) (R : Rm Γ lev mc ms) (hq : pc + 3 = q) (d : decode cc pc = .ok (.invokevirtual i, 3))
    (hw1 : Cond.methodLink y.cls i y' ∈ WS) (hw2 : Cond.instanceMethod y' ∈ WS) (hw3 : Cond.selects y'.cls y' y' ∈ WS) (hw4 : Cond.initialized y'.cls ∈ WS) (hw5 : Cond.code y' cc' nL' rt' ∈ WS) (hd : okCall y' np = true) (hcl : vwCl[ci]? = some (y'.cls, T, N)) (hnl : nL' ≤ 45)
    (hM : Con G lev' mc' ms' y' cc' nL' rt' (rv b :: As) h post) (hlev : lev' < lev) (hmc : k + mc' ≤ mc) (hms : n + ms' ≤ ms) (hn : As.length = np) (hst : (st.map fun v => v.category).sum ≤ 8) (hk : h.kd b = (0, ci))
    (kk : ∀ v h', post v h' → wX G Γ Q (k + mc') (n + ms') h' q lv (v.toList ++ st)) : wX G Γ Q k n h pc lv (As.reverse ++ rv b :: st) := by
  refine wX_run (av := (rv b :: As).toArray) hq (fun H locs ls aa bb cl => ?_) kk
  have h0 := Rl.ne0 aa C.2.2.2.2.2.2.2.2.2.2.2 hk (show (0 : Nat) ≠ 99 by decide)
  obtain ⟨la, q0, -, hP, -, h4, -⟩ := Rl.in aa hk (show (0 : Nat) ≠ 99 by decide)
  rw [kE_obj hk] at h4
  have hts := C.2.2.2.2.1
  have hM' : Met G.l y' (.code y' cc' nL' rt' :: WS) (rmm lev' mc' ms') (va_Pc (rv b :: As) (PreU G h)) (QC G post) mc' ms' G.A := hM
  rw [rv_ref h0] at hM' ⊢
  exact va_runV (As := As) (Ts := WS) ⟨C.1, C.2.1, C.2.2.1, C.2.2.2.1, hts⟩ hM' ⟨callB_of np hts (ws_code hw5) rfl rfl rfl (hts _ hw4) (hts _ hw1) (okCall_spec hd) (rm_ok R hlev hnl), hts _ hw2, hts _ hw3⟩
    ⟨pre_blind, va_recv C.2.2.2.2.2.2.2.2.1.1 hP hcl h4, fun U hU hW => ⟨rfl, pre_of C aa bb U hU hW⟩⟩ rfl hn (cl.1.trans C.2.2.1) rfl (lv_room hst) d ⟨Nat.le_trans hmc R.2.1, Nat.le_trans hms R.2.2.1⟩
theorem r_callS {lev' mc' ms' nL' np i : Nat} {y' : MethodName} {cc' : ByteArray} {rt' : Option FieldType} {As : List Value} (C : Cx G Γ y cc nL rt) (R : Rm Γ lev mc ms) (hq : pc + 3 = q) (d : decode cc pc = .ok (.invokestatic i, 3))
    (hw1 : Cond.methodLink y.cls i y' ∈ WS) (hw2 : Cond.static y' ∈ WS) (hw4 : Cond.initialized y'.cls ∈ WS) (hw5 : Cond.code y' cc' nL' rt' ∈ WS) (hd : okCall y' np = true) (hnl : nL' ≤ 45)
    (hM : Con G lev' mc' ms' y' cc' nL' rt' As h post) (hlev : lev' < lev) (hmc : k + mc' ≤ mc) (hms : n + ms' ≤ ms) (hn : As.length = np) (hst : (st.map fun v => v.category).sum ≤ 8)
    (kk : ∀ v h', post v h' → wX G Γ Q (k + mc') (n + ms') h' q lv (v.toList ++ st)) : wX G Γ Q k n h pc lv (As.reverse ++ st) := by
  refine wX_run (av := As.toArray) hq (fun H locs ls aa bb cl => ?_) kk
  have hts := C.2.2.2.2.1
  have hM' : Met G.l y' (.code y' cc' nL' rt' :: WS) (rmm lev' mc' ms') (va_Pc As (PreU G h)) (QC G post) mc' ms' G.A := hM
  exact va_runS (As := As) (Ts := WS) ⟨C.1, C.2.1, C.2.2.1, C.2.2.2.1, hts⟩ hM' ⟨callB_of np hts (ws_code hw5) rfl rfl rfl (hts _ hw4) (hts _ hw1) (okCall_spec hd) (rm_ok R hlev hnl), hts _ hw2⟩
    ⟨pre_blind, fun U hU hW => ⟨rfl, pre_of C aa bb U hU hW⟩⟩ rfl hn (cl.1.trans C.2.2.1) rfl (lv_room hst) d ⟨Nat.le_trans hmc R.2.1, Nat.le_trans hms R.2.2.1⟩
theorem r_callI {lev' mc' ms' nL' np i b : Nat} {y' : MethodName} {cc' : ByteArray} {As : List Value} (C : Cx G Γ y cc nL rt) (R : Rm Γ lev mc ms) (hq : pc + 3 = q) (d : decode cc pc = .ok (.invokespecial i, 3))
    (hw1 : Cond.methodLink y.cls i y' ∈ WS) (hw2 : Cond.instanceMethod y' ∈ WS) (hw4 : Cond.initialized y'.cls ∈ WS) (hw5 : Cond.code y' cc' nL' none ∈ WS) (hd : okCall y' np = true) (hnm : y'.name = "<init>") (hnl : nL' ≤ 45)
    (hM : Con G lev' mc' ms' y' cc' nL' none (rv b :: As) h post) (hlev : lev' < lev) (hmc : k + mc' ≤ mc) (hms : n + ms' ≤ ms) (hn : As.length = np) (hst : (st.map fun v => v.category).sum ≤ 8) {kd0 : Nat × Nat} (hk : h.kd b = kd0) (hk9 : kd0.1 ≠ 99)
    (kk : ∀ v h', post v h' → wX G Γ Q (k + mc') (n + ms') h' q lv (v.toList ++ st)) : wX G Γ Q k n h pc lv (As.reverse ++ rv b :: st) := by
  refine wX_run (av := (rv b :: As).toArray) hq (fun H locs ls aa bb cl => ?_) kk
  have h0 := Rl.ne0 aa C.2.2.2.2.2.2.2.2.2.2.2 hk hk9
  have hts := C.2.2.2.2.1
  have hM' : Met G.l y' (.code y' cc' nL' none :: WS) (rmm lev' mc' ms') (va_Pc (rv b :: As) (PreU G h)) (QC G post) mc' ms' G.A := hM
  rw [rv_ref h0] at hM' ⊢
  exact va_runI (As := As) (Ts := WS) ⟨C.1, C.2.1, C.2.2.1, C.2.2.2.1, hts⟩ hM' ⟨callB_of np hts (ws_code hw5) rfl rfl rfl (hts _ hw4) (hts _ hw1) (okCall_spec hd) (rm_ok R hlev hnl), hnm, hts _ hw2⟩
    ⟨pre_blind, fun U hU hW => ⟨rfl, pre_of C aa bb U hU hW⟩⟩ rfl hn (cl.1.trans C.2.2.1) rfl (lv_room hst) d ⟨Nat.le_trans hmc R.2.1, Nat.le_trans hms R.2.2.1⟩
theorem r_callIN {lev' mc' ms' nL' np i b : Nat} {y' : MethodName} {cc' : ByteArray} {As : List Value} {host : String} (C : Cx G Γ y cc nL rt) (R : Rm Γ lev mc ms) (hq : pc + 3 = q) (d : decode cc pc = .ok (.invokespecial i, 3))
    (hw1 : (y.cls, i, y', host) ∈ st_nest) (hw2 : Cond.instanceMethod y' ∈ WS) (hw4 : Cond.initialized y'.cls ∈ WS) (hw5 : Cond.code y' cc' nL' none ∈ WS) (hd : okCall y' np = true) (hnm : y'.name = "<init>") (hnl : nL' ≤ 45)
    (hM : Con G lev' mc' ms' y' cc' nL' none (rv b :: As) h post) (hlev : lev' < lev) (hmc : k + mc' ≤ mc) (hms : n + ms' ≤ ms) (hn : As.length = np) (hst : (st.map fun v => v.category).sum ≤ 8) {kd0 : Nat × Nat} (hk : h.kd b = kd0) (hk9 : kd0.1 ≠ 99)
    (kk : ∀ v h', post v h' → wX G Γ Q (k + mc') (n + ms') h' q lv (v.toList ++ st)) : wX G Γ Q k n h pc lv (As.reverse ++ rv b :: st) := by
  refine wX_run (av := (rv b :: As).toArray) hq (fun H locs ls aa bb cl => ?_) kk
  have h0 := Rl.ne0 aa C.2.2.2.2.2.2.2.2.2.2.2 hk hk9
  have hts := C.2.2.2.2.1
  have hM' : Met G.l y' (.code y' cc' nL' none :: WS) (rmm lev' mc' ms') (va_Pc (rv b :: As) (PreU G h)) (QC G post) mc' ms' G.A := hM
  rw [rv_ref h0] at hM' ⊢
  exact va_runIN (As := As) (Ts := WS) ⟨C.1, C.2.1, C.2.2.1, C.2.2.2.1, hts⟩ hM' ⟨va_cnB np hts (ws_code hw5) rfl rfl rfl (C.2.2.2.2.2.2.2.2.1.2.2.1 _ hw1) (hts _ hw4) (okCall_spec hd) (rm_ok R hlev hnl), hnm, hts _ hw2⟩
    ⟨pre_blind, fun U hU hW => ⟨rfl, pre_of C aa bb U hU hW⟩⟩ rfl hn (cl.1.trans C.2.2.1) rfl (lv_room hst) d ⟨Nat.le_trans hmc R.2.1, Nat.le_trans hms R.2.2.1⟩
theorem r_callSN {lev' mc' ms' nL' np i : Nat} {y' : MethodName} {cc' : ByteArray} {rt' : Option FieldType} {As : List Value} {host : String} (C : Cx G Γ y cc nL rt) (R : Rm Γ lev mc ms) (hq : pc + 3 = q) (d : decode cc pc = .ok (.invokestatic i, 3))
    (hw1 : (y.cls, i, y', host) ∈ st_nest) (hw2 : Cond.static y' ∈ WS) (hw4 : Cond.initialized y'.cls ∈ WS) (hw5 : Cond.code y' cc' nL' rt' ∈ WS) (hd : okCall y' np = true) (hnl : nL' ≤ 45)
    (hM : Con G lev' mc' ms' y' cc' nL' rt' As h post) (hlev : lev' < lev) (hmc : k + mc' ≤ mc) (hms : n + ms' ≤ ms) (hn : As.length = np) (hst : (st.map fun v => v.category).sum ≤ 8)
    (kk : ∀ v h', post v h' → wX G Γ Q (k + mc') (n + ms') h' q lv (v.toList ++ st)) : wX G Γ Q k n h pc lv (As.reverse ++ st) := by
  refine wX_run (av := As.toArray) hq (fun H locs ls aa bb cl => ?_) kk
  have hts := C.2.2.2.2.1
  have hM' : Met G.l y' (.code y' cc' nL' rt' :: WS) (rmm lev' mc' ms') (va_Pc As (PreU G h)) (QC G post) mc' ms' G.A := hM
  exact va_runSN (As := As) (Ts := WS) ⟨C.1, C.2.1, C.2.2.1, C.2.2.2.1, hts⟩ hM' ⟨va_cnB np hts (ws_code hw5) rfl rfl rfl (C.2.2.2.2.2.2.2.2.1.2.2.1 _ hw1) (hts _ hw4) (okCall_spec hd) (rm_ok R hlev hnl), hts _ hw2, trivial⟩
    ⟨pre_blind, fun U hU hW => ⟨rfl, pre_of C aa bb U hU hW⟩⟩ rfl hn (cl.1.trans C.2.2.1) rfl (lv_room hst) d ⟨Nat.le_trans hmc R.2.1, Nat.le_trans hms R.2.2.1⟩
/-! Object's constructor -/
theorem r_objInit (C : Cx G Γ y cc nL rt) (R : Rm Γ lev mc ms) {i b : Nat} (hq : pc + 3 = q) (d : decode cc pc = .ok (.invokespecial i, 3)) (hw1 : Cond.methodLink y.cls i Lib.objectInit ∈ WS) (hw2 : Cond.instanceMethod Lib.objectInit ∈ WS) (hw5 : Cond.code Lib.objectInit ⟨#[0xb1]⟩ 1 none ∈ WS) (hlev : 1 ≤ lev) (hst : (st.map fun v => v.category).sum ≤ 8) {kd0 : Nat × Nat} (hk : h.kd b = kd0) (hk9 : kd0.1 ≠ 99)
    (kk : wX G Γ Q k n h q lv st) : wX G Γ Q k n h pc lv (rv b :: st) := by
  subst hq
  intro H locs ls aa bb cl
  have h0 := Rl.ne0 aa C.2.2.2.2.2.2.2.2.2.2.2 hk hk9
  have hts := C.2.2.2.2.1
  obtain ⟨r1, r2, r3, r4⟩ := R
  rw [rv_ref h0]
  exact W.objInit C.1 C.2.1 C.2.2.2.1 (hts _ hw1) (hts _ hw2) (hts _ hw5) rfl cl.1 rfl d (by omega) (by have := lv_room (m := Γ.m) (pc := pc) (ls := ls) (rest := Value.ref b :: st) hst; omega) (kk H locs ls aa bb cl)
/-! new cells -/
theorem kE_new_ne {ca : Nat → ClassId} {h : HP} {a b : Nat} {kd0 : Nat × Nat} {lb : Nat} (hb : b ≠ a) : kE ca (h.new a kd0 lb) b = kE ca h b := kE_congr (if_neg hb) (fun g' => if_neg hb) (fun g' => if_neg hb) (funext fun j => if_neg hb) (funext fun j => if_neg hb) (funext fun j => if_neg hb)
theorem kd_new {h : HP} {a : Nat} {kd0 : Nat × Nat} {lb : Nat} : (h.new a kd0 lb).kd a = kd0 := if_pos rfl
theorem fi_new {h : HP} {a g : Nat} {kd0 : Nat × Nat} {lb : Nat} : (h.new a kd0 lb).fi g a = 0 := if_pos rfl
theorem fr_new {h : HP} {a g : Nat} {kd0 : Nat × Nat} {lb : Nat} : (h.new a kd0 lb).fr g a = 0 := if_pos rfl
theorem ai_new {h : HP} {a : Nat} {kd0 : Nat × Nat} {lb : Nat} : (h.new a kd0 lb).ai a = fun _ => 0 := funext fun _ => if_pos rfl
theorem al_new {h : HP} {a : Nat} {kd0 : Nat × Nat} {lb : Nat} : (h.new a kd0 lb).al a = fun _ => 0 := funext fun _ => if_pos rfl
theorem ar_new {h : HP} {a : Nat} {kd0 : Nat × Nat} {lb : Nat} : (h.new a kd0 lb).ar a = fun _ => 0 := funext fun _ => if_pos rfl
def fv0 (q : Bool × Nat) : Value := match q.1 with
  | true => .null
  | false => .int 0
theorem fv_new {h : HP} {a : Nat} {kd0 : Nat × Nat} {lb : Nat} : fv (h.new a kd0 lb) a = fv0 := by
  funext q
  unfold fv fv0
  rw [fi_new, fr_new]
  rfl
theorem r_new (C : Cx G Γ y cc nL rt) (R : Rm Γ lev mc ms) (lb c : Nat) {Cn : String} {T : u_T} {N i : Nat} (hq : pc + 3 = q) (d : decode cc pc = .ok (.new i, 3)) (hcl : vwCl[c]? = some (Cn, T, N)) (hin : ∀ w ∈ u_ws Cn T N, w ∈ WS) (ty0 : Nat → FieldType) (hty : ∀ k, k < N → parseFieldDescriptor (T k).2.2.1 = some (ty0 k)) (hw1 : Cond.classLink y.cls i Cn ∈ WS) (hw2 : Cond.instantiable Cn N ∈ WS) (hw3 : Cond.initialized Cn ∈ WS) (hfs : ∀ j, j < N → defaultValue (ty0 j) = vp_V ((ftab c).map fv0) j) (hmc : k + 1 ≤ mc) (hms : n + N ≤ ms)
    (kk : ∀ a, (h.kd a).1 = 99 → wX G Γ Q (k + 1) (n + N) (h.new a (0, c) lb) q lv (rv a :: st)) : wX G Γ Q k n h pc lv st := by
  subst hq
  intro H locs ls aa bb cl
  have hts := C.2.2.2.2.1
  obtain ⟨la, h1, hP, hD⟩ := aa
  refine va_new (Ts := WS) C.1 C.2.1 hts hin ty0 hty C.2.2.2.1 (hts _ hw1) (hts _ hw2) (hts _ hw3) C.2.2.2.2.2.2.2.2.1.1 hP hD bb C.2.2.2.2.2.2.2.2.2.2.1 hcl hfs (Nat.le_trans hmc R.2.1) (Nat.le_trans hms R.2.2.1) d (fun a H1 hP1 hD1 hS1 => ?_)
  have e : (Sum.inr (c, (ftab c).map fv0) : va_E) = kE G.ca (h.new a (0, c) lb) a := by rw [kE_obj kd_new, fv_new]
  rw [e] at hP1 hD1
  obtain ⟨hR, h9⟩ := Rl.push h1 (show (0 : Nat) ≠ 99 by decide) kd_new (fun b hb => if_neg hb) (fun b hb => kE_new_ne hb) hP1 hD1
  have k1 := kk a h9 H1 locs ls hR hS1 cl
  rwa [rv_ref (Rl.ne0 hR C.2.2.2.2.2.2.2.2.2.2.2 kd_new (show (0 : Nat) ≠ 99 by decide))] at k1
theorem r_newaI (C : Cx G Γ y cc nL rt) (R : Rm Γ lev mc ms) (lb : Nat) {v : Int32} {z : Nat} (hq : pc + 2 = q) (d : decode cc pc = .ok (.newarray .int, 2)) (hw : Cond.arrayClass .int ∈ WS) (hv0 : ¬ v < 0) (hv : v.toNatClampNeg = z) (hz : z ≤ 60000000) (hmc : k + 1 ≤ mc) (hms : n + z ≤ ms)
    (kk : ∀ a, (h.kd a).1 = 99 → wX G Γ Q (k + 1) (n + z) (h.new a (9, z) lb) q lv (rv a :: st)) : wX G Γ Q k n h pc lv (.int v :: st) := by
  subst hq
  intro H locs ls aa bb cl
  have hts := C.2.2.2.2.1
  obtain ⟨la, h1, hP, hD⟩ := aa
  have hK := C.2.2.2.2.2.2.2.2.1.1
  refine va_newa (atype := .int) (ty := .int) (a0 := (z, .inl (fun _ => 0))) C.1 C.2.1 (hts _ hw) rfl hK hP hD bb C.2.2.2.2.2.2.2.2.2.2.1 (fun cA => rfl) hv0 hv (by show z * 4 ≤ _; omega) (Nat.le_trans hmc R.2.1) (Nat.le_trans hms R.2.2.1) d (fun a cA H1 hK1 hP1 hD1 hS1 => ?_)
  have ec : cA = G.ca 9 := by
    have e1 : va_RA Γ.s (G.ca 9) .int := (hK.2 1 _ rfl).2
    have e2 : va_RA Γ.s cA .int := (hK1.2 5 _ rfl).2
    have e1' : Γ.s.vm.findClass ("[" ++ (FieldType.toString .int)) = some (G.ca 9) := e1
    have e2' : Γ.s.vm.findClass ("[" ++ (FieldType.toString .int)) = some cA := e2
    exact Option.some.inj (e2'.symm.trans e1')
  have e : (Sum.inl (cA, z, Sum.inl (fun _ => 0)) : va_E) = kE G.ca (h.new a (9, z) lb) a := by rw [kE_i kd_new, ai_new, ec]
  rw [e] at hP1 hD1
  obtain ⟨hR, h9⟩ := Rl.push h1 (show (9 : Nat) ≠ 99 by decide) kd_new (fun b hb => if_neg hb) (fun b hb => kE_new_ne hb) hP1 hD1
  have k1 := kk a h9 H1 locs ls hR hS1 cl
  rwa [rv_ref (Rl.ne0 hR C.2.2.2.2.2.2.2.2.2.2.2 kd_new (show (9 : Nat) ≠ 99 by decide))] at k1
theorem r_newaZ (C : Cx G Γ y cc nL rt) (R : Rm Γ lev mc ms) (lb : Nat) {v : Int32} {z : Nat} (hq : pc + 2 = q) (d : decode cc pc = .ok (.newarray .boolean, 2)) (hw : Cond.arrayClass .boolean ∈ WS) (hv0 : ¬ v < 0) (hv : v.toNatClampNeg = z) (hz : z ≤ 60000000) (hmc : k + 1 ≤ mc) (hms : n + z ≤ ms)
    (kk : ∀ a, (h.kd a).1 = 99 → wX G Γ Q (k + 1) (n + z) (h.new a (11, z) lb) q lv (rv a :: st)) : wX G Γ Q k n h pc lv (.int v :: st) := by
  subst hq
  intro H locs ls aa bb cl
  have hts := C.2.2.2.2.1
  obtain ⟨la, h1, hP, hD⟩ := aa
  have hK := C.2.2.2.2.2.2.2.2.1.1
  refine va_newa (atype := .boolean) (ty := .boolean) (a0 := (z, .inl (fun _ => 0))) C.1 C.2.1 (hts _ hw) rfl hK hP hD bb C.2.2.2.2.2.2.2.2.2.2.1 (fun cA => rfl) hv0 hv (by show z * 1 ≤ _; omega) (Nat.le_trans hmc R.2.1) (Nat.le_trans hms R.2.2.1) d (fun a cA H1 hK1 hP1 hD1 hS1 => ?_)
  have ec : cA = G.ca 11 := by
    have e1 : va_RA Γ.s (G.ca 11) .boolean := (hK.2 3 _ rfl).2
    have e2 : va_RA Γ.s cA .boolean := (hK1.2 5 _ rfl).2
    have e1' : Γ.s.vm.findClass ("[" ++ (FieldType.toString .boolean)) = some (G.ca 11) := e1
    have e2' : Γ.s.vm.findClass ("[" ++ (FieldType.toString .boolean)) = some cA := e2
    exact Option.some.inj (e2'.symm.trans e1')
  have e : (Sum.inl (cA, z, Sum.inl (fun _ => 0)) : va_E) = kE G.ca (h.new a (11, z) lb) a := by rw [kE_z kd_new, ai_new, ec]
  rw [e] at hP1 hD1
  obtain ⟨hR, h9⟩ := Rl.push h1 (show (11 : Nat) ≠ 99 by decide) kd_new (fun b hb => if_neg hb) (fun b hb => kE_new_ne hb) hP1 hD1
  have k1 := kk a h9 H1 locs ls hR hS1 cl
  rwa [rv_ref (Rl.ne0 hR C.2.2.2.2.2.2.2.2.2.2.2 kd_new (show (11 : Nat) ≠ 99 by decide))] at k1
theorem r_newaB (C : Cx G Γ y cc nL rt) (R : Rm Γ lev mc ms) (lb : Nat) {v : Int32} {z : Nat} (hq : pc + 2 = q) (d : decode cc pc = .ok (.newarray .byte, 2)) (hw : Cond.arrayClass .byte ∈ WS) (hv0 : ¬ v < 0) (hv : v.toNatClampNeg = z) (hz : z ≤ 60000000) (hmc : k + 1 ≤ mc) (hms : n + z ≤ ms)
    (kk : ∀ a, (h.kd a).1 = 99 → wX G Γ Q (k + 1) (n + z) (h.new a (8, z) lb) q lv (rv a :: st)) : wX G Γ Q k n h pc lv (.int v :: st) := by
  subst hq
  intro H locs ls aa bb cl
  have hts := C.2.2.2.2.1
  obtain ⟨la, h1, hP, hD⟩ := aa
  have hK := C.2.2.2.2.2.2.2.2.1.1
  refine va_newa (atype := .byte) (ty := .byte) (a0 := (z, .inl (fun _ => 0))) C.1 C.2.1 (hts _ hw) rfl hK hP hD bb C.2.2.2.2.2.2.2.2.2.2.1 (fun cA => rfl) hv0 hv (by show z * 1 ≤ _; omega) (Nat.le_trans hmc R.2.1) (Nat.le_trans hms R.2.2.1) d (fun a cA H1 hK1 hP1 hD1 hS1 => ?_)
  have ec : cA = G.ca 8 := by
    have e1 : va_RA Γ.s (G.ca 8) .byte := (hK.2 0 _ rfl).2
    have e2 : va_RA Γ.s cA .byte := (hK1.2 5 _ rfl).2
    have e1' : Γ.s.vm.findClass ("[" ++ (FieldType.toString .byte)) = some (G.ca 8) := e1
    have e2' : Γ.s.vm.findClass ("[" ++ (FieldType.toString .byte)) = some cA := e2
    exact Option.some.inj (e2'.symm.trans e1')
  have e : (Sum.inl (cA, z, Sum.inl (fun _ => 0)) : va_E) = kE G.ca (h.new a (8, z) lb) a := by rw [kE_b kd_new, ai_new, ec]
  rw [e] at hP1 hD1
  obtain ⟨hR, h9⟩ := Rl.push h1 (show (8 : Nat) ≠ 99 by decide) kd_new (fun b hb => if_neg hb) (fun b hb => kE_new_ne hb) hP1 hD1
  have k1 := kk a h9 H1 locs ls hR hS1 cl
  rwa [rv_ref (Rl.ne0 hR C.2.2.2.2.2.2.2.2.2.2.2 kd_new (show (8 : Nat) ≠ 99 by decide))] at k1
theorem r_newaJ (C : Cx G Γ y cc nL rt) (R : Rm Γ lev mc ms) (lb : Nat) {v : Int32} {z : Nat} (hq : pc + 2 = q) (d : decode cc pc = .ok (.newarray .long, 2)) (hw : Cond.arrayClass .long ∈ WS) (hv0 : ¬ v < 0) (hv : v.toNatClampNeg = z) (hz : z ≤ 60000000) (hmc : k + 1 ≤ mc) (hms : n + z ≤ ms)
    (kk : ∀ a, (h.kd a).1 = 99 → wX G Γ Q (k + 1) (n + z) (h.new a (10, z) lb) q lv (rv a :: st)) : wX G Γ Q k n h pc lv (.int v :: st) := by
  subst hq
  intro H locs ls aa bb cl
  have hts := C.2.2.2.2.1
  obtain ⟨la, h1, hP, hD⟩ := aa
  have hK := C.2.2.2.2.2.2.2.2.1.1
  refine va_newa (atype := .long) (ty := .long) (a0 := (z, .inr (.inl (fun _ => 0)))) C.1 C.2.1 (hts _ hw) rfl hK hP hD bb C.2.2.2.2.2.2.2.2.2.2.1 (fun cA => rfl) hv0 hv (by show z * 8 ≤ _; omega) (Nat.le_trans hmc R.2.1) (Nat.le_trans hms R.2.2.1) d (fun a cA H1 hK1 hP1 hD1 hS1 => ?_)
  have ec : cA = G.ca 10 := by
    have e1 : va_RA Γ.s (G.ca 10) .long := (hK.2 2 _ rfl).2
    have e2 : va_RA Γ.s cA .long := (hK1.2 5 _ rfl).2
    have e1' : Γ.s.vm.findClass ("[" ++ (FieldType.toString .long)) = some (G.ca 10) := e1
    have e2' : Γ.s.vm.findClass ("[" ++ (FieldType.toString .long)) = some cA := e2
    exact Option.some.inj (e2'.symm.trans e1')
  have e : (Sum.inl (cA, z, Sum.inr (Sum.inl (fun _ => 0))) : va_E) = kE G.ca (h.new a (10, z) lb) a := by rw [kE_l kd_new, al_new, ec]
  rw [e] at hP1 hD1
  obtain ⟨hR, h9⟩ := Rl.push h1 (show (10 : Nat) ≠ 99 by decide) kd_new (fun b hb => if_neg hb) (fun b hb => kE_new_ne hb) hP1 hD1
  have k1 := kk a h9 H1 locs ls hR hS1 cl
  rwa [rv_ref (Rl.ne0 hR C.2.2.2.2.2.2.2.2.2.2.2 kd_new (show (10 : Nat) ≠ 99 by decide))] at k1
theorem r_newaR (C : Cx G Γ y cc nL rt) (R : Rm Γ lev mc ms) (lb : Nat) {v : Int32} {z i : Nat} (hq : pc + 3 = q) (d : decode cc pc = .ok (.anewarray i, 3)) (hw : Cond.classLink y.cls i RX3 ∈ WS) (hv0 : ¬ v < 0) (hv : v.toNatClampNeg = z) (hz : z ≤ 60000000) (hmc : k + 1 ≤ mc) (hms : n + z ≤ ms)
    (kk : ∀ a, (h.kd a).1 = 99 → wX G Γ Q (k + 1) (n + z) (h.new a (12, z) lb) q lv (rv a :: st)) : wX G Γ Q k n h pc lv (.int v :: st) := by
  subst hq
  intro H locs ls aa bb cl
  have hts := C.2.2.2.2.1
  obtain ⟨la, h1, hP, hD⟩ := aa
  have hK := C.2.2.2.2.2.2.2.2.1.1
  refine va_newq (C := RX3) C.1 C.2.1 C.2.2.2.1 (hts _ hw) C.2.2.2.2.2.2.2.2.1.2.1 hK hP hD bb C.2.2.2.2.2.2.2.2.2.2.1 hv0 hv (by omega) (Nat.le_trans hmc R.2.1) (Nat.le_trans hms R.2.2.1) d (fun a cA H1 hK1 hP1 hD1 hS1 => ?_)
  have ec : cA = G.ca 12 := by
    obtain ⟨-, -, -, -, -, e1⟩ : va_RA Γ.s (G.ca 12) (.object RX3) := (hK.2 4 _ rfl).2
    obtain ⟨-, -, -, -, -, e2⟩ : va_RA Γ.s cA (.object RX3) := (hK1.2 5 _ rfl).2
    exact Option.some.inj (e2.symm.trans e1)
  have e : (Sum.inl (cA, z, Sum.inr (Sum.inr (Sum.inr (Sum.inr (fun _ => none))))) : va_E) = kE G.ca (h.new a (12, z) lb) a := by rw [kE_r kd_new, ar_new, ec]; rfl
  rw [e] at hP1 hD1
  obtain ⟨hR, h9⟩ := Rl.push h1 (show (12 : Nat) ≠ 99 by decide) kd_new (fun b hb => if_neg hb) (fun b hb => kE_new_ne hb) hP1 hD1
  have k1 := kk a h9 H1 locs ls hR hS1 cl
  rwa [rv_ref (Rl.ne0 hR C.2.2.2.2.2.2.2.2.2.2.2 kd_new (show (12 : Nat) ≠ 99 by decide))] at k1
end CALLS
end
section
/-! ===== links: the words of the tables that the instructions take ===== -/
theorem win0 : ∀ w ∈ u_ws RX0 TX0 5, w ∈ WS := by decide +kernel
theorem wnd0 : va_nd ((ftab 0).map (·.2)) = true := by decide +kernel
theorem win1 : ∀ w ∈ u_ws RX1 TX1 6, w ∈ WS := by decide +kernel
theorem wnd1 : va_nd ((ftab 1).map (·.2)) = true := by decide +kernel
theorem win2 : ∀ w ∈ u_ws RX2 TX2 6, w ∈ WS := by decide +kernel
theorem wnd2 : va_nd ((ftab 2).map (·.2)) = true := by decide +kernel
theorem win3 : ∀ w ∈ u_ws RX3 TX3 12, w ∈ WS := by decide +kernel
theorem wnd3 : va_nd ((ftab 3).map (·.2)) = true := by decide +kernel
theorem win4 : ∀ w ∈ u_ws RX4 TX4 5, w ∈ WS := by decide +kernel
theorem wnd4 : va_nd ((ftab 4).map (·.2)) = true := by decide +kernel
theorem win5 : ∀ w ∈ u_ws RX5 TX5 2, w ∈ WS := by decide +kernel
theorem wnd5 : va_nd ((ftab 5).map (·.2)) = true := by decide +kernel
theorem win6 : ∀ w ∈ u_ws RX6 TX6 14, w ∈ WS := by decide +kernel
theorem wnd6 : va_nd ((ftab 6).map (·.2)) = true := by decide +kernel
theorem win7 : ∀ w ∈ u_ws RX7 TX7 50, w ∈ WS := by decide +kernel
theorem wnd7 : va_nd ((ftab 7).map (·.2)) = true := by decide +kernel
theorem wa_boolean : Cond.arrayClass .boolean ∈ WS := List.mem_filter.mpr ⟨List.mem_of_getElem? (i := 224) (by decide +kernel), by decide +kernel⟩
theorem wa_byte : Cond.arrayClass .byte ∈ WS := List.mem_filter.mpr ⟨List.mem_of_getElem? (i := 172) (by decide +kernel), by decide +kernel⟩
theorem wa_int : Cond.arrayClass .int ∈ WS := List.mem_filter.mpr ⟨List.mem_of_getElem? (i := 128) (by decide +kernel), by decide +kernel⟩
theorem wa_long : Cond.arrayClass .long ∈ WS := List.mem_filter.mpr ⟨List.mem_of_getElem? (i := 1023) (by decide +kernel), by decide +kernel⟩
theorem wk_X3_9 : Cond.classLink RX3 9 RX4 ∈ WS := List.mem_filter.mpr ⟨List.mem_of_getElem? (i := 339) (by decide +kernel), by decide +kernel⟩
theorem wk_X6_16 : Cond.classLink RX6 16 RX3 ∈ WS := List.mem_filter.mpr ⟨List.mem_of_getElem? (i := 129) (by decide +kernel), by decide +kernel⟩
theorem wk_X6_32 : Cond.classLink RX6 32 RX4 ∈ WS := List.mem_filter.mpr ⟨List.mem_of_getElem? (i := 131) (by decide +kernel), by decide +kernel⟩
theorem wk_X6_39 : Cond.classLink RX6 39 RX5 ∈ WS := List.mem_filter.mpr ⟨List.mem_of_getElem? (i := 157) (by decide +kernel), by decide +kernel⟩
theorem wk_X6_46 : Cond.classLink RX6 46 RX2 ∈ WS := List.mem_filter.mpr ⟨List.mem_of_getElem? (i := 173) (by decide +kernel), by decide +kernel⟩
theorem wk_X6_53 : Cond.classLink RX6 53 RX1 ∈ WS := List.mem_filter.mpr ⟨List.mem_of_getElem? (i := 198) (by decide +kernel), by decide +kernel⟩
theorem wk_X6_7 : Cond.classLink RX6 7 RX0 ∈ WS := List.mem_filter.mpr ⟨List.mem_of_getElem? (i := 102) (by decide +kernel), by decide +kernel⟩
theorem wk_L_16 : Cond.classLink RL 16 RX7 ∈ WS := List.mem_filter.mpr ⟨List.mem_of_getElem? (i := 857) (by decide +kernel), by decide +kernel⟩
theorem wk_L_8 : Cond.classLink RL 8 RX6 ∈ WS := List.mem_filter.mpr ⟨List.mem_of_getElem? (i := 94) (by decide +kernel), by decide +kernel⟩
theorem wc_J6_265 : Cond.constant RJ6 265 (1431655765) ∈ WS := List.mem_filter.mpr ⟨List.mem_of_getElem? (i := 750) (by decide +kernel), by decide +kernel⟩
theorem wc_J6_266 : Cond.constant RJ6 266 (858993459) ∈ WS := List.mem_filter.mpr ⟨List.mem_of_getElem? (i := 751) (by decide +kernel), by decide +kernel⟩
theorem wc_J6_267 : Cond.constant RJ6 267 (252645135) ∈ WS := List.mem_filter.mpr ⟨List.mem_of_getElem? (i := 752) (by decide +kernel), by decide +kernel⟩
theorem wl_X5_19 : Cond.constantLong RX5 19 (255) ∈ WS := List.mem_filter.mpr ⟨List.mem_of_getElem? (i := 539) (by decide +kernel), by decide +kernel⟩
theorem wl_L_70 : Cond.constantLong RL 70 (4294967295) ∈ WS := List.mem_filter.mpr ⟨List.mem_of_getElem? (i := 1317) (by decide +kernel), by decide +kernel⟩
theorem wl_X7_164 : Cond.constantLong RX7 164 (37) ∈ WS := List.mem_filter.mpr ⟨List.mem_of_getElem? (i := 1035) (by decide +kernel), by decide +kernel⟩
theorem wl_X7_172 : Cond.constantLong RX7 172 (10) ∈ WS := List.mem_filter.mpr ⟨List.mem_of_getElem? (i := 1042) (by decide +kernel), by decide +kernel⟩
theorem wl_X7_174 : Cond.constantLong RX7 174 (48) ∈ WS := List.mem_filter.mpr ⟨List.mem_of_getElem? (i := 1043) (by decide +kernel), by decide +kernel⟩
theorem wl_X7_34 : Cond.constantLong RX7 34 (564229) ∈ WS := List.mem_filter.mpr ⟨List.mem_of_getElem? (i := 862) (by decide +kernel), by decide +kernel⟩
theorem wl_X7_36 : Cond.constantLong RX7 36 (22563197) ∈ WS := List.mem_filter.mpr ⟨List.mem_of_getElem? (i := 863) (by decide +kernel), by decide +kernel⟩
theorem wl_X7_38 : Cond.constantLong RX7 38 (1176170) ∈ WS := List.mem_filter.mpr ⟨List.mem_of_getElem? (i := 864) (by decide +kernel), by decide +kernel⟩
theorem wl_X7_40 : Cond.constantLong RX7 40 (1891) ∈ WS := List.mem_filter.mpr ⟨List.mem_of_getElem? (i := 865) (by decide +kernel), by decide +kernel⟩
theorem wl_X7_42 : Cond.constantLong RX7 42 (919327497) ∈ WS := List.mem_filter.mpr ⟨List.mem_of_getElem? (i := 866) (by decide +kernel), by decide +kernel⟩
theorem wl_X7_44 : Cond.constantLong RX7 44 (412517) ∈ WS := List.mem_filter.mpr ⟨List.mem_of_getElem? (i := 867) (by decide +kernel), by decide +kernel⟩
theorem wl_X7_46 : Cond.constantLong RX7 46 (974850) ∈ WS := List.mem_filter.mpr ⟨List.mem_of_getElem? (i := 868) (by decide +kernel), by decide +kernel⟩
theorem wl_X7_48 : Cond.constantLong RX7 48 (913652) ∈ WS := List.mem_filter.mpr ⟨List.mem_of_getElem? (i := 869) (by decide +kernel), by decide +kernel⟩
theorem wl_X7_50 : Cond.constantLong RX7 50 (75481) ∈ WS := List.mem_filter.mpr ⟨List.mem_of_getElem? (i := 870) (by decide +kernel), by decide +kernel⟩
theorem wl_X7_52 : Cond.constantLong RX7 52 (1273225) ∈ WS := List.mem_filter.mpr ⟨List.mem_of_getElem? (i := 871) (by decide +kernel), by decide +kernel⟩
theorem wf_X0_15 : Cond.fieldLink RX0 15 "FairGround$Green" "reached" "[I" ∈ WS := List.mem_filter.mpr ⟨List.mem_of_getElem? (i := 112) (by decide +kernel), by decide +kernel⟩
theorem wf_X0_18 : Cond.fieldLink RX0 18 "FairGround$Green" "queue" "[I" ∈ WS := List.mem_filter.mpr ⟨List.mem_of_getElem? (i := 113) (by decide +kernel), by decide +kernel⟩
theorem wf_X0_21 : Cond.fieldLink RX0 21 "FairGround$Green" "queued" "I" ∈ WS := List.mem_filter.mpr ⟨List.mem_of_getElem? (i := 114) (by decide +kernel), by decide +kernel⟩
theorem wf_X0_25 : Cond.fieldLink RX0 25 "FairGround$Green" "gateRow" "I" ∈ WS := List.mem_filter.mpr ⟨List.mem_of_getElem? (i := 115) (by decide +kernel), by decide +kernel⟩
theorem wf_X0_38 : Cond.fieldLink RX0 38 "FairGround$Spot" "y" "I" ∈ WS := List.mem_filter.mpr ⟨List.mem_of_getElem? (i := 140) (by decide +kernel), by decide +kernel⟩
theorem wf_X0_43 : Cond.fieldLink RX0 43 "FairGround$Spot" "high" "I" ∈ WS := List.mem_filter.mpr ⟨List.mem_of_getElem? (i := 144) (by decide +kernel), by decide +kernel⟩
theorem wf_X0_46 : Cond.fieldLink RX0 46 "FairGround$Spot" "x" "I" ∈ WS := List.mem_filter.mpr ⟨List.mem_of_getElem? (i := 138) (by decide +kernel), by decide +kernel⟩
theorem wf_X0_49 : Cond.fieldLink RX0 49 "FairGround$Spot" "wide" "I" ∈ WS := List.mem_filter.mpr ⟨List.mem_of_getElem? (i := 142) (by decide +kernel), by decide +kernel⟩
theorem wf_X0_9 : Cond.fieldLink RX0 9 "FairGround$Green" "cells" "[I" ∈ WS := List.mem_filter.mpr ⟨List.mem_of_getElem? (i := 111) (by decide +kernel), by decide +kernel⟩
theorem wf_X1_15 : Cond.fieldLink RX1 15 "FairGround$Law" "codeLength" "I" ∈ WS := List.mem_filter.mpr ⟨List.mem_of_getElem? (i := 205) (by decide +kernel), by decide +kernel⟩
theorem wf_X1_19 : Cond.fieldLink RX1 19 "FairGround$Law" "starts" "[I" ∈ WS := List.mem_filter.mpr ⟨List.mem_of_getElem? (i := 206) (by decide +kernel), by decide +kernel⟩
theorem wf_X1_22 : Cond.fieldLink RX1 22 "FairGround$Law" "keeps" "[Z" ∈ WS := List.mem_filter.mpr ⟨List.mem_of_getElem? (i := 207) (by decide +kernel), by decide +kernel⟩
theorem wf_X1_26 : Cond.fieldLink RX1 26 "FairGround$Law" "stack" "[I" ∈ WS := List.mem_filter.mpr ⟨List.mem_of_getElem? (i := 208) (by decide +kernel), by decide +kernel⟩
theorem wf_X1_29 : Cond.fieldLink RX1 29 "FairGround$Law" "lines" "I" ∈ WS := List.mem_filter.mpr ⟨List.mem_of_getElem? (i := 209) (by decide +kernel), by decide +kernel⟩
theorem wf_X1_9 : Cond.fieldLink RX1 9 "FairGround$Law" "code" "[I" ∈ WS := List.mem_filter.mpr ⟨List.mem_of_getElem? (i := 204) (by decide +kernel), by decide +kernel⟩
theorem wf_X2_15 : Cond.fieldLink RX2 15 "FairGround$Reader" "values" "[I" ∈ WS := List.mem_filter.mpr ⟨List.mem_of_getElem? (i := 180) (by decide +kernel), by decide +kernel⟩
theorem wf_X2_18 : Cond.fieldLink RX2 18 "FairGround$Reader" "places" "[I" ∈ WS := List.mem_filter.mpr ⟨List.mem_of_getElem? (i := 181) (by decide +kernel), by decide +kernel⟩
theorem wf_X2_21 : Cond.fieldLink RX2 21 "FairGround$Reader" "tokens" "I" ∈ WS := List.mem_filter.mpr ⟨List.mem_of_getElem? (i := 182) (by decide +kernel), by decide +kernel⟩
theorem wf_X2_25 : Cond.fieldLink RX2 25 "FairGround$Reader" "current" "I" ∈ WS := List.mem_filter.mpr ⟨List.mem_of_getElem? (i := 183) (by decide +kernel), by decide +kernel⟩
theorem wf_X2_28 : Cond.fieldLink RX2 28 "FairGround$Reader" "fault" "I" ∈ WS := List.mem_filter.mpr ⟨List.mem_of_getElem? (i := 184) (by decide +kernel), by decide +kernel⟩
theorem wf_X2_31 : Cond.fieldLink RX2 31 "FairGround$Tape" "length" "I" ∈ WS := List.mem_filter.mpr ⟨List.mem_of_getElem? (i := 165) (by decide +kernel), by decide +kernel⟩
theorem wf_X2_9 : Cond.fieldLink RX2 9 "FairGround$Reader" "kinds" "[I" ∈ WS := List.mem_filter.mpr ⟨List.mem_of_getElem? (i := 179) (by decide +kernel), by decide +kernel⟩
theorem wf_X3_12 : Cond.fieldLink RX3 12 "FairGround$Ride" "spot" "LFairGround$Spot;" ∈ WS := List.mem_filter.mpr ⟨List.mem_of_getElem? (i := 353) (by decide +kernel), by decide +kernel⟩
theorem wf_X3_18 : Cond.fieldLink RX3 18 "FairGround$Ride" "lies" "Z" ∈ WS := List.mem_filter.mpr ⟨List.mem_of_getElem? (i := 355) (by decide +kernel), by decide +kernel⟩
theorem wf_X3_22 : Cond.fieldLink RX3 22 "FairGround$Ride" "isSick" "Z" ∈ WS := List.mem_filter.mpr ⟨List.mem_of_getElem? (i := 357) (by decide +kernel), by decide +kernel⟩
theorem wf_X3_25 : Cond.fieldLink RX3 25 "FairGround$Ride" "right" "I" ∈ WS := List.mem_filter.mpr ⟨List.mem_of_getElem? (i := 359) (by decide +kernel), by decide +kernel⟩
theorem wf_X3_29 : Cond.fieldLink RX3 29 "FairGround$Ride" "held" "I" ∈ WS := List.mem_filter.mpr ⟨List.mem_of_getElem? (i := 361) (by decide +kernel), by decide +kernel⟩
theorem wf_X3_32 : Cond.fieldLink RX3 32 "FairGround$Ride" "missed" "I" ∈ WS := List.mem_filter.mpr ⟨List.mem_of_getElem? (i := 363) (by decide +kernel), by decide +kernel⟩
theorem wf_X3_35 : Cond.fieldLink RX3 35 "FairGround$Ride" "number" "I" ∈ WS := List.mem_filter.mpr ⟨List.mem_of_getElem? (i := 341) (by decide +kernel), by decide +kernel⟩
theorem wf_X3_38 : Cond.fieldLink RX3 38 "FairGround$Ride" "width" "I" ∈ WS := List.mem_filter.mpr ⟨List.mem_of_getElem? (i := 343) (by decide +kernel), by decide +kernel⟩
theorem wf_X3_41 : Cond.fieldLink RX3 41 "FairGround$Ride" "height" "I" ∈ WS := List.mem_filter.mpr ⟨List.mem_of_getElem? (i := 345) (by decide +kernel), by decide +kernel⟩
theorem wf_X3_44 : Cond.fieldLink RX3 44 "FairGround$Ride" "power" "I" ∈ WS := List.mem_filter.mpr ⟨List.mem_of_getElem? (i := 347) (by decide +kernel), by decide +kernel⟩
theorem wf_X3_47 : Cond.fieldLink RX3 47 "FairGround$Ride" "noise" "I" ∈ WS := List.mem_filter.mpr ⟨List.mem_of_getElem? (i := 349) (by decide +kernel), by decide +kernel⟩
theorem wf_X3_50 : Cond.fieldLink RX3 50 "FairGround$Ride" "rank" "I" ∈ WS := List.mem_filter.mpr ⟨List.mem_of_getElem? (i := 351) (by decide +kernel), by decide +kernel⟩
theorem wf_X4_15 : Cond.fieldLink RX4 15 "FairGround$Spot" "y" "I" ∈ WS := List.mem_filter.mpr ⟨List.mem_of_getElem? (i := 139) (by decide +kernel), by decide +kernel⟩
theorem wf_X4_18 : Cond.fieldLink RX4 18 "FairGround$Spot" "wide" "I" ∈ WS := List.mem_filter.mpr ⟨List.mem_of_getElem? (i := 141) (by decide +kernel), by decide +kernel⟩
theorem wf_X4_21 : Cond.fieldLink RX4 21 "FairGround$Spot" "high" "I" ∈ WS := List.mem_filter.mpr ⟨List.mem_of_getElem? (i := 143) (by decide +kernel), by decide +kernel⟩
theorem wf_X4_24 : Cond.fieldLink RX4 24 "FairGround$Spot" "turned" "Z" ∈ WS := List.mem_filter.mpr ⟨List.mem_of_getElem? (i := 145) (by decide +kernel), by decide +kernel⟩
theorem wf_X4_9 : Cond.fieldLink RX4 9 "FairGround$Spot" "x" "I" ∈ WS := List.mem_filter.mpr ⟨List.mem_of_getElem? (i := 137) (by decide +kernel), by decide +kernel⟩
theorem wf_X5_15 : Cond.fieldLink RX5 15 "FairGround$Tape" "length" "I" ∈ WS := List.mem_filter.mpr ⟨List.mem_of_getElem? (i := 164) (by decide +kernel), by decide +kernel⟩
theorem wf_X5_9 : Cond.fieldLink RX5 9 "FairGround$Tape" "signs" "[B" ∈ WS := List.mem_filter.mpr ⟨List.mem_of_getElem? (i := 163) (by decide +kernel), by decide +kernel⟩
theorem wf_X6_10 : Cond.fieldLink RX6 10 "FairGround" "green" "LFairGround$Green;" ∈ WS := List.mem_filter.mpr ⟨List.mem_of_getElem? (i := 225) (by decide +kernel), by decide +kernel⟩
theorem wf_X6_112 : Cond.fieldLink RX6 112 "FairGround$Ride" "rank" "I" ∈ WS := List.mem_filter.mpr ⟨List.mem_of_getElem? (i := 352) (by decide +kernel), by decide +kernel⟩
theorem wf_X6_115 : Cond.fieldLink RX6 115 "FairGround$Ride" "number" "I" ∈ WS := List.mem_filter.mpr ⟨List.mem_of_getElem? (i := 342) (by decide +kernel), by decide +kernel⟩
theorem wf_X6_122 : Cond.fieldLink RX6 122 "FairGround$Ride" "lies" "Z" ∈ WS := List.mem_filter.mpr ⟨List.mem_of_getElem? (i := 356) (by decide +kernel), by decide +kernel⟩
theorem wf_X6_126 : Cond.fieldLink RX6 126 "FairGround$Ride" "width" "I" ∈ WS := List.mem_filter.mpr ⟨List.mem_of_getElem? (i := 344) (by decide +kernel), by decide +kernel⟩
theorem wf_X6_129 : Cond.fieldLink RX6 129 "FairGround$Ride" "height" "I" ∈ WS := List.mem_filter.mpr ⟨List.mem_of_getElem? (i := 346) (by decide +kernel), by decide +kernel⟩
theorem wf_X6_147 : Cond.fieldLink RX6 147 "FairGround$Ride" "right" "I" ∈ WS := List.mem_filter.mpr ⟨List.mem_of_getElem? (i := 360) (by decide +kernel), by decide +kernel⟩
theorem wf_X6_156 : Cond.fieldLink RX6 156 "FairGround$Ride" "isSick" "Z" ∈ WS := List.mem_filter.mpr ⟨List.mem_of_getElem? (i := 358) (by decide +kernel), by decide +kernel⟩
theorem wf_X6_162 : Cond.fieldLink RX6 162 "FairGround$Ride" "missed" "I" ∈ WS := List.mem_filter.mpr ⟨List.mem_of_getElem? (i := 364) (by decide +kernel), by decide +kernel⟩
theorem wf_X6_175 : Cond.fieldLink RX6 175 "FairGround$Tape" "length" "I" ∈ WS := List.mem_filter.mpr ⟨List.mem_of_getElem? (i := 166) (by decide +kernel), by decide +kernel⟩
theorem wf_X6_18 : Cond.fieldLink RX6 18 "FairGround" "rides" "[LFairGround$Ride;" ∈ WS := List.mem_filter.mpr ⟨List.mem_of_getElem? (i := 226) (by decide +kernel), by decide +kernel⟩
theorem wf_X6_196 : Cond.fieldLink RX6 196 "FairGround$Ride" "power" "I" ∈ WS := List.mem_filter.mpr ⟨List.mem_of_getElem? (i := 348) (by decide +kernel), by decide +kernel⟩
theorem wf_X6_22 : Cond.fieldLink RX6 22 "FairGround" "byRank" "[LFairGround$Ride;" ∈ WS := List.mem_filter.mpr ⟨List.mem_of_getElem? (i := 227) (by decide +kernel), by decide +kernel⟩
theorem wf_X6_221 : Cond.fieldLink RX6 221 "FairGround$Ride" "spot" "LFairGround$Spot;" ∈ WS := List.mem_filter.mpr ⟨List.mem_of_getElem? (i := 354) (by decide +kernel), by decide +kernel⟩
theorem wf_X6_233 : Cond.fieldLink RX6 233 "FairGround$Ride" "held" "I" ∈ WS := List.mem_filter.mpr ⟨List.mem_of_getElem? (i := 362) (by decide +kernel), by decide +kernel⟩
theorem wf_X6_244 : Cond.fieldLink RX6 244 "FairGround$Law" "lines" "I" ∈ WS := List.mem_filter.mpr ⟨List.mem_of_getElem? (i := 210) (by decide +kernel), by decide +kernel⟩
theorem wf_X6_25 : Cond.fieldLink RX6 25 "FairGround" "rideCount" "I" ∈ WS := List.mem_filter.mpr ⟨List.mem_of_getElem? (i := 228) (by decide +kernel), by decide +kernel⟩
theorem wf_X6_274 : Cond.fieldLink RX6 274 "FairGround$Ride" "noise" "I" ∈ WS := List.mem_filter.mpr ⟨List.mem_of_getElem? (i := 350) (by decide +kernel), by decide +kernel⟩
theorem wf_X6_29 : Cond.fieldLink RX6 29 "FairGround" "year" "I" ∈ WS := List.mem_filter.mpr ⟨List.mem_of_getElem? (i := 229) (by decide +kernel), by decide +kernel⟩
theorem wf_X6_35 : Cond.fieldLink RX6 35 "FairGround" "trial" "LFairGround$Spot;" ∈ WS := List.mem_filter.mpr ⟨List.mem_of_getElem? (i := 230) (by decide +kernel), by decide +kernel⟩
theorem wf_X6_42 : Cond.fieldLink RX6 42 "FairGround" "tape" "LFairGround$Tape;" ∈ WS := List.mem_filter.mpr ⟨List.mem_of_getElem? (i := 231) (by decide +kernel), by decide +kernel⟩
theorem wf_X6_49 : Cond.fieldLink RX6 49 "FairGround" "reader" "LFairGround$Reader;" ∈ WS := List.mem_filter.mpr ⟨List.mem_of_getElem? (i := 232) (by decide +kernel), by decide +kernel⟩
theorem wf_X6_56 : Cond.fieldLink RX6 56 "FairGround" "law" "LFairGround$Law;" ∈ WS := List.mem_filter.mpr ⟨List.mem_of_getElem? (i := 233) (by decide +kernel), by decide +kernel⟩
theorem wf_X6_60 : Cond.fieldLink RX6 60 "FairGround" "draft" "LFairGround$Law;" ∈ WS := List.mem_filter.mpr ⟨List.mem_of_getElem? (i := 234) (by decide +kernel), by decide +kernel⟩
theorem wf_X6_63 : Cond.fieldLink RX6 63 "FairGround" "facts" "[I" ∈ WS := List.mem_filter.mpr ⟨List.mem_of_getElem? (i := 235) (by decide +kernel), by decide +kernel⟩
theorem wf_X6_67 : Cond.fieldLink RX6 67 "FairGround" "lineBears" "[I" ∈ WS := List.mem_filter.mpr ⟨List.mem_of_getElem? (i := 236) (by decide +kernel), by decide +kernel⟩
theorem wf_X6_70 : Cond.fieldLink RX6 70 "FairGround" "shares" "[I" ∈ WS := List.mem_filter.mpr ⟨List.mem_of_getElem? (i := 237) (by decide +kernel), by decide +kernel⟩
theorem wf_X6_73 : Cond.fieldLink RX6 73 "FairGround" "ratePerCell" "I" ∈ WS := List.mem_filter.mpr ⟨List.mem_of_getElem? (i := 238) (by decide +kernel), by decide +kernel⟩
theorem wf_X6_99 : Cond.fieldLink RX6 99 "FairGround$Green" "gateRow" "I" ∈ WS := List.mem_filter.mpr ⟨List.mem_of_getElem? (i := 116) (by decide +kernel), by decide +kernel⟩
theorem wf_X7_1 : Cond.fieldLink RX7 1 "FairGroundModel" "thrown" "I" ∈ WS := List.mem_filter.mpr ⟨List.mem_of_getElem? (i := 872) (by decide +kernel), by decide +kernel⟩
theorem wf_X7_100 : Cond.fieldLink RX7 100 "FairGroundModel" "rank" "[I" ∈ WS := List.mem_filter.mpr ⟨List.mem_of_getElem? (i := 901) (by decide +kernel), by decide +kernel⟩
theorem wf_X7_103 : Cond.fieldLink RX7 103 "FairGroundModel" "lies" "[I" ∈ WS := List.mem_filter.mpr ⟨List.mem_of_getElem? (i := 902) (by decide +kernel), by decide +kernel⟩
theorem wf_X7_106 : Cond.fieldLink RX7 106 "FairGroundModel" "right" "[I" ∈ WS := List.mem_filter.mpr ⟨List.mem_of_getElem? (i := 903) (by decide +kernel), by decide +kernel⟩
theorem wf_X7_109 : Cond.fieldLink RX7 109 "FairGroundModel" "held" "[I" ∈ WS := List.mem_filter.mpr ⟨List.mem_of_getElem? (i := 904) (by decide +kernel), by decide +kernel⟩
theorem wf_X7_11 : Cond.fieldLink RX7 11 "FairGroundModel" "taped" "I" ∈ WS := List.mem_filter.mpr ⟨List.mem_of_getElem? (i := 874) (by decide +kernel), by decide +kernel⟩
theorem wf_X7_112 : Cond.fieldLink RX7 112 "FairGroundModel" "missed" "[I" ∈ WS := List.mem_filter.mpr ⟨List.mem_of_getElem? (i := 905) (by decide +kernel), by decide +kernel⟩
theorem wf_X7_115 : Cond.fieldLink RX7 115 "FairGroundModel" "isSick" "[Z" ∈ WS := List.mem_filter.mpr ⟨List.mem_of_getElem? (i := 906) (by decide +kernel), by decide +kernel⟩
theorem wf_X7_118 : Cond.fieldLink RX7 118 "FairGroundModel" "isClosed" "[Z" ∈ WS := List.mem_filter.mpr ⟨List.mem_of_getElem? (i := 908) (by decide +kernel), by decide +kernel⟩
theorem wf_X7_121 : Cond.fieldLink RX7 121 "FairGroundModel" "isBarred" "[Z" ∈ WS := List.mem_filter.mpr ⟨List.mem_of_getElem? (i := 910) (by decide +kernel), by decide +kernel⟩
theorem wf_X7_124 : Cond.fieldLink RX7 124 "FairGroundModel" "isReached" "[Z" ∈ WS := List.mem_filter.mpr ⟨List.mem_of_getElem? (i := 911) (by decide +kernel), by decide +kernel⟩
theorem wf_X7_127 : Cond.fieldLink RX7 127 "FairGroundModel" "isAsked" "[Z" ∈ WS := List.mem_filter.mpr ⟨List.mem_of_getElem? (i := 912) (by decide +kernel), by decide +kernel⟩
theorem wf_X7_130 : Cond.fieldLink RX7 130 "FairGroundModel" "ways" "[I" ∈ WS := List.mem_filter.mpr ⟨List.mem_of_getElem? (i := 913) (by decide +kernel), by decide +kernel⟩
theorem wf_X7_133 : Cond.fieldLink RX7 133 "FairGroundModel" "can" "[I" ∈ WS := List.mem_filter.mpr ⟨List.mem_of_getElem? (i := 914) (by decide +kernel), by decide +kernel⟩
theorem wf_X7_136 : Cond.fieldLink RX7 136 "FairGroundModel" "cover" "[I" ∈ WS := List.mem_filter.mpr ⟨List.mem_of_getElem? (i := 915) (by decide +kernel), by decide +kernel⟩
theorem wf_X7_139 : Cond.fieldLink RX7 139 "FairGroundModel" "bears" "[I" ∈ WS := List.mem_filter.mpr ⟨List.mem_of_getElem? (i := 916) (by decide +kernel), by decide +kernel⟩
theorem wf_X7_14 : Cond.fieldLink RX7 14 "FairGroundModel" "tape" "[I" ∈ WS := List.mem_filter.mpr ⟨List.mem_of_getElem? (i := 873) (by decide +kernel), by decide +kernel⟩
theorem wf_X7_142 : Cond.fieldLink RX7 142 "FairGroundModel" "rate" "I" ∈ WS := List.mem_filter.mpr ⟨List.mem_of_getElem? (i := 917) (by decide +kernel), by decide +kernel⟩
theorem wf_X7_145 : Cond.fieldLink RX7 145 "FairGroundModel" "share" "[I" ∈ WS := List.mem_filter.mpr ⟨List.mem_of_getElem? (i := 918) (by decide +kernel), by decide +kernel⟩
theorem wf_X7_148 : Cond.fieldLink RX7 148 "FairGroundModel" "isLit" "[Z" ∈ WS := List.mem_filter.mpr ⟨List.mem_of_getElem? (i := 919) (by decide +kernel), by decide +kernel⟩
theorem wf_X7_151 : Cond.fieldLink RX7 151 "FairGroundModel" "rest" "[I" ∈ WS := List.mem_filter.mpr ⟨List.mem_of_getElem? (i := 920) (by decide +kernel), by decide +kernel⟩
theorem wf_X7_154 : Cond.fieldLink RX7 154 "FairGroundModel" "has" "[I" ∈ WS := List.mem_filter.mpr ⟨List.mem_of_getElem? (i := 921) (by decide +kernel), by decide +kernel⟩
theorem wf_X7_161 : Cond.fieldLink RX7 161 "FairGroundModel" "size" "I" ∈ WS := List.mem_filter.mpr ⟨List.mem_of_getElem? (i := 875) (by decide +kernel), by decide +kernel⟩
theorem wf_X7_179 : Cond.fieldLink RX7 179 "FairGroundModel" "at" "I" ∈ WS := List.mem_filter.mpr ⟨List.mem_of_getElem? (i := 879) (by decide +kernel), by decide +kernel⟩
theorem wf_X7_182 : Cond.fieldLink RX7 182 "FairGroundModel" "fault" "I" ∈ WS := List.mem_filter.mpr ⟨List.mem_of_getElem? (i := 880) (by decide +kernel), by decide +kernel⟩
theorem wf_X7_198 : Cond.fieldLink RX7 198 "FairGroundModel" "next" "I" ∈ WS := List.mem_filter.mpr ⟨List.mem_of_getElem? (i := 888) (by decide +kernel), by decide +kernel⟩
theorem wf_X7_201 : Cond.fieldLink RX7 201 "FairGroundModel" "codes" "I" ∈ WS := List.mem_filter.mpr ⟨List.mem_of_getElem? (i := 889) (by decide +kernel), by decide +kernel⟩
theorem wf_X7_207 : Cond.fieldLink RX7 207 "FairGroundModel" "holds" "I" ∈ WS := List.mem_filter.mpr ⟨List.mem_of_getElem? (i := 887) (by decide +kernel), by decide +kernel⟩
theorem wf_X7_216 : Cond.fieldLink RX7 216 "FairGroundModel" "deep" "I" ∈ WS := List.mem_filter.mpr ⟨List.mem_of_getElem? (i := 890) (by decide +kernel), by decide +kernel⟩
theorem wf_X7_24 : Cond.fieldLink RX7 24 "FairGroundModel" "sort" "[I" ∈ WS := List.mem_filter.mpr ⟨List.mem_of_getElem? (i := 876) (by decide +kernel), by decide +kernel⟩
theorem wf_X7_243 : Cond.fieldLink RX7 243 "FairGroundModel" "rides" "I" ∈ WS := List.mem_filter.mpr ⟨List.mem_of_getElem? (i := 896) (by decide +kernel), by decide +kernel⟩
theorem wf_X7_27 : Cond.fieldLink RX7 27 "FairGroundModel" "place" "[I" ∈ WS := List.mem_filter.mpr ⟨List.mem_of_getElem? (i := 877) (by decide +kernel), by decide +kernel⟩
theorem wf_X7_277 : Cond.fieldLink RX7 277 "FairGroundModel" "gateRow" "I" ∈ WS := List.mem_filter.mpr ⟨List.mem_of_getElem? (i := 909) (by decide +kernel), by decide +kernel⟩
theorem wf_X7_30 : Cond.fieldLink RX7 30 "FairGroundModel" "value" "[J" ∈ WS := List.mem_filter.mpr ⟨List.mem_of_getElem? (i := 878) (by decide +kernel), by decide +kernel⟩
theorem wf_X7_341 : Cond.fieldLink RX7 341 "FairGroundModel" "year" "I" ∈ WS := List.mem_filter.mpr ⟨List.mem_of_getElem? (i := 907) (by decide +kernel), by decide +kernel⟩
theorem wf_X7_54 : Cond.fieldLink RX7 54 "FairGroundModel" "words" "[J" ∈ WS := List.mem_filter.mpr ⟨List.mem_of_getElem? (i := 881) (by decide +kernel), by decide +kernel⟩
theorem wf_X7_57 : Cond.fieldLink RX7 57 "FairGroundModel" "lines" "[I" ∈ WS := List.mem_filter.mpr ⟨List.mem_of_getElem? (i := 882) (by decide +kernel), by decide +kernel⟩
theorem wf_X7_60 : Cond.fieldLink RX7 60 "FairGroundModel" "isLapse" "[Z" ∈ WS := List.mem_filter.mpr ⟨List.mem_of_getElem? (i := 883) (by decide +kernel), by decide +kernel⟩
theorem wf_X7_64 : Cond.fieldLink RX7 64 "FairGroundModel" "lineAt" "[I" ∈ WS := List.mem_filter.mpr ⟨List.mem_of_getElem? (i := 884) (by decide +kernel), by decide +kernel⟩
theorem wf_X7_67 : Cond.fieldLink RX7 67 "FairGroundModel" "op" "[I" ∈ WS := List.mem_filter.mpr ⟨List.mem_of_getElem? (i := 885) (by decide +kernel), by decide +kernel⟩
theorem wf_X7_70 : Cond.fieldLink RX7 70 "FairGroundModel" "one" "[I" ∈ WS := List.mem_filter.mpr ⟨List.mem_of_getElem? (i := 886) (by decide +kernel), by decide +kernel⟩
theorem wf_X7_73 : Cond.fieldLink RX7 73 "FairGroundModel" "sumWaits" "[I" ∈ WS := List.mem_filter.mpr ⟨List.mem_of_getElem? (i := 891) (by decide +kernel), by decide +kernel⟩
theorem wf_X7_76 : Cond.fieldLink RX7 76 "FairGroundModel" "signWaits" "[I" ∈ WS := List.mem_filter.mpr ⟨List.mem_of_getElem? (i := 892) (by decide +kernel), by decide +kernel⟩
theorem wf_X7_79 : Cond.fieldLink RX7 79 "FairGroundModel" "andWaits" "[I" ∈ WS := List.mem_filter.mpr ⟨List.mem_of_getElem? (i := 893) (by decide +kernel), by decide +kernel⟩
theorem wf_X7_82 : Cond.fieldLink RX7 82 "FairGroundModel" "known" "[I" ∈ WS := List.mem_filter.mpr ⟨List.mem_of_getElem? (i := 894) (by decide +kernel), by decide +kernel⟩
theorem wf_X7_85 : Cond.fieldLink RX7 85 "FairGroundModel" "pile" "[I" ∈ WS := List.mem_filter.mpr ⟨List.mem_of_getElem? (i := 895) (by decide +kernel), by decide +kernel⟩
theorem wf_X7_88 : Cond.fieldLink RX7 88 "FairGroundModel" "wide" "[I" ∈ WS := List.mem_filter.mpr ⟨List.mem_of_getElem? (i := 897) (by decide +kernel), by decide +kernel⟩
theorem wf_X7_91 : Cond.fieldLink RX7 91 "FairGroundModel" "high" "[I" ∈ WS := List.mem_filter.mpr ⟨List.mem_of_getElem? (i := 898) (by decide +kernel), by decide +kernel⟩
theorem wf_X7_94 : Cond.fieldLink RX7 94 "FairGroundModel" "power" "[I" ∈ WS := List.mem_filter.mpr ⟨List.mem_of_getElem? (i := 899) (by decide +kernel), by decide +kernel⟩
theorem wf_X7_97 : Cond.fieldLink RX7 97 "FairGroundModel" "noise" "[I" ∈ WS := List.mem_filter.mpr ⟨List.mem_of_getElem? (i := 900) (by decide +kernel), by decide +kernel⟩
theorem wn_X0 : Cond.initialized RX0 ∈ WS := List.mem_filter.mpr ⟨List.mem_of_getElem? (i := 76) (by decide +kernel), by decide +kernel⟩
theorem wn_X1 : Cond.initialized RX1 ∈ WS := List.mem_filter.mpr ⟨List.mem_of_getElem? (i := 81) (by decide +kernel), by decide +kernel⟩
theorem wn_X2 : Cond.initialized RX2 ∈ WS := List.mem_filter.mpr ⟨List.mem_of_getElem? (i := 80) (by decide +kernel), by decide +kernel⟩
theorem wn_X3 : Cond.initialized RX3 ∈ WS := List.mem_filter.mpr ⟨List.mem_of_getElem? (i := 83) (by decide +kernel), by decide +kernel⟩
theorem wn_X4 : Cond.initialized RX4 ∈ WS := List.mem_filter.mpr ⟨List.mem_of_getElem? (i := 78) (by decide +kernel), by decide +kernel⟩
theorem wn_X5 : Cond.initialized RX5 ∈ WS := List.mem_filter.mpr ⟨List.mem_of_getElem? (i := 79) (by decide +kernel), by decide +kernel⟩
theorem wn_X6 : Cond.initialized RX6 ∈ WS := List.mem_filter.mpr ⟨List.mem_of_getElem? (i := 75) (by decide +kernel), by decide +kernel⟩
theorem wn_L : Cond.initialized RL ∈ WS := List.mem_filter.mpr ⟨List.mem_of_getElem? (i := 74) (by decide +kernel), by decide +kernel⟩
theorem wn_X7 : Cond.initialized RX7 ∈ WS := List.mem_filter.mpr ⟨List.mem_of_getElem? (i := 82) (by decide +kernel), by decide +kernel⟩
theorem wn_J6 : Cond.initialized RJ6 ∈ WS := List.mem_filter.mpr ⟨List.mem_of_getElem? (i := 89) (by decide +kernel), by decide +kernel⟩
theorem wn_J9 : Cond.initialized RJ9 ∈ WS := List.mem_filter.mpr ⟨List.mem_of_getElem? (i := 84) (by decide +kernel), by decide +kernel⟩
theorem wn_J0 : Cond.initialized RJ0 ∈ WS := List.mem_filter.mpr ⟨List.mem_of_getElem? (i := 85) (by decide +kernel), by decide +kernel⟩
theorem wn_J1 : Cond.initialized RJ1 ∈ WS := List.mem_filter.mpr ⟨List.mem_of_getElem? (i := 86) (by decide +kernel), by decide +kernel⟩
theorem wn_J2 : Cond.initialized RJ2 ∈ WS := List.mem_filter.mpr ⟨List.mem_of_getElem? (i := 88) (by decide +kernel), by decide +kernel⟩
theorem wn_J7 : Cond.initialized RJ7 ∈ WS := List.mem_filter.mpr ⟨List.mem_of_getElem? (i := 77) (by decide +kernel), by decide +kernel⟩
theorem wn_J3 : Cond.initialized RJ3 ∈ WS := List.mem_filter.mpr ⟨List.mem_of_getElem? (i := 87) (by decide +kernel), by decide +kernel⟩
theorem wi_X0 : Cond.instantiable RX0 5 ∈ WS := List.mem_filter.mpr ⟨List.mem_of_getElem? (i := 103) (by decide +kernel), by decide +kernel⟩
theorem wi_X1 : Cond.instantiable RX1 6 ∈ WS := List.mem_filter.mpr ⟨List.mem_of_getElem? (i := 199) (by decide +kernel), by decide +kernel⟩
theorem wi_X2 : Cond.instantiable RX2 6 ∈ WS := List.mem_filter.mpr ⟨List.mem_of_getElem? (i := 174) (by decide +kernel), by decide +kernel⟩
theorem wi_X3 : Cond.instantiable RX3 12 ∈ WS := List.mem_filter.mpr ⟨List.mem_of_getElem? (i := 334) (by decide +kernel), by decide +kernel⟩
theorem wi_X4 : Cond.instantiable RX4 5 ∈ WS := List.mem_filter.mpr ⟨List.mem_of_getElem? (i := 132) (by decide +kernel), by decide +kernel⟩
theorem wi_X5 : Cond.instantiable RX5 2 ∈ WS := List.mem_filter.mpr ⟨List.mem_of_getElem? (i := 158) (by decide +kernel), by decide +kernel⟩
theorem wi_X6 : Cond.instantiable RX6 14 ∈ WS := List.mem_filter.mpr ⟨List.mem_of_getElem? (i := 95) (by decide +kernel), by decide +kernel⟩
theorem wi_X7 : Cond.instantiable RX7 50 ∈ WS := List.mem_filter.mpr ⟨List.mem_of_getElem? (i := 855) (by decide +kernel), by decide +kernel⟩
theorem wo_2 : Cond.instanceMethod Lib.objectInit ∈ WS := List.mem_filter.mpr ⟨List.mem_of_getElem? (i := 100) (by decide +kernel), by decide +kernel⟩
theorem wo_5 : Cond.code Lib.objectInit ⟨#[0xb1]⟩ 1 none ∈ WS := List.mem_filter.mpr ⟨List.mem_of_getElem? (i := 101) (by decide +kernel), by decide +kernel⟩
def LkV (own : String) (i : Nat) (y' : MethodName) (cc' : ByteArray) (nL' : Nat) (rt' : Option FieldType) (np : Nat) : Prop := Cond.methodLink own i y' ∈ WS ∧ Cond.instanceMethod y' ∈ WS ∧ Cond.selects y'.cls y' y' ∈ WS ∧ Cond.initialized y'.cls ∈ WS ∧ Cond.code y' cc' nL' rt' ∈ WS ∧ okCall y' np = true ∧ nL' ≤ 45
def LkS (own : String) (i : Nat) (y' : MethodName) (cc' : ByteArray) (nL' : Nat) (rt' : Option FieldType) (np : Nat) : Prop := Cond.methodLink own i y' ∈ WS ∧ Cond.static y' ∈ WS ∧ Cond.initialized y'.cls ∈ WS ∧ Cond.code y' cc' nL' rt' ∈ WS ∧ okCall y' np = true ∧ nL' ≤ 45
def LkI (own : String) (i : Nat) (y' : MethodName) (cc' : ByteArray) (nL' : Nat) (rt' : Option FieldType) (np : Nat) : Prop := Cond.methodLink own i y' ∈ WS ∧ Cond.instanceMethod y' ∈ WS ∧ Cond.initialized y'.cls ∈ WS ∧ Cond.code y' cc' nL' rt' ∈ WS ∧ okCall y' np = true ∧ y'.name = "<init>" ∧ nL' ≤ 45
def LkIN (own : String) (i : Nat) (y' : MethodName) (cc' : ByteArray) (nL' : Nat) (rt' : Option FieldType) (np : Nat) : Prop := (own, i, y', RX6) ∈ st_nest ∧ Cond.instanceMethod y' ∈ WS ∧ Cond.initialized y'.cls ∈ WS ∧ Cond.code y' cc' nL' rt' ∈ WS ∧ okCall y' np = true ∧ y'.name = "<init>" ∧ nL' ≤ 45
def LkSN (own : String) (i : Nat) (y' : MethodName) (cc' : ByteArray) (nL' : Nat) (rt' : Option FieldType) (np : Nat) : Prop := (own, i, y', RX6) ∈ st_nest ∧ Cond.static y' ∈ WS ∧ Cond.initialized y'.cls ∈ WS ∧ Cond.code y' cc' nL' rt' ∈ WS ∧ okCall y' np = true ∧ nL' ≤ 45
theorem lk_X0_28 : LkS RX0 28 yJ7_fill_53178 cJ7_fill_53178 4 none 2 := ⟨List.mem_filter.mpr ⟨List.mem_of_getElem? (i := 108) (by decide +kernel), by decide +kernel⟩, List.mem_filter.mpr ⟨List.mem_of_getElem? (i := 109) (by decide +kernel), by decide +kernel⟩, wn_J7, List.mem_filter.mpr ⟨List.mem_of_getElem? (i := 110) (by decide +kernel), by decide +kernel⟩, by decide +kernel, by decide⟩
theorem wo_X0_3 : Cond.methodLink RX0 3 Lib.objectInit ∈ WS := List.mem_filter.mpr ⟨List.mem_of_getElem? (i := 107) (by decide +kernel), by decide +kernel⟩
theorem lk_X0_34 : LkS RX0 34 yX0_hasCell cX0_hasCell 2 (some .boolean) 2 := ⟨List.mem_filter.mpr ⟨List.mem_of_getElem? (i := 276) (by decide +kernel), by decide +kernel⟩, List.mem_filter.mpr ⟨List.mem_of_getElem? (i := 277) (by decide +kernel), by decide +kernel⟩, wn_X0, List.mem_filter.mpr ⟨List.mem_of_getElem? (i := 278) (by decide +kernel), by decide +kernel⟩, by decide +kernel, by decide⟩
theorem lk_X0_52 : LkV RX0 52 yX0_put cX0_put 4 none 3 := ⟨List.mem_filter.mpr ⟨List.mem_of_getElem? (i := 447) (by decide +kernel), by decide +kernel⟩, List.mem_filter.mpr ⟨List.mem_of_getElem? (i := 296) (by decide +kernel), by decide +kernel⟩, List.mem_filter.mpr ⟨List.mem_of_getElem? (i := 297) (by decide +kernel), by decide +kernel⟩, wn_X0, List.mem_filter.mpr ⟨List.mem_of_getElem? (i := 298) (by decide +kernel), by decide +kernel⟩, by decide +kernel, by decide⟩
theorem lk_X0_56 : LkV RX0 56 yX0_at cX0_at 3 (some .int) 2 := ⟨List.mem_filter.mpr ⟨List.mem_of_getElem? (i := 311) (by decide +kernel), by decide +kernel⟩, List.mem_filter.mpr ⟨List.mem_of_getElem? (i := 273) (by decide +kernel), by decide +kernel⟩, List.mem_filter.mpr ⟨List.mem_of_getElem? (i := 274) (by decide +kernel), by decide +kernel⟩, wn_X0, List.mem_filter.mpr ⟨List.mem_of_getElem? (i := 275) (by decide +kernel), by decide +kernel⟩, by decide +kernel, by decide⟩
theorem lk_X0_60 : LkV RX0 60 yX0_reach cX0_reach 3 none 2 := ⟨List.mem_filter.mpr ⟨List.mem_of_getElem? (i := 307) (by decide +kernel), by decide +kernel⟩, List.mem_filter.mpr ⟨List.mem_of_getElem? (i := 309) (by decide +kernel), by decide +kernel⟩, List.mem_filter.mpr ⟨List.mem_of_getElem? (i := 2) (by decide +kernel), by decide +kernel⟩, wn_X0, List.mem_filter.mpr ⟨List.mem_of_getElem? (i := 310) (by decide +kernel), by decide +kernel⟩, by decide +kernel, by decide⟩
theorem wo_X1_3 : Cond.methodLink RX1 3 Lib.objectInit ∈ WS := List.mem_filter.mpr ⟨List.mem_of_getElem? (i := 203) (by decide +kernel), by decide +kernel⟩
theorem lk_X1_32 : LkV RX1 32 yX1_worth cX1_worth 8 (some .int) 3 := ⟨List.mem_filter.mpr ⟨List.mem_of_getElem? (i := 517) (by decide +kernel), by decide +kernel⟩, List.mem_filter.mpr ⟨List.mem_of_getElem? (i := 519) (by decide +kernel), by decide +kernel⟩, List.mem_filter.mpr ⟨List.mem_of_getElem? (i := 12) (by decide +kernel), by decide +kernel⟩, wn_X1, List.mem_filter.mpr ⟨List.mem_of_getElem? (i := 520) (by decide +kernel), by decide +kernel⟩, by decide +kernel, by decide⟩
theorem lk_X1_36 : LkS RX1 36 yX1_factAt cX1_factAt 2 (some .int) 2 := ⟨List.mem_filter.mpr ⟨List.mem_of_getElem? (i := 521) (by decide +kernel), by decide +kernel⟩, List.mem_filter.mpr ⟨List.mem_of_getElem? (i := 522) (by decide +kernel), by decide +kernel⟩, wn_X1, List.mem_filter.mpr ⟨List.mem_of_getElem? (i := 523) (by decide +kernel), by decide +kernel⟩, by decide +kernel, by decide⟩
theorem lk_X1_40 : LkS RX1 40 yX1_joined cX1_joined 3 (some .int) 3 := ⟨List.mem_filter.mpr ⟨List.mem_of_getElem? (i := 524) (by decide +kernel), by decide +kernel⟩, List.mem_filter.mpr ⟨List.mem_of_getElem? (i := 525) (by decide +kernel), by decide +kernel⟩, wn_X1, List.mem_filter.mpr ⟨List.mem_of_getElem? (i := 526) (by decide +kernel), by decide +kernel⟩, by decide +kernel, by decide⟩
theorem lk_X2_101 : LkV RX2 101 yX1_wipe cX1_wipe 1 none 0 := ⟨List.mem_filter.mpr ⟨List.mem_of_getElem? (i := 658) (by decide +kernel), by decide +kernel⟩, List.mem_filter.mpr ⟨List.mem_of_getElem? (i := 659) (by decide +kernel), by decide +kernel⟩, List.mem_filter.mpr ⟨List.mem_of_getElem? (i := 660) (by decide +kernel), by decide +kernel⟩, wn_X1, List.mem_filter.mpr ⟨List.mem_of_getElem? (i := 661) (by decide +kernel), by decide +kernel⟩, by decide +kernel, by decide⟩
theorem lk_X2_106 : LkV RX2 106 yX2_kind cX2_kind 1 (some .int) 0 := ⟨List.mem_filter.mpr ⟨List.mem_of_getElem? (i := 662) (by decide +kernel), by decide +kernel⟩, List.mem_filter.mpr ⟨List.mem_of_getElem? (i := 664) (by decide +kernel), by decide +kernel⟩, List.mem_filter.mpr ⟨List.mem_of_getElem? (i := 16) (by decide +kernel), by decide +kernel⟩, wn_X2, List.mem_filter.mpr ⟨List.mem_of_getElem? (i := 665) (by decide +kernel), by decide +kernel⟩, by decide +kernel, by decide⟩
theorem lk_X2_110 : LkV RX2 110 yX2_readLine cX2_readLine 4 (some .boolean) 2 := ⟨List.mem_filter.mpr ⟨List.mem_of_getElem? (i := 666) (by decide +kernel), by decide +kernel⟩, List.mem_filter.mpr ⟨List.mem_of_getElem? (i := 668) (by decide +kernel), by decide +kernel⟩, List.mem_filter.mpr ⟨List.mem_of_getElem? (i := 17) (by decide +kernel), by decide +kernel⟩, wn_X2, List.mem_filter.mpr ⟨List.mem_of_getElem? (i := 669) (by decide +kernel), by decide +kernel⟩, by decide +kernel, by decide⟩
theorem lk_X2_114 : LkV RX2 114 yX2_refuse cX2_refuse 2 (some .boolean) 1 := ⟨List.mem_filter.mpr ⟨List.mem_of_getElem? (i := 670) (by decide +kernel), by decide +kernel⟩, List.mem_filter.mpr ⟨List.mem_of_getElem? (i := 672) (by decide +kernel), by decide +kernel⟩, List.mem_filter.mpr ⟨List.mem_of_getElem? (i := 18) (by decide +kernel), by decide +kernel⟩, wn_X2, List.mem_filter.mpr ⟨List.mem_of_getElem? (i := 673) (by decide +kernel), by decide +kernel⟩, by decide +kernel, by decide⟩
theorem lk_X2_117 : LkV RX2 117 yX1_beginLine cX1_beginLine 2 none 1 := ⟨List.mem_filter.mpr ⟨List.mem_of_getElem? (i := 674) (by decide +kernel), by decide +kernel⟩, List.mem_filter.mpr ⟨List.mem_of_getElem? (i := 675) (by decide +kernel), by decide +kernel⟩, List.mem_filter.mpr ⟨List.mem_of_getElem? (i := 676) (by decide +kernel), by decide +kernel⟩, wn_X1, List.mem_filter.mpr ⟨List.mem_of_getElem? (i := 677) (by decide +kernel), by decide +kernel⟩, by decide +kernel, by decide⟩
theorem lk_X2_121 : LkV RX2 121 yX2_skip cX2_skip 2 (some .boolean) 1 := ⟨List.mem_filter.mpr ⟨List.mem_of_getElem? (i := 678) (by decide +kernel), by decide +kernel⟩, List.mem_filter.mpr ⟨List.mem_of_getElem? (i := 680) (by decide +kernel), by decide +kernel⟩, List.mem_filter.mpr ⟨List.mem_of_getElem? (i := 19) (by decide +kernel), by decide +kernel⟩, wn_X2, List.mem_filter.mpr ⟨List.mem_of_getElem? (i := 681) (by decide +kernel), by decide +kernel⟩, by decide +kernel, by decide⟩
theorem lk_X2_124 : LkV RX2 124 yX2_readTests cX2_readTests 5 (some .boolean) 2 := ⟨List.mem_filter.mpr ⟨List.mem_of_getElem? (i := 682) (by decide +kernel), by decide +kernel⟩, List.mem_filter.mpr ⟨List.mem_of_getElem? (i := 684) (by decide +kernel), by decide +kernel⟩, List.mem_filter.mpr ⟨List.mem_of_getElem? (i := 20) (by decide +kernel), by decide +kernel⟩, wn_X2, List.mem_filter.mpr ⟨List.mem_of_getElem? (i := 685) (by decide +kernel), by decide +kernel⟩, by decide +kernel, by decide⟩
theorem lk_X2_127 : LkV RX2 127 yX2_readSum cX2_readSum 5 (some .boolean) 2 := ⟨List.mem_filter.mpr ⟨List.mem_of_getElem? (i := 686) (by decide +kernel), by decide +kernel⟩, List.mem_filter.mpr ⟨List.mem_of_getElem? (i := 688) (by decide +kernel), by decide +kernel⟩, List.mem_filter.mpr ⟨List.mem_of_getElem? (i := 21) (by decide +kernel), by decide +kernel⟩, wn_X2, List.mem_filter.mpr ⟨List.mem_of_getElem? (i := 689) (by decide +kernel), by decide +kernel⟩, by decide +kernel, by decide⟩
theorem lk_X2_130 : LkV RX2 130 yX1_add cX1_add 3 none 2 := ⟨List.mem_filter.mpr ⟨List.mem_of_getElem? (i := 694) (by decide +kernel), by decide +kernel⟩, List.mem_filter.mpr ⟨List.mem_of_getElem? (i := 695) (by decide +kernel), by decide +kernel⟩, List.mem_filter.mpr ⟨List.mem_of_getElem? (i := 696) (by decide +kernel), by decide +kernel⟩, wn_X1, List.mem_filter.mpr ⟨List.mem_of_getElem? (i := 697) (by decide +kernel), by decide +kernel⟩, by decide +kernel, by decide⟩
theorem lk_X2_134 : LkV RX2 134 yX2_readPart cX2_readPart 4 (some .boolean) 2 := ⟨List.mem_filter.mpr ⟨List.mem_of_getElem? (i := 690) (by decide +kernel), by decide +kernel⟩, List.mem_filter.mpr ⟨List.mem_of_getElem? (i := 692) (by decide +kernel), by decide +kernel⟩, List.mem_filter.mpr ⟨List.mem_of_getElem? (i := 22) (by decide +kernel), by decide +kernel⟩, wn_X2, List.mem_filter.mpr ⟨List.mem_of_getElem? (i := 693) (by decide +kernel), by decide +kernel⟩, by decide +kernel, by decide⟩
theorem wo_X2_3 : Cond.methodLink RX2 3 Lib.objectInit ∈ WS := List.mem_filter.mpr ⟨List.mem_of_getElem? (i := 178) (by decide +kernel), by decide +kernel⟩
theorem lk_X2_36 : LkV RX2 36 yX5_isLetter cX5_isLetter 2 (some .boolean) 1 := ⟨List.mem_filter.mpr ⟨List.mem_of_getElem? (i := 549) (by decide +kernel), by decide +kernel⟩, List.mem_filter.mpr ⟨List.mem_of_getElem? (i := 550) (by decide +kernel), by decide +kernel⟩, List.mem_filter.mpr ⟨List.mem_of_getElem? (i := 551) (by decide +kernel), by decide +kernel⟩, wn_X5, List.mem_filter.mpr ⟨List.mem_of_getElem? (i := 552) (by decide +kernel), by decide +kernel⟩, by decide +kernel, by decide⟩
theorem lk_X2_40 : LkV RX2 40 yX2_scanWord cX2_scanWord 5 (some .int) 2 := ⟨List.mem_filter.mpr ⟨List.mem_of_getElem? (i := 557) (by decide +kernel), by decide +kernel⟩, List.mem_filter.mpr ⟨List.mem_of_getElem? (i := 559) (by decide +kernel), by decide +kernel⟩, List.mem_filter.mpr ⟨List.mem_of_getElem? (i := 13) (by decide +kernel), by decide +kernel⟩, wn_X2, List.mem_filter.mpr ⟨List.mem_of_getElem? (i := 560) (by decide +kernel), by decide +kernel⟩, by decide +kernel, by decide⟩
theorem lk_X2_44 : LkV RX2 44 yX5_isDigit cX5_isDigit 2 (some .boolean) 1 := ⟨List.mem_filter.mpr ⟨List.mem_of_getElem? (i := 633) (by decide +kernel), by decide +kernel⟩, List.mem_filter.mpr ⟨List.mem_of_getElem? (i := 634) (by decide +kernel), by decide +kernel⟩, List.mem_filter.mpr ⟨List.mem_of_getElem? (i := 635) (by decide +kernel), by decide +kernel⟩, wn_X5, List.mem_filter.mpr ⟨List.mem_of_getElem? (i := 636) (by decide +kernel), by decide +kernel⟩, by decide +kernel, by decide⟩
theorem lk_X2_47 : LkV RX2 47 yX2_scanNumber cX2_scanNumber 5 (some .int) 2 := ⟨List.mem_filter.mpr ⟨List.mem_of_getElem? (i := 637) (by decide +kernel), by decide +kernel⟩, List.mem_filter.mpr ⟨List.mem_of_getElem? (i := 639) (by decide +kernel), by decide +kernel⟩, List.mem_filter.mpr ⟨List.mem_of_getElem? (i := 15) (by decide +kernel), by decide +kernel⟩, wn_X2, List.mem_filter.mpr ⟨List.mem_of_getElem? (i := 640) (by decide +kernel), by decide +kernel⟩, by decide +kernel, by decide⟩
theorem lk_X2_50 : LkV RX2 50 yX5_isBlank cX5_isBlank 2 (some .boolean) 1 := ⟨List.mem_filter.mpr ⟨List.mem_of_getElem? (i := 642) (by decide +kernel), by decide +kernel⟩, List.mem_filter.mpr ⟨List.mem_of_getElem? (i := 643) (by decide +kernel), by decide +kernel⟩, List.mem_filter.mpr ⟨List.mem_of_getElem? (i := 644) (by decide +kernel), by decide +kernel⟩, wn_X5, List.mem_filter.mpr ⟨List.mem_of_getElem? (i := 645) (by decide +kernel), by decide +kernel⟩, by decide +kernel, by decide⟩
theorem lk_X2_53 : LkV RX2 53 yX5_signAt cX5_signAt 2 (some .int) 1 := ⟨List.mem_filter.mpr ⟨List.mem_of_getElem? (i := 641) (by decide +kernel), by decide +kernel⟩, List.mem_filter.mpr ⟨List.mem_of_getElem? (i := 554) (by decide +kernel), by decide +kernel⟩, List.mem_filter.mpr ⟨List.mem_of_getElem? (i := 555) (by decide +kernel), by decide +kernel⟩, wn_X5, List.mem_filter.mpr ⟨List.mem_of_getElem? (i := 556) (by decide +kernel), by decide +kernel⟩, by decide +kernel, by decide⟩
theorem lk_X2_57 : LkS RX2 57 yX2_kindOfSign cX2_kindOfSign 1 (some .int) 1 := ⟨List.mem_filter.mpr ⟨List.mem_of_getElem? (i := 646) (by decide +kernel), by decide +kernel⟩, List.mem_filter.mpr ⟨List.mem_of_getElem? (i := 647) (by decide +kernel), by decide +kernel⟩, wn_X2, List.mem_filter.mpr ⟨List.mem_of_getElem? (i := 648) (by decide +kernel), by decide +kernel⟩, by decide +kernel, by decide⟩
theorem lk_X2_60 : LkV RX2 60 yX2_addToken cX2_addToken 4 none 3 := ⟨List.mem_filter.mpr ⟨List.mem_of_getElem? (i := 629) (by decide +kernel), by decide +kernel⟩, List.mem_filter.mpr ⟨List.mem_of_getElem? (i := 631) (by decide +kernel), by decide +kernel⟩, List.mem_filter.mpr ⟨List.mem_of_getElem? (i := 14) (by decide +kernel), by decide +kernel⟩, wn_X2, List.mem_filter.mpr ⟨List.mem_of_getElem? (i := 632) (by decide +kernel), by decide +kernel⟩, by decide +kernel, by decide⟩
theorem lk_X2_64 : LkS RX2 64 yJ9_max_7cf53 cJ9_max_7cf53 2 (some .int) 2 := ⟨List.mem_filter.mpr ⟨List.mem_of_getElem? (i := 649) (by decide +kernel), by decide +kernel⟩, List.mem_filter.mpr ⟨List.mem_of_getElem? (i := 441) (by decide +kernel), by decide +kernel⟩, wn_J9, List.mem_filter.mpr ⟨List.mem_of_getElem? (i := 442) (by decide +kernel), by decide +kernel⟩, by decide +kernel, by decide⟩
theorem lk_X2_70 : LkS RX2 70 yX2_factNamed cX2_factNamed 3 (some .int) 3 := ⟨List.mem_filter.mpr ⟨List.mem_of_getElem? (i := 561) (by decide +kernel), by decide +kernel⟩, List.mem_filter.mpr ⟨List.mem_of_getElem? (i := 562) (by decide +kernel), by decide +kernel⟩, wn_X2, List.mem_filter.mpr ⟨List.mem_of_getElem? (i := 563) (by decide +kernel), by decide +kernel⟩, by decide +kernel, by decide⟩
theorem lk_X2_74 : LkS RX2 74 yX2_kindOfWord cX2_kindOfWord 3 (some .int) 3 := ⟨List.mem_filter.mpr ⟨List.mem_of_getElem? (i := 622) (by decide +kernel), by decide +kernel⟩, List.mem_filter.mpr ⟨List.mem_of_getElem? (i := 623) (by decide +kernel), by decide +kernel⟩, wn_X2, List.mem_filter.mpr ⟨List.mem_of_getElem? (i := 624) (by decide +kernel), by decide +kernel⟩, by decide +kernel, by decide⟩
theorem lk_X2_79 : LkV RX2 79 yX5_hasWord cX5_hasWord 5 (some .boolean) 3 := ⟨List.mem_filter.mpr ⟨List.mem_of_getElem? (i := 565) (by decide +kernel), by decide +kernel⟩, List.mem_filter.mpr ⟨List.mem_of_getElem? (i := 566) (by decide +kernel), by decide +kernel⟩, List.mem_filter.mpr ⟨List.mem_of_getElem? (i := 567) (by decide +kernel), by decide +kernel⟩, wn_X5, List.mem_filter.mpr ⟨List.mem_of_getElem? (i := 568) (by decide +kernel), by decide +kernel⟩, by decide +kernel, by decide⟩
theorem wo_X3_3 : Cond.methodLink RX3 3 Lib.objectInit ∈ WS := List.mem_filter.mpr ⟨List.mem_of_getElem? (i := 338) (by decide +kernel), by decide +kernel⟩
theorem lk_X3_53 : LkV RX3 53 yX4_doorX cX4_doorX 1 (some .int) 0 := ⟨List.mem_filter.mpr ⟨List.mem_of_getElem? (i := 710) (by decide +kernel), by decide +kernel⟩, List.mem_filter.mpr ⟨List.mem_of_getElem? (i := 288) (by decide +kernel), by decide +kernel⟩, List.mem_filter.mpr ⟨List.mem_of_getElem? (i := 289) (by decide +kernel), by decide +kernel⟩, wn_X4, List.mem_filter.mpr ⟨List.mem_of_getElem? (i := 290) (by decide +kernel), by decide +kernel⟩, by decide +kernel, by decide⟩
theorem lk_X3_57 : LkV RX3 57 yX4_place cX4_place 1 (some .int) 0 := ⟨List.mem_filter.mpr ⟨List.mem_of_getElem? (i := 501) (by decide +kernel), by decide +kernel⟩, List.mem_filter.mpr ⟨List.mem_of_getElem? (i := 502) (by decide +kernel), by decide +kernel⟩, List.mem_filter.mpr ⟨List.mem_of_getElem? (i := 503) (by decide +kernel), by decide +kernel⟩, wn_X4, List.mem_filter.mpr ⟨List.mem_of_getElem? (i := 504) (by decide +kernel), by decide +kernel⟩, by decide +kernel, by decide⟩
theorem lk_X4_28 : LkV RX4 28 yX4_put cX4_put 6 none 5 := ⟨List.mem_filter.mpr ⟨List.mem_of_getElem? (i := 476) (by decide +kernel), by decide +kernel⟩, List.mem_filter.mpr ⟨List.mem_of_getElem? (i := 399) (by decide +kernel), by decide +kernel⟩, List.mem_filter.mpr ⟨List.mem_of_getElem? (i := 400) (by decide +kernel), by decide +kernel⟩, wn_X4, List.mem_filter.mpr ⟨List.mem_of_getElem? (i := 401) (by decide +kernel), by decide +kernel⟩, by decide +kernel, by decide⟩
theorem wo_X4_3 : Cond.methodLink RX4 3 Lib.objectInit ∈ WS := List.mem_filter.mpr ⟨List.mem_of_getElem? (i := 136) (by decide +kernel), by decide +kernel⟩
theorem lk_X4_32 : LkV RX4 32 yX4_doorX cX4_doorX 1 (some .int) 0 := ⟨List.mem_filter.mpr ⟨List.mem_of_getElem? (i := 430) (by decide +kernel), by decide +kernel⟩, List.mem_filter.mpr ⟨List.mem_of_getElem? (i := 288) (by decide +kernel), by decide +kernel⟩, List.mem_filter.mpr ⟨List.mem_of_getElem? (i := 289) (by decide +kernel), by decide +kernel⟩, wn_X4, List.mem_filter.mpr ⟨List.mem_of_getElem? (i := 290) (by decide +kernel), by decide +kernel⟩, by decide +kernel, by decide⟩
theorem lk_X4_36 : LkV RX4 36 yX4_doorY cX4_doorY 1 (some .int) 0 := ⟨List.mem_filter.mpr ⟨List.mem_of_getElem? (i := 431) (by decide +kernel), by decide +kernel⟩, List.mem_filter.mpr ⟨List.mem_of_getElem? (i := 292) (by decide +kernel), by decide +kernel⟩, List.mem_filter.mpr ⟨List.mem_of_getElem? (i := 293) (by decide +kernel), by decide +kernel⟩, wn_X4, List.mem_filter.mpr ⟨List.mem_of_getElem? (i := 294) (by decide +kernel), by decide +kernel⟩, by decide +kernel, by decide⟩
theorem lk_X4_39 : LkV RX4 39 yX4_covers cX4_covers 3 (some .boolean) 2 := ⟨List.mem_filter.mpr ⟨List.mem_of_getElem? (i := 432) (by decide +kernel), by decide +kernel⟩, List.mem_filter.mpr ⟨List.mem_of_getElem? (i := 415) (by decide +kernel), by decide +kernel⟩, List.mem_filter.mpr ⟨List.mem_of_getElem? (i := 416) (by decide +kernel), by decide +kernel⟩, wn_X4, List.mem_filter.mpr ⟨List.mem_of_getElem? (i := 417) (by decide +kernel), by decide +kernel⟩, by decide +kernel, by decide⟩
theorem lk_X4_43 : LkS RX4 43 yX4_gap cX4_gap 4 (some .int) 4 := ⟨List.mem_filter.mpr ⟨List.mem_of_getElem? (i := 437) (by decide +kernel), by decide +kernel⟩, List.mem_filter.mpr ⟨List.mem_of_getElem? (i := 438) (by decide +kernel), by decide +kernel⟩, wn_X4, List.mem_filter.mpr ⟨List.mem_of_getElem? (i := 439) (by decide +kernel), by decide +kernel⟩, by decide +kernel, by decide⟩
theorem lk_X4_47 : LkS RX4 47 yJ9_max_7cf53 cJ9_max_7cf53 2 (some .int) 2 := ⟨List.mem_filter.mpr ⟨List.mem_of_getElem? (i := 440) (by decide +kernel), by decide +kernel⟩, List.mem_filter.mpr ⟨List.mem_of_getElem? (i := 441) (by decide +kernel), by decide +kernel⟩, wn_J9, List.mem_filter.mpr ⟨List.mem_of_getElem? (i := 442) (by decide +kernel), by decide +kernel⟩, by decide +kernel, by decide⟩
theorem lk_X5_25 : LkV RX5 25 yX5_signAt cX5_signAt 2 (some .int) 1 := ⟨List.mem_filter.mpr ⟨List.mem_of_getElem? (i := 553) (by decide +kernel), by decide +kernel⟩, List.mem_filter.mpr ⟨List.mem_of_getElem? (i := 554) (by decide +kernel), by decide +kernel⟩, List.mem_filter.mpr ⟨List.mem_of_getElem? (i := 555) (by decide +kernel), by decide +kernel⟩, wn_X5, List.mem_filter.mpr ⟨List.mem_of_getElem? (i := 556) (by decide +kernel), by decide +kernel⟩, by decide +kernel, by decide⟩
theorem lk_X5_29 : LkV RX5 29 yJ0_length_8abf5 cJ0_length_8abf5 1 (some .int) 0 := ⟨List.mem_filter.mpr ⟨List.mem_of_getElem? (i := 569) (by decide +kernel), by decide +kernel⟩, List.mem_filter.mpr ⟨List.mem_of_getElem? (i := 570) (by decide +kernel), by decide +kernel⟩, List.mem_filter.mpr ⟨List.mem_of_getElem? (i := 571) (by decide +kernel), by decide +kernel⟩, wn_J0, List.mem_filter.mpr ⟨List.mem_of_getElem? (i := 572) (by decide +kernel), by decide +kernel⟩, by decide +kernel, by decide⟩
theorem wo_X5_3 : Cond.methodLink RX5 3 Lib.objectInit ∈ WS := List.mem_filter.mpr ⟨List.mem_of_getElem? (i := 162) (by decide +kernel), by decide +kernel⟩
theorem lk_X5_34 : LkV RX5 34 yJ0_charAt_5068e cJ0_charAt_5068e 2 (some .char) 1 := ⟨List.mem_filter.mpr ⟨List.mem_of_getElem? (i := 579) (by decide +kernel), by decide +kernel⟩, List.mem_filter.mpr ⟨List.mem_of_getElem? (i := 580) (by decide +kernel), by decide +kernel⟩, List.mem_filter.mpr ⟨List.mem_of_getElem? (i := 581) (by decide +kernel), by decide +kernel⟩, wn_J0, List.mem_filter.mpr ⟨List.mem_of_getElem? (i := 582) (by decide +kernel), by decide +kernel⟩, by decide +kernel, by decide⟩
theorem wo_X6_1 : Cond.methodLink RX6 1 Lib.objectInit ∈ WS := List.mem_filter.mpr ⟨List.mem_of_getElem? (i := 99) (by decide +kernel), by decide +kernel⟩
theorem lk_X6_102 : LkS RX6 102 yX6_isSize cX6_isSize 2 (some .boolean) 2 := ⟨List.mem_filter.mpr ⟨List.mem_of_getElem? (i := 328) (by decide +kernel), by decide +kernel⟩, List.mem_filter.mpr ⟨List.mem_of_getElem? (i := 329) (by decide +kernel), by decide +kernel⟩, wn_X6, List.mem_filter.mpr ⟨List.mem_of_getElem? (i := 330) (by decide +kernel), by decide +kernel⟩, by decide +kernel, by decide⟩
theorem lk_X6_105 : LkS RX6 105 yX6_isWithin cX6_isWithin 3 (some .boolean) 3 := ⟨List.mem_filter.mpr ⟨List.mem_of_getElem? (i := 331) (by decide +kernel), by decide +kernel⟩, List.mem_filter.mpr ⟨List.mem_of_getElem? (i := 332) (by decide +kernel), by decide +kernel⟩, wn_X6, List.mem_filter.mpr ⟨List.mem_of_getElem? (i := 333) (by decide +kernel), by decide +kernel⟩, by decide +kernel, by decide⟩
theorem lk_X6_109 : LkI RX6 109 yX3_init cX3_init 7 none 6 := ⟨List.mem_filter.mpr ⟨List.mem_of_getElem? (i := 335) (by decide +kernel), by decide +kernel⟩, List.mem_filter.mpr ⟨List.mem_of_getElem? (i := 336) (by decide +kernel), by decide +kernel⟩, wn_X3, List.mem_filter.mpr ⟨List.mem_of_getElem? (i := 337) (by decide +kernel), by decide +kernel⟩, by decide +kernel, by decide +kernel, by decide⟩
theorem lk_X6_118 : LkV RX6 118 yX6_find cX6_find 2 (some (.object "FairGround$Ride")) 1 := ⟨List.mem_filter.mpr ⟨List.mem_of_getElem? (i := 394) (by decide +kernel), by decide +kernel⟩, List.mem_filter.mpr ⟨List.mem_of_getElem? (i := 396) (by decide +kernel), by decide +kernel⟩, List.mem_filter.mpr ⟨List.mem_of_getElem? (i := 4) (by decide +kernel), by decide +kernel⟩, wn_X6, List.mem_filter.mpr ⟨List.mem_of_getElem? (i := 397) (by decide +kernel), by decide +kernel⟩, by decide +kernel, by decide⟩
theorem lk_X6_132 : LkV RX6 132 yX4_put cX4_put 6 none 5 := ⟨List.mem_filter.mpr ⟨List.mem_of_getElem? (i := 398) (by decide +kernel), by decide +kernel⟩, List.mem_filter.mpr ⟨List.mem_of_getElem? (i := 399) (by decide +kernel), by decide +kernel⟩, List.mem_filter.mpr ⟨List.mem_of_getElem? (i := 400) (by decide +kernel), by decide +kernel⟩, wn_X4, List.mem_filter.mpr ⟨List.mem_of_getElem? (i := 401) (by decide +kernel), by decide +kernel⟩, by decide +kernel, by decide⟩
theorem lk_X6_135 : LkV RX6 135 yX6_canLie cX6_canLie 4 (some .boolean) 2 := ⟨List.mem_filter.mpr ⟨List.mem_of_getElem? (i := 402) (by decide +kernel), by decide +kernel⟩, List.mem_filter.mpr ⟨List.mem_of_getElem? (i := 404) (by decide +kernel), by decide +kernel⟩, List.mem_filter.mpr ⟨List.mem_of_getElem? (i := 5) (by decide +kernel), by decide +kernel⟩, wn_X6, List.mem_filter.mpr ⟨List.mem_of_getElem? (i := 405) (by decide +kernel), by decide +kernel⟩, by decide +kernel, by decide⟩
theorem lk_X6_139 : LkV RX6 139 yX6_layIfItFits cX6_layIfItFits 2 (some .boolean) 1 := ⟨List.mem_filter.mpr ⟨List.mem_of_getElem? (i := 452) (by decide +kernel), by decide +kernel⟩, List.mem_filter.mpr ⟨List.mem_of_getElem? (i := 454) (by decide +kernel), by decide +kernel⟩, List.mem_filter.mpr ⟨List.mem_of_getElem? (i := 8) (by decide +kernel), by decide +kernel⟩, wn_X6, List.mem_filter.mpr ⟨List.mem_of_getElem? (i := 455) (by decide +kernel), by decide +kernel⟩, by decide +kernel, by decide⟩
theorem lk_X6_143 : LkV RX6 143 yX6_takeAway cX6_takeAway 2 none 1 := ⟨List.mem_filter.mpr ⟨List.mem_of_getElem? (i := 464) (by decide +kernel), by decide +kernel⟩, List.mem_filter.mpr ⟨List.mem_of_getElem? (i := 466) (by decide +kernel), by decide +kernel⟩, List.mem_filter.mpr ⟨List.mem_of_getElem? (i := 9) (by decide +kernel), by decide +kernel⟩, wn_X6, List.mem_filter.mpr ⟨List.mem_of_getElem? (i := 467) (by decide +kernel), by decide +kernel⟩, by decide +kernel, by decide⟩
theorem lk_X6_150 : LkV RX6 150 yX4_putAtPlace cX4_putAtPlace 5 none 3 := ⟨List.mem_filter.mpr ⟨List.mem_of_getElem? (i := 472) (by decide +kernel), by decide +kernel⟩, List.mem_filter.mpr ⟨List.mem_of_getElem? (i := 473) (by decide +kernel), by decide +kernel⟩, List.mem_filter.mpr ⟨List.mem_of_getElem? (i := 474) (by decide +kernel), by decide +kernel⟩, wn_X4, List.mem_filter.mpr ⟨List.mem_of_getElem? (i := 475) (by decide +kernel), by decide +kernel⟩, by decide +kernel, by decide⟩
theorem lk_X6_153 : LkV RX6 153 yX6_layAtFirstPlace cX6_layAtFirstPlace 3 none 1 := ⟨List.mem_filter.mpr ⟨List.mem_of_getElem? (i := 477) (by decide +kernel), by decide +kernel⟩, List.mem_filter.mpr ⟨List.mem_of_getElem? (i := 479) (by decide +kernel), by decide +kernel⟩, List.mem_filter.mpr ⟨List.mem_of_getElem? (i := 10) (by decide +kernel), by decide +kernel⟩, wn_X6, List.mem_filter.mpr ⟨List.mem_of_getElem? (i := 480) (by decide +kernel), by decide +kernel⟩, by decide +kernel, by decide⟩
theorem lk_X6_159 : LkV RX6 159 yX3_holdOneYearMore cX3_holdOneYearMore 1 none 0 := ⟨List.mem_filter.mpr ⟨List.mem_of_getElem? (i := 497) (by decide +kernel), by decide +kernel⟩, List.mem_filter.mpr ⟨List.mem_of_getElem? (i := 498) (by decide +kernel), by decide +kernel⟩, List.mem_filter.mpr ⟨List.mem_of_getElem? (i := 499) (by decide +kernel), by decide +kernel⟩, wn_X3, List.mem_filter.mpr ⟨List.mem_of_getElem? (i := 500) (by decide +kernel), by decide +kernel⟩, by decide +kernel, by decide⟩
theorem lk_X6_165 : LkV RX6 165 yX6_keepsRight cX6_keepsRight 2 (some .boolean) 1 := ⟨List.mem_filter.mpr ⟨List.mem_of_getElem? (i := 505) (by decide +kernel), by decide +kernel⟩, List.mem_filter.mpr ⟨List.mem_of_getElem? (i := 507) (by decide +kernel), by decide +kernel⟩, List.mem_filter.mpr ⟨List.mem_of_getElem? (i := 11) (by decide +kernel), by decide +kernel⟩, wn_X6, List.mem_filter.mpr ⟨List.mem_of_getElem? (i := 508) (by decide +kernel), by decide +kernel⟩, by decide +kernel, by decide⟩
theorem lk_X6_168 : LkV RX6 168 yX3_loseRight cX3_loseRight 1 none 0 := ⟨List.mem_filter.mpr ⟨List.mem_of_getElem? (i := 527) (by decide +kernel), by decide +kernel⟩, List.mem_filter.mpr ⟨List.mem_of_getElem? (i := 528) (by decide +kernel), by decide +kernel⟩, List.mem_filter.mpr ⟨List.mem_of_getElem? (i := 529) (by decide +kernel), by decide +kernel⟩, wn_X3, List.mem_filter.mpr ⟨List.mem_of_getElem? (i := 530) (by decide +kernel), by decide +kernel⟩, by decide +kernel, by decide⟩
theorem lk_X6_171 : LkV RX6 171 yX5_addBytes cX5_addBytes 5 none 1 := ⟨List.mem_filter.mpr ⟨List.mem_of_getElem? (i := 535) (by decide +kernel), by decide +kernel⟩, List.mem_filter.mpr ⟨List.mem_of_getElem? (i := 536) (by decide +kernel), by decide +kernel⟩, List.mem_filter.mpr ⟨List.mem_of_getElem? (i := 537) (by decide +kernel), by decide +kernel⟩, wn_X5, List.mem_filter.mpr ⟨List.mem_of_getElem? (i := 538) (by decide +kernel), by decide +kernel⟩, by decide +kernel, by decide⟩
theorem lk_X6_178 : LkV RX6 178 yX2_scan cX2_scan 4 none 1 := ⟨List.mem_filter.mpr ⟨List.mem_of_getElem? (i := 545) (by decide +kernel), by decide +kernel⟩, List.mem_filter.mpr ⟨List.mem_of_getElem? (i := 546) (by decide +kernel), by decide +kernel⟩, List.mem_filter.mpr ⟨List.mem_of_getElem? (i := 547) (by decide +kernel), by decide +kernel⟩, wn_X2, List.mem_filter.mpr ⟨List.mem_of_getElem? (i := 548) (by decide +kernel), by decide +kernel⟩, by decide +kernel, by decide⟩
theorem lk_X6_182 : LkV RX6 182 yX5_wipe cX5_wipe 1 none 0 := ⟨List.mem_filter.mpr ⟨List.mem_of_getElem? (i := 650) (by decide +kernel), by decide +kernel⟩, List.mem_filter.mpr ⟨List.mem_of_getElem? (i := 651) (by decide +kernel), by decide +kernel⟩, List.mem_filter.mpr ⟨List.mem_of_getElem? (i := 652) (by decide +kernel), by decide +kernel⟩, wn_X5, List.mem_filter.mpr ⟨List.mem_of_getElem? (i := 653) (by decide +kernel), by decide +kernel⟩, by decide +kernel, by decide⟩
theorem lk_X6_185 : LkV RX6 185 yX2_read cX2_read 3 (some .int) 1 := ⟨List.mem_filter.mpr ⟨List.mem_of_getElem? (i := 654) (by decide +kernel), by decide +kernel⟩, List.mem_filter.mpr ⟨List.mem_of_getElem? (i := 655) (by decide +kernel), by decide +kernel⟩, List.mem_filter.mpr ⟨List.mem_of_getElem? (i := 656) (by decide +kernel), by decide +kernel⟩, wn_X2, List.mem_filter.mpr ⟨List.mem_of_getElem? (i := 657) (by decide +kernel), by decide +kernel⟩, by decide +kernel, by decide⟩
theorem lk_X6_189 : LkV RX6 189 yX3_powerLine cX3_powerLine 1 (some .int) 0 := ⟨List.mem_filter.mpr ⟨List.mem_of_getElem? (i := 706) (by decide +kernel), by decide +kernel⟩, List.mem_filter.mpr ⟨List.mem_of_getElem? (i := 707) (by decide +kernel), by decide +kernel⟩, List.mem_filter.mpr ⟨List.mem_of_getElem? (i := 708) (by decide +kernel), by decide +kernel⟩, wn_X3, List.mem_filter.mpr ⟨List.mem_of_getElem? (i := 709) (by decide +kernel), by decide +kernel⟩, by decide +kernel, by decide⟩
theorem lk_X6_192 : LkV RX6 192 yX6_powerWanted cX6_powerWanted 4 (some .int) 1 := ⟨List.mem_filter.mpr ⟨List.mem_of_getElem? (i := 711) (by decide +kernel), by decide +kernel⟩, List.mem_filter.mpr ⟨List.mem_of_getElem? (i := 713) (by decide +kernel), by decide +kernel⟩, List.mem_filter.mpr ⟨List.mem_of_getElem? (i := 23) (by decide +kernel), by decide +kernel⟩, wn_X6, List.mem_filter.mpr ⟨List.mem_of_getElem? (i := 714) (by decide +kernel), by decide +kernel⟩, by decide +kernel, by decide⟩
theorem lk_X6_199 : LkV RX6 199 yX6_allRents cX6_allRents 3 (some .int) 0 := ⟨List.mem_filter.mpr ⟨List.mem_of_getElem? (i := 727) (by decide +kernel), by decide +kernel⟩, List.mem_filter.mpr ⟨List.mem_of_getElem? (i := 729) (by decide +kernel), by decide +kernel⟩, List.mem_filter.mpr ⟨List.mem_of_getElem? (i := 24) (by decide +kernel), by decide +kernel⟩, wn_X6, List.mem_filter.mpr ⟨List.mem_of_getElem? (i := 730) (by decide +kernel), by decide +kernel⟩, by decide +kernel, by decide⟩
theorem lk_X6_202 : LkV RX6 202 yX6_couldGrowTo cX6_couldGrowTo 3 (some .boolean) 2 := ⟨List.mem_filter.mpr ⟨List.mem_of_getElem? (i := 735) (by decide +kernel), by decide +kernel⟩, List.mem_filter.mpr ⟨List.mem_of_getElem? (i := 737) (by decide +kernel), by decide +kernel⟩, List.mem_filter.mpr ⟨List.mem_of_getElem? (i := 25) (by decide +kernel), by decide +kernel⟩, wn_X6, List.mem_filter.mpr ⟨List.mem_of_getElem? (i := 738) (by decide +kernel), by decide +kernel⟩, by decide +kernel, by decide⟩
theorem lk_X6_205 : LkV RX6 205 yX6_movedBy cX6_movedBy 6 (some .int) 2 := ⟨List.mem_filter.mpr ⟨List.mem_of_getElem? (i := 743) (by decide +kernel), by decide +kernel⟩, List.mem_filter.mpr ⟨List.mem_of_getElem? (i := 745) (by decide +kernel), by decide +kernel⟩, List.mem_filter.mpr ⟨List.mem_of_getElem? (i := 26) (by decide +kernel), by decide +kernel⟩, wn_X6, List.mem_filter.mpr ⟨List.mem_of_getElem? (i := 746) (by decide +kernel), by decide +kernel⟩, by decide +kernel, by decide⟩
theorem lk_X6_209 : LkS RX6 209 yJ6_bitCount_0f7a4 cJ6_bitCount_0f7a4 1 (some .int) 1 := ⟨List.mem_filter.mpr ⟨List.mem_of_getElem? (i := 747) (by decide +kernel), by decide +kernel⟩, List.mem_filter.mpr ⟨List.mem_of_getElem? (i := 748) (by decide +kernel), by decide +kernel⟩, wn_J6, List.mem_filter.mpr ⟨List.mem_of_getElem? (i := 749) (by decide +kernel), by decide +kernel⟩, by decide +kernel, by decide⟩
theorem lk_X6_224 : LkV RX6 224 yX4_place cX4_place 1 (some .int) 0 := ⟨List.mem_filter.mpr ⟨List.mem_of_getElem? (i := 842) (by decide +kernel), by decide +kernel⟩, List.mem_filter.mpr ⟨List.mem_of_getElem? (i := 502) (by decide +kernel), by decide +kernel⟩, List.mem_filter.mpr ⟨List.mem_of_getElem? (i := 503) (by decide +kernel), by decide +kernel⟩, wn_X4, List.mem_filter.mpr ⟨List.mem_of_getElem? (i := 504) (by decide +kernel), by decide +kernel⟩, by decide +kernel, by decide⟩
theorem lk_X6_227 : LkV RX6 227 yX4_doorY cX4_doorY 1 (some .int) 0 := ⟨List.mem_filter.mpr ⟨List.mem_of_getElem? (i := 291) (by decide +kernel), by decide +kernel⟩, List.mem_filter.mpr ⟨List.mem_of_getElem? (i := 292) (by decide +kernel), by decide +kernel⟩, List.mem_filter.mpr ⟨List.mem_of_getElem? (i := 293) (by decide +kernel), by decide +kernel⟩, wn_X4, List.mem_filter.mpr ⟨List.mem_of_getElem? (i := 294) (by decide +kernel), by decide +kernel⟩, by decide +kernel, by decide⟩
theorem lk_X6_230 : LkV RX6 230 yX4_doorX cX4_doorX 1 (some .int) 0 := ⟨List.mem_filter.mpr ⟨List.mem_of_getElem? (i := 287) (by decide +kernel), by decide +kernel⟩, List.mem_filter.mpr ⟨List.mem_of_getElem? (i := 288) (by decide +kernel), by decide +kernel⟩, List.mem_filter.mpr ⟨List.mem_of_getElem? (i := 289) (by decide +kernel), by decide +kernel⟩, wn_X4, List.mem_filter.mpr ⟨List.mem_of_getElem? (i := 290) (by decide +kernel), by decide +kernel⟩, by decide +kernel, by decide⟩
theorem lk_X6_238 : LkV RX6 238 yX0_countFree cX0_countFree 6 (some .int) 0 := ⟨List.mem_filter.mpr ⟨List.mem_of_getElem? (i := 761) (by decide +kernel), by decide +kernel⟩, List.mem_filter.mpr ⟨List.mem_of_getElem? (i := 762) (by decide +kernel), by decide +kernel⟩, List.mem_filter.mpr ⟨List.mem_of_getElem? (i := 763) (by decide +kernel), by decide +kernel⟩, wn_X0, List.mem_filter.mpr ⟨List.mem_of_getElem? (i := 764) (by decide +kernel), by decide +kernel⟩, by decide +kernel, by decide⟩
theorem lk_X6_241 : LkV RX6 241 yX6_countRights cX6_countRights 3 (some .int) 0 := ⟨List.mem_filter.mpr ⟨List.mem_of_getElem? (i := 765) (by decide +kernel), by decide +kernel⟩, List.mem_filter.mpr ⟨List.mem_of_getElem? (i := 767) (by decide +kernel), by decide +kernel⟩, List.mem_filter.mpr ⟨List.mem_of_getElem? (i := 27) (by decide +kernel), by decide +kernel⟩, wn_X6, List.mem_filter.mpr ⟨List.mem_of_getElem? (i := 768) (by decide +kernel), by decide +kernel⟩, by decide +kernel, by decide⟩
theorem lk_X6_247 : LkV RX6 247 yX0_spreadFromGate cX0_spreadFromGate 4 none 0 := ⟨List.mem_filter.mpr ⟨List.mem_of_getElem? (i := 303) (by decide +kernel), by decide +kernel⟩, List.mem_filter.mpr ⟨List.mem_of_getElem? (i := 304) (by decide +kernel), by decide +kernel⟩, List.mem_filter.mpr ⟨List.mem_of_getElem? (i := 305) (by decide +kernel), by decide +kernel⟩, wn_X0, List.mem_filter.mpr ⟨List.mem_of_getElem? (i := 306) (by decide +kernel), by decide +kernel⟩, by decide +kernel, by decide⟩
theorem lk_X6_250 : LkV RX6 250 yX0_isReached cX0_isReached 3 (some .boolean) 2 := ⟨List.mem_filter.mpr ⟨List.mem_of_getElem? (i := 312) (by decide +kernel), by decide +kernel⟩, List.mem_filter.mpr ⟨List.mem_of_getElem? (i := 313) (by decide +kernel), by decide +kernel⟩, List.mem_filter.mpr ⟨List.mem_of_getElem? (i := 314) (by decide +kernel), by decide +kernel⟩, wn_X0, List.mem_filter.mpr ⟨List.mem_of_getElem? (i := 315) (by decide +kernel), by decide +kernel⟩, by decide +kernel, by decide⟩
theorem lk_X6_253 : LkV RX6 253 yX6_isClear cX6_isClear 2 (some .boolean) 1 := ⟨List.mem_filter.mpr ⟨List.mem_of_getElem? (i := 406) (by decide +kernel), by decide +kernel⟩, List.mem_filter.mpr ⟨List.mem_of_getElem? (i := 408) (by decide +kernel), by decide +kernel⟩, List.mem_filter.mpr ⟨List.mem_of_getElem? (i := 6) (by decide +kernel), by decide +kernel⟩, wn_X6, List.mem_filter.mpr ⟨List.mem_of_getElem? (i := 409) (by decide +kernel), by decide +kernel⟩, by decide +kernel, by decide⟩
theorem lk_X6_257 : LkV RX6 257 yX6_isClearOfOthers cX6_isClearOfOthers 6 (some .boolean) 2 := ⟨List.mem_filter.mpr ⟨List.mem_of_getElem? (i := 422) (by decide +kernel), by decide +kernel⟩, List.mem_filter.mpr ⟨List.mem_of_getElem? (i := 424) (by decide +kernel), by decide +kernel⟩, List.mem_filter.mpr ⟨List.mem_of_getElem? (i := 7) (by decide +kernel), by decide +kernel⟩, wn_X6, List.mem_filter.mpr ⟨List.mem_of_getElem? (i := 425) (by decide +kernel), by decide +kernel⟩, by decide +kernel, by decide⟩
theorem lk_X6_260 : LkV RX6 260 yX0_cover cX0_cover 5 none 2 := ⟨List.mem_filter.mpr ⟨List.mem_of_getElem? (i := 443) (by decide +kernel), by decide +kernel⟩, List.mem_filter.mpr ⟨List.mem_of_getElem? (i := 444) (by decide +kernel), by decide +kernel⟩, List.mem_filter.mpr ⟨List.mem_of_getElem? (i := 445) (by decide +kernel), by decide +kernel⟩, wn_X0, List.mem_filter.mpr ⟨List.mem_of_getElem? (i := 446) (by decide +kernel), by decide +kernel⟩, by decide +kernel, by decide⟩
theorem lk_X6_264 : LkV RX6 264 yX4_isOnGreen cX4_isOnGreen 1 (some .boolean) 0 := ⟨List.mem_filter.mpr ⟨List.mem_of_getElem? (i := 410) (by decide +kernel), by decide +kernel⟩, List.mem_filter.mpr ⟨List.mem_of_getElem? (i := 411) (by decide +kernel), by decide +kernel⟩, List.mem_filter.mpr ⟨List.mem_of_getElem? (i := 412) (by decide +kernel), by decide +kernel⟩, wn_X4, List.mem_filter.mpr ⟨List.mem_of_getElem? (i := 413) (by decide +kernel), by decide +kernel⟩, by decide +kernel, by decide⟩
theorem lk_X6_267 : LkV RX6 267 yX4_covers cX4_covers 3 (some .boolean) 2 := ⟨List.mem_filter.mpr ⟨List.mem_of_getElem? (i := 414) (by decide +kernel), by decide +kernel⟩, List.mem_filter.mpr ⟨List.mem_of_getElem? (i := 415) (by decide +kernel), by decide +kernel⟩, List.mem_filter.mpr ⟨List.mem_of_getElem? (i := 416) (by decide +kernel), by decide +kernel⟩, wn_X4, List.mem_filter.mpr ⟨List.mem_of_getElem? (i := 417) (by decide +kernel), by decide +kernel⟩, by decide +kernel, by decide⟩
theorem lk_X6_270 : LkV RX6 270 yX0_isOpen cX0_isOpen 6 (some .boolean) 2 := ⟨List.mem_filter.mpr ⟨List.mem_of_getElem? (i := 418) (by decide +kernel), by decide +kernel⟩, List.mem_filter.mpr ⟨List.mem_of_getElem? (i := 419) (by decide +kernel), by decide +kernel⟩, List.mem_filter.mpr ⟨List.mem_of_getElem? (i := 420) (by decide +kernel), by decide +kernel⟩, wn_X0, List.mem_filter.mpr ⟨List.mem_of_getElem? (i := 421) (by decide +kernel), by decide +kernel⟩, by decide +kernel, by decide⟩
theorem lk_X6_277 : LkV RX6 277 yX4_coversDoorOf cX4_coversDoorOf 2 (some .boolean) 1 := ⟨List.mem_filter.mpr ⟨List.mem_of_getElem? (i := 426) (by decide +kernel), by decide +kernel⟩, List.mem_filter.mpr ⟨List.mem_of_getElem? (i := 427) (by decide +kernel), by decide +kernel⟩, List.mem_filter.mpr ⟨List.mem_of_getElem? (i := 428) (by decide +kernel), by decide +kernel⟩, wn_X4, List.mem_filter.mpr ⟨List.mem_of_getElem? (i := 429) (by decide +kernel), by decide +kernel⟩, by decide +kernel, by decide⟩
theorem lk_X6_280 : LkV RX6 280 yX4_isApartFrom cX4_isApartFrom 2 (some .boolean) 1 := ⟨List.mem_filter.mpr ⟨List.mem_of_getElem? (i := 433) (by decide +kernel), by decide +kernel⟩, List.mem_filter.mpr ⟨List.mem_of_getElem? (i := 434) (by decide +kernel), by decide +kernel⟩, List.mem_filter.mpr ⟨List.mem_of_getElem? (i := 435) (by decide +kernel), by decide +kernel⟩, wn_X4, List.mem_filter.mpr ⟨List.mem_of_getElem? (i := 436) (by decide +kernel), by decide +kernel⟩, by decide +kernel, by decide⟩
theorem lk_X6_283 : LkV RX6 283 yX4_putLike cX4_putLike 2 none 1 := ⟨List.mem_filter.mpr ⟨List.mem_of_getElem? (i := 456) (by decide +kernel), by decide +kernel⟩, List.mem_filter.mpr ⟨List.mem_of_getElem? (i := 457) (by decide +kernel), by decide +kernel⟩, List.mem_filter.mpr ⟨List.mem_of_getElem? (i := 458) (by decide +kernel), by decide +kernel⟩, wn_X4, List.mem_filter.mpr ⟨List.mem_of_getElem? (i := 459) (by decide +kernel), by decide +kernel⟩, by decide +kernel, by decide⟩
theorem lk_X6_287 : LkV RX6 287 yX3_area cX3_area 1 (some .int) 0 := ⟨List.mem_filter.mpr ⟨List.mem_of_getElem? (i := 509) (by decide +kernel), by decide +kernel⟩, List.mem_filter.mpr ⟨List.mem_of_getElem? (i := 510) (by decide +kernel), by decide +kernel⟩, List.mem_filter.mpr ⟨List.mem_of_getElem? (i := 511) (by decide +kernel), by decide +kernel⟩, wn_X3, List.mem_filter.mpr ⟨List.mem_of_getElem? (i := 512) (by decide +kernel), by decide +kernel⟩, by decide +kernel, by decide⟩
theorem lk_X6_290 : LkV RX6 290 yX1_isKept cX1_isKept 4 (some .boolean) 1 := ⟨List.mem_filter.mpr ⟨List.mem_of_getElem? (i := 513) (by decide +kernel), by decide +kernel⟩, List.mem_filter.mpr ⟨List.mem_of_getElem? (i := 514) (by decide +kernel), by decide +kernel⟩, List.mem_filter.mpr ⟨List.mem_of_getElem? (i := 515) (by decide +kernel), by decide +kernel⟩, wn_X1, List.mem_filter.mpr ⟨List.mem_of_getElem? (i := 516) (by decide +kernel), by decide +kernel⟩, by decide +kernel, by decide⟩
theorem lk_X6_294 : LkV RX6 294 yX4_overlaps cX4_overlaps 2 (some .boolean) 1 := ⟨List.mem_filter.mpr ⟨List.mem_of_getElem? (i := 739) (by decide +kernel), by decide +kernel⟩, List.mem_filter.mpr ⟨List.mem_of_getElem? (i := 740) (by decide +kernel), by decide +kernel⟩, List.mem_filter.mpr ⟨List.mem_of_getElem? (i := 741) (by decide +kernel), by decide +kernel⟩, wn_X4, List.mem_filter.mpr ⟨List.mem_of_getElem? (i := 742) (by decide +kernel), by decide +kernel⟩, by decide +kernel, by decide⟩
theorem lk_X6_76 : LkV RX6 76 yX0_at cX0_at 3 (some .int) 2 := ⟨List.mem_filter.mpr ⟨List.mem_of_getElem? (i := 272) (by decide +kernel), by decide +kernel⟩, List.mem_filter.mpr ⟨List.mem_of_getElem? (i := 273) (by decide +kernel), by decide +kernel⟩, List.mem_filter.mpr ⟨List.mem_of_getElem? (i := 274) (by decide +kernel), by decide +kernel⟩, wn_X0, List.mem_filter.mpr ⟨List.mem_of_getElem? (i := 275) (by decide +kernel), by decide +kernel⟩, by decide +kernel, by decide⟩
theorem lk_X6_80 : LkV RX6 80 yX0_isGate cX0_isGate 3 (some .boolean) 2 := ⟨List.mem_filter.mpr ⟨List.mem_of_getElem? (i := 279) (by decide +kernel), by decide +kernel⟩, List.mem_filter.mpr ⟨List.mem_of_getElem? (i := 280) (by decide +kernel), by decide +kernel⟩, List.mem_filter.mpr ⟨List.mem_of_getElem? (i := 281) (by decide +kernel), by decide +kernel⟩, wn_X0, List.mem_filter.mpr ⟨List.mem_of_getElem? (i := 282) (by decide +kernel), by decide +kernel⟩, by decide +kernel, by decide⟩
theorem lk_X6_84 : LkV RX6 84 yX6_isDoor cX6_isDoor 5 (some .boolean) 2 := ⟨List.mem_filter.mpr ⟨List.mem_of_getElem? (i := 283) (by decide +kernel), by decide +kernel⟩, List.mem_filter.mpr ⟨List.mem_of_getElem? (i := 285) (by decide +kernel), by decide +kernel⟩, List.mem_filter.mpr ⟨List.mem_of_getElem? (i := 0) (by decide +kernel), by decide +kernel⟩, wn_X6, List.mem_filter.mpr ⟨List.mem_of_getElem? (i := 286) (by decide +kernel), by decide +kernel⟩, by decide +kernel, by decide⟩
theorem lk_X6_87 : LkV RX6 87 yX0_put cX0_put 4 none 3 := ⟨List.mem_filter.mpr ⟨List.mem_of_getElem? (i := 295) (by decide +kernel), by decide +kernel⟩, List.mem_filter.mpr ⟨List.mem_of_getElem? (i := 296) (by decide +kernel), by decide +kernel⟩, List.mem_filter.mpr ⟨List.mem_of_getElem? (i := 297) (by decide +kernel), by decide +kernel⟩, wn_X0, List.mem_filter.mpr ⟨List.mem_of_getElem? (i := 298) (by decide +kernel), by decide +kernel⟩, by decide +kernel, by decide⟩
theorem lk_X6_9 : LkI RX6 9 yX0_init cX0_init 1 none 0 := ⟨List.mem_filter.mpr ⟨List.mem_of_getElem? (i := 104) (by decide +kernel), by decide +kernel⟩, List.mem_filter.mpr ⟨List.mem_of_getElem? (i := 105) (by decide +kernel), by decide +kernel⟩, wn_X0, List.mem_filter.mpr ⟨List.mem_of_getElem? (i := 106) (by decide +kernel), by decide +kernel⟩, by decide +kernel, by decide +kernel, by decide⟩
theorem lk_X6_91 : LkV RX6 91 yX6_areDoorsJoined cX6_areDoorsJoined 3 (some .boolean) 0 := ⟨List.mem_filter.mpr ⟨List.mem_of_getElem? (i := 299) (by decide +kernel), by decide +kernel⟩, List.mem_filter.mpr ⟨List.mem_of_getElem? (i := 301) (by decide +kernel), by decide +kernel⟩, List.mem_filter.mpr ⟨List.mem_of_getElem? (i := 1) (by decide +kernel), by decide +kernel⟩, wn_X6, List.mem_filter.mpr ⟨List.mem_of_getElem? (i := 302) (by decide +kernel), by decide +kernel⟩, by decide +kernel, by decide⟩
theorem lk_X6_95 : LkV RX6 95 yX6_countLying cX6_countLying 3 (some .int) 0 := ⟨List.mem_filter.mpr ⟨List.mem_of_getElem? (i := 320) (by decide +kernel), by decide +kernel⟩, List.mem_filter.mpr ⟨List.mem_of_getElem? (i := 322) (by decide +kernel), by decide +kernel⟩, List.mem_filter.mpr ⟨List.mem_of_getElem? (i := 3) (by decide +kernel), by decide +kernel⟩, wn_X6, List.mem_filter.mpr ⟨List.mem_of_getElem? (i := 323) (by decide +kernel), by decide +kernel⟩, by decide +kernel, by decide⟩
theorem lk_L_101 : LkV RL 101 yX7_rent cX7_rent 7 (some .int) 1 := ⟨List.mem_filter.mpr ⟨List.mem_of_getElem? (i := 1286) (by decide +kernel), by decide +kernel⟩, List.mem_filter.mpr ⟨List.mem_of_getElem? (i := 1287) (by decide +kernel), by decide +kernel⟩, List.mem_filter.mpr ⟨List.mem_of_getElem? (i := 1288) (by decide +kernel), by decide +kernel⟩, wn_X7, List.mem_filter.mpr ⟨List.mem_of_getElem? (i := 1289) (by decide +kernel), by decide +kernel⟩, by decide +kernel, by decide⟩
theorem lk_L_102 : LkV RL 102 yX6_change cX6_change 11 (some .int) 4 := ⟨List.mem_filter.mpr ⟨List.mem_of_getElem? (i := 731) (by decide +kernel), by decide +kernel⟩, List.mem_filter.mpr ⟨List.mem_of_getElem? (i := 732) (by decide +kernel), by decide +kernel⟩, List.mem_filter.mpr ⟨List.mem_of_getElem? (i := 733) (by decide +kernel), by decide +kernel⟩, wn_X6, List.mem_filter.mpr ⟨List.mem_of_getElem? (i := 734) (by decide +kernel), by decide +kernel⟩, by decide +kernel, by decide⟩
theorem lk_L_106 : LkV RL 106 yX7_change cX7_change 9 (some .int) 4 := ⟨List.mem_filter.mpr ⟨List.mem_of_getElem? (i := 1294) (by decide +kernel), by decide +kernel⟩, List.mem_filter.mpr ⟨List.mem_of_getElem? (i := 1295) (by decide +kernel), by decide +kernel⟩, List.mem_filter.mpr ⟨List.mem_of_getElem? (i := 1296) (by decide +kernel), by decide +kernel⟩, wn_X7, List.mem_filter.mpr ⟨List.mem_of_getElem? (i := 1297) (by decide +kernel), by decide +kernel⟩, by decide +kernel, by decide⟩
theorem lk_L_112 : LkV RL 112 yX7_look cX7_look 3 (some .int) 2 := ⟨List.mem_filter.mpr ⟨List.mem_of_getElem? (i := 1305) (by decide +kernel), by decide +kernel⟩, List.mem_filter.mpr ⟨List.mem_of_getElem? (i := 1306) (by decide +kernel), by decide +kernel⟩, List.mem_filter.mpr ⟨List.mem_of_getElem? (i := 1307) (by decide +kernel), by decide +kernel⟩, wn_X7, List.mem_filter.mpr ⟨List.mem_of_getElem? (i := 1308) (by decide +kernel), by decide +kernel⟩, by decide +kernel, by decide⟩
theorem lk_L_113 : LkV RL 113 yX7_thrown cX7_thrown 1 (some .int) 0 := ⟨List.mem_filter.mpr ⟨List.mem_of_getElem? (i := 844) (by decide +kernel), by decide +kernel⟩, List.mem_filter.mpr ⟨List.mem_of_getElem? (i := 845) (by decide +kernel), by decide +kernel⟩, List.mem_filter.mpr ⟨List.mem_of_getElem? (i := 846) (by decide +kernel), by decide +kernel⟩, wn_X7, List.mem_filter.mpr ⟨List.mem_of_getElem? (i := 847) (by decide +kernel), by decide +kernel⟩, by decide +kernel, by decide⟩
theorem lk_L_116 : LkV RL 116 yX6_cell cX6_cell 3 (some .int) 2 := ⟨List.mem_filter.mpr ⟨List.mem_of_getElem? (i := 753) (by decide +kernel), by decide +kernel⟩, List.mem_filter.mpr ⟨List.mem_of_getElem? (i := 754) (by decide +kernel), by decide +kernel⟩, List.mem_filter.mpr ⟨List.mem_of_getElem? (i := 755) (by decide +kernel), by decide +kernel⟩, wn_X6, List.mem_filter.mpr ⟨List.mem_of_getElem? (i := 756) (by decide +kernel), by decide +kernel⟩, by decide +kernel, by decide⟩
theorem lk_L_119 : LkV RL 119 yX7_cell cX7_cell 3 (some .int) 2 := ⟨List.mem_filter.mpr ⟨List.mem_of_getElem? (i := 1309) (by decide +kernel), by decide +kernel⟩, List.mem_filter.mpr ⟨List.mem_of_getElem? (i := 1310) (by decide +kernel), by decide +kernel⟩, List.mem_filter.mpr ⟨List.mem_of_getElem? (i := 1311) (by decide +kernel), by decide +kernel⟩, wn_X7, List.mem_filter.mpr ⟨List.mem_of_getElem? (i := 1312) (by decide +kernel), by decide +kernel⟩, by decide +kernel, by decide⟩
theorem lk_L_120 : LkV RL 120 yX6_count cX6_count 2 (some .int) 1 := ⟨List.mem_filter.mpr ⟨List.mem_of_getElem? (i := 757) (by decide +kernel), by decide +kernel⟩, List.mem_filter.mpr ⟨List.mem_of_getElem? (i := 758) (by decide +kernel), by decide +kernel⟩, List.mem_filter.mpr ⟨List.mem_of_getElem? (i := 759) (by decide +kernel), by decide +kernel⟩, wn_X6, List.mem_filter.mpr ⟨List.mem_of_getElem? (i := 760) (by decide +kernel), by decide +kernel⟩, by decide +kernel, by decide⟩
theorem lk_L_123 : LkV RL 123 yX7_count cX7_count 5 (some .int) 1 := ⟨List.mem_filter.mpr ⟨List.mem_of_getElem? (i := 1313) (by decide +kernel), by decide +kernel⟩, List.mem_filter.mpr ⟨List.mem_of_getElem? (i := 1314) (by decide +kernel), by decide +kernel⟩, List.mem_filter.mpr ⟨List.mem_of_getElem? (i := 1315) (by decide +kernel), by decide +kernel⟩, wn_X7, List.mem_filter.mpr ⟨List.mem_of_getElem? (i := 1316) (by decide +kernel), by decide +kernel⟩, by decide +kernel, by decide⟩
theorem lk_L_15 : LkI RL 15 yX6_init cX6_init 1 none 0 := ⟨List.mem_filter.mpr ⟨List.mem_of_getElem? (i := 96) (by decide +kernel), by decide +kernel⟩, List.mem_filter.mpr ⟨List.mem_of_getElem? (i := 97) (by decide +kernel), by decide +kernel⟩, wn_X6, List.mem_filter.mpr ⟨List.mem_of_getElem? (i := 98) (by decide +kernel), by decide +kernel⟩, by decide +kernel, by decide +kernel, by decide⟩
theorem lk_L_18 : LkI RL 18 yX7_init cX7_init 2 none 0 := ⟨List.mem_filter.mpr ⟨List.mem_of_getElem? (i := 858) (by decide +kernel), by decide +kernel⟩, List.mem_filter.mpr ⟨List.mem_of_getElem? (i := 859) (by decide +kernel), by decide +kernel⟩, wn_X7, List.mem_filter.mpr ⟨List.mem_of_getElem? (i := 860) (by decide +kernel), by decide +kernel⟩, by decide +kernel, by decide +kernel, by decide⟩
theorem lk_L_19 : LkV RL 19 yX6_close cX6_close 5 (some .boolean) 3 := ⟨List.mem_filter.mpr ⟨List.mem_of_getElem? (i := 268) (by decide +kernel), by decide +kernel⟩, List.mem_filter.mpr ⟨List.mem_of_getElem? (i := 269) (by decide +kernel), by decide +kernel⟩, List.mem_filter.mpr ⟨List.mem_of_getElem? (i := 270) (by decide +kernel), by decide +kernel⟩, wn_X6, List.mem_filter.mpr ⟨List.mem_of_getElem? (i := 271) (by decide +kernel), by decide +kernel⟩, by decide +kernel, by decide⟩
theorem lk_L_23 : LkV RL 23 yX7_close cX7_close 7 (some .boolean) 3 := ⟨List.mem_filter.mpr ⟨List.mem_of_getElem? (i := 1103) (by decide +kernel), by decide +kernel⟩, List.mem_filter.mpr ⟨List.mem_of_getElem? (i := 1104) (by decide +kernel), by decide +kernel⟩, List.mem_filter.mpr ⟨List.mem_of_getElem? (i := 1105) (by decide +kernel), by decide +kernel⟩, wn_X7, List.mem_filter.mpr ⟨List.mem_of_getElem? (i := 1106) (by decide +kernel), by decide +kernel⟩, by decide +kernel, by decide⟩
theorem lk_L_24 : LkV RL 24 yX6_gate cX6_gate 2 (some .boolean) 1 := ⟨List.mem_filter.mpr ⟨List.mem_of_getElem? (i := 316) (by decide +kernel), by decide +kernel⟩, List.mem_filter.mpr ⟨List.mem_of_getElem? (i := 317) (by decide +kernel), by decide +kernel⟩, List.mem_filter.mpr ⟨List.mem_of_getElem? (i := 318) (by decide +kernel), by decide +kernel⟩, wn_X6, List.mem_filter.mpr ⟨List.mem_of_getElem? (i := 319) (by decide +kernel), by decide +kernel⟩, by decide +kernel, by decide⟩
theorem lk_L_28 : LkV RL 28 yX7_gate cX7_gate 2 (some .boolean) 1 := ⟨List.mem_filter.mpr ⟨List.mem_of_getElem? (i := 1171) (by decide +kernel), by decide +kernel⟩, List.mem_filter.mpr ⟨List.mem_of_getElem? (i := 1172) (by decide +kernel), by decide +kernel⟩, List.mem_filter.mpr ⟨List.mem_of_getElem? (i := 1173) (by decide +kernel), by decide +kernel⟩, wn_X7, List.mem_filter.mpr ⟨List.mem_of_getElem? (i := 1174) (by decide +kernel), by decide +kernel⟩, by decide +kernel, by decide⟩
theorem lk_L_29 : LkV RL 29 yX6_ride cX6_ride 9 (some .int) 5 := ⟨List.mem_filter.mpr ⟨List.mem_of_getElem? (i := 324) (by decide +kernel), by decide +kernel⟩, List.mem_filter.mpr ⟨List.mem_of_getElem? (i := 325) (by decide +kernel), by decide +kernel⟩, List.mem_filter.mpr ⟨List.mem_of_getElem? (i := 326) (by decide +kernel), by decide +kernel⟩, wn_X6, List.mem_filter.mpr ⟨List.mem_of_getElem? (i := 327) (by decide +kernel), by decide +kernel⟩, by decide +kernel, by decide⟩
theorem lk_L_33 : LkV RL 33 yX7_ride cX7_ride 6 (some .int) 5 := ⟨List.mem_filter.mpr ⟨List.mem_of_getElem? (i := 1099) (by decide +kernel), by decide +kernel⟩, List.mem_filter.mpr ⟨List.mem_of_getElem? (i := 1100) (by decide +kernel), by decide +kernel⟩, List.mem_filter.mpr ⟨List.mem_of_getElem? (i := 1101) (by decide +kernel), by decide +kernel⟩, wn_X7, List.mem_filter.mpr ⟨List.mem_of_getElem? (i := 1102) (by decide +kernel), by decide +kernel⟩, by decide +kernel, by decide⟩
theorem lk_L_34 : LkV RL 34 yX6_fits cX6_fits 6 (some .int) 4 := ⟨List.mem_filter.mpr ⟨List.mem_of_getElem? (i := 390) (by decide +kernel), by decide +kernel⟩, List.mem_filter.mpr ⟨List.mem_of_getElem? (i := 391) (by decide +kernel), by decide +kernel⟩, List.mem_filter.mpr ⟨List.mem_of_getElem? (i := 392) (by decide +kernel), by decide +kernel⟩, wn_X6, List.mem_filter.mpr ⟨List.mem_of_getElem? (i := 393) (by decide +kernel), by decide +kernel⟩, by decide +kernel, by decide⟩
theorem lk_L_38 : LkV RL 38 yX7_fits cX7_fits 5 (some .int) 4 := ⟨List.mem_filter.mpr ⟨List.mem_of_getElem? (i := 1179) (by decide +kernel), by decide +kernel⟩, List.mem_filter.mpr ⟨List.mem_of_getElem? (i := 1180) (by decide +kernel), by decide +kernel⟩, List.mem_filter.mpr ⟨List.mem_of_getElem? (i := 1181) (by decide +kernel), by decide +kernel⟩, wn_X7, List.mem_filter.mpr ⟨List.mem_of_getElem? (i := 1182) (by decide +kernel), by decide +kernel⟩, by decide +kernel, by decide⟩
theorem lk_L_39 : LkV RL 39 yX6_lay cX6_lay 6 (some .boolean) 4 := ⟨List.mem_filter.mpr ⟨List.mem_of_getElem? (i := 448) (by decide +kernel), by decide +kernel⟩, List.mem_filter.mpr ⟨List.mem_of_getElem? (i := 449) (by decide +kernel), by decide +kernel⟩, List.mem_filter.mpr ⟨List.mem_of_getElem? (i := 450) (by decide +kernel), by decide +kernel⟩, wn_X6, List.mem_filter.mpr ⟨List.mem_of_getElem? (i := 451) (by decide +kernel), by decide +kernel⟩, by decide +kernel, by decide⟩
theorem lk_L_43 : LkV RL 43 yX7_lay_ cX7_lay_ 5 (some .boolean) 4 := ⟨List.mem_filter.mpr ⟨List.mem_of_getElem? (i := 1206) (by decide +kernel), by decide +kernel⟩, List.mem_filter.mpr ⟨List.mem_of_getElem? (i := 1207) (by decide +kernel), by decide +kernel⟩, List.mem_filter.mpr ⟨List.mem_of_getElem? (i := 1208) (by decide +kernel), by decide +kernel⟩, wn_X7, List.mem_filter.mpr ⟨List.mem_of_getElem? (i := 1209) (by decide +kernel), by decide +kernel⟩, by decide +kernel, by decide⟩
theorem lk_L_44 : LkV RL 44 yX6_take cX6_take 3 (some .boolean) 1 := ⟨List.mem_filter.mpr ⟨List.mem_of_getElem? (i := 460) (by decide +kernel), by decide +kernel⟩, List.mem_filter.mpr ⟨List.mem_of_getElem? (i := 461) (by decide +kernel), by decide +kernel⟩, List.mem_filter.mpr ⟨List.mem_of_getElem? (i := 462) (by decide +kernel), by decide +kernel⟩, wn_X6, List.mem_filter.mpr ⟨List.mem_of_getElem? (i := 463) (by decide +kernel), by decide +kernel⟩, by decide +kernel, by decide⟩
theorem lk_L_47 : LkV RL 47 yX7_take cX7_take 2 (some .boolean) 1 := ⟨List.mem_filter.mpr ⟨List.mem_of_getElem? (i := 1210) (by decide +kernel), by decide +kernel⟩, List.mem_filter.mpr ⟨List.mem_of_getElem? (i := 1211) (by decide +kernel), by decide +kernel⟩, List.mem_filter.mpr ⟨List.mem_of_getElem? (i := 1212) (by decide +kernel), by decide +kernel⟩, wn_X7, List.mem_filter.mpr ⟨List.mem_of_getElem? (i := 1213) (by decide +kernel), by decide +kernel⟩, by decide +kernel, by decide⟩
theorem lk_L_48 : LkV RL 48 yX6_layAll cX6_layAll 3 (some .int) 0 := ⟨List.mem_filter.mpr ⟨List.mem_of_getElem? (i := 468) (by decide +kernel), by decide +kernel⟩, List.mem_filter.mpr ⟨List.mem_of_getElem? (i := 469) (by decide +kernel), by decide +kernel⟩, List.mem_filter.mpr ⟨List.mem_of_getElem? (i := 470) (by decide +kernel), by decide +kernel⟩, wn_X6, List.mem_filter.mpr ⟨List.mem_of_getElem? (i := 471) (by decide +kernel), by decide +kernel⟩, by decide +kernel, by decide⟩
theorem lk_L_52 : LkV RL 52 yX7_layAll cX7_layAll 2 (some .int) 0 := ⟨List.mem_filter.mpr ⟨List.mem_of_getElem? (i := 1214) (by decide +kernel), by decide +kernel⟩, List.mem_filter.mpr ⟨List.mem_of_getElem? (i := 1215) (by decide +kernel), by decide +kernel⟩, List.mem_filter.mpr ⟨List.mem_of_getElem? (i := 1216) (by decide +kernel), by decide +kernel⟩, wn_X7, List.mem_filter.mpr ⟨List.mem_of_getElem? (i := 1217) (by decide +kernel), by decide +kernel⟩, by decide +kernel, by decide⟩
theorem lk_L_53 : LkV RL 53 yX6_orders cX6_orders 4 (some .int) 0 := ⟨List.mem_filter.mpr ⟨List.mem_of_getElem? (i := 481) (by decide +kernel), by decide +kernel⟩, List.mem_filter.mpr ⟨List.mem_of_getElem? (i := 482) (by decide +kernel), by decide +kernel⟩, List.mem_filter.mpr ⟨List.mem_of_getElem? (i := 483) (by decide +kernel), by decide +kernel⟩, wn_X6, List.mem_filter.mpr ⟨List.mem_of_getElem? (i := 484) (by decide +kernel), by decide +kernel⟩, by decide +kernel, by decide⟩
theorem lk_L_56 : LkV RL 56 yX7_orders cX7_orders 1 (some .int) 0 := ⟨List.mem_filter.mpr ⟨List.mem_of_getElem? (i := 1226) (by decide +kernel), by decide +kernel⟩, List.mem_filter.mpr ⟨List.mem_of_getElem? (i := 1227) (by decide +kernel), by decide +kernel⟩, List.mem_filter.mpr ⟨List.mem_of_getElem? (i := 1228) (by decide +kernel), by decide +kernel⟩, wn_X7, List.mem_filter.mpr ⟨List.mem_of_getElem? (i := 1229) (by decide +kernel), by decide +kernel⟩, by decide +kernel, by decide⟩
theorem lk_L_57 : LkV RL 57 yX6_order cX6_order 4 (some .int) 1 := ⟨List.mem_filter.mpr ⟨List.mem_of_getElem? (i := 485) (by decide +kernel), by decide +kernel⟩, List.mem_filter.mpr ⟨List.mem_of_getElem? (i := 486) (by decide +kernel), by decide +kernel⟩, List.mem_filter.mpr ⟨List.mem_of_getElem? (i := 487) (by decide +kernel), by decide +kernel⟩, wn_X6, List.mem_filter.mpr ⟨List.mem_of_getElem? (i := 488) (by decide +kernel), by decide +kernel⟩, by decide +kernel, by decide⟩
theorem lk_L_61 : LkV RL 61 yX7_order cX7_order 6 (some .int) 1 := ⟨List.mem_filter.mpr ⟨List.mem_of_getElem? (i := 1242) (by decide +kernel), by decide +kernel⟩, List.mem_filter.mpr ⟨List.mem_of_getElem? (i := 1243) (by decide +kernel), by decide +kernel⟩, List.mem_filter.mpr ⟨List.mem_of_getElem? (i := 1244) (by decide +kernel), by decide +kernel⟩, wn_X7, List.mem_filter.mpr ⟨List.mem_of_getElem? (i := 1245) (by decide +kernel), by decide +kernel⟩, by decide +kernel, by decide⟩
theorem lk_L_62 : LkV RL 62 yX6_sick cX6_sick 3 (some .boolean) 1 := ⟨List.mem_filter.mpr ⟨List.mem_of_getElem? (i := 489) (by decide +kernel), by decide +kernel⟩, List.mem_filter.mpr ⟨List.mem_of_getElem? (i := 490) (by decide +kernel), by decide +kernel⟩, List.mem_filter.mpr ⟨List.mem_of_getElem? (i := 491) (by decide +kernel), by decide +kernel⟩, wn_X6, List.mem_filter.mpr ⟨List.mem_of_getElem? (i := 492) (by decide +kernel), by decide +kernel⟩, by decide +kernel, by decide⟩
theorem lk_L_65 : LkV RL 65 yX7_sick cX7_sick 2 (some .boolean) 1 := ⟨List.mem_filter.mpr ⟨List.mem_of_getElem? (i := 1246) (by decide +kernel), by decide +kernel⟩, List.mem_filter.mpr ⟨List.mem_of_getElem? (i := 1247) (by decide +kernel), by decide +kernel⟩, List.mem_filter.mpr ⟨List.mem_of_getElem? (i := 1248) (by decide +kernel), by decide +kernel⟩, wn_X7, List.mem_filter.mpr ⟨List.mem_of_getElem? (i := 1249) (by decide +kernel), by decide +kernel⟩, by decide +kernel, by decide⟩
theorem lk_L_66 : LkV RL 66 yX6_end cX6_end 4 (some .int) 0 := ⟨List.mem_filter.mpr ⟨List.mem_of_getElem? (i := 493) (by decide +kernel), by decide +kernel⟩, List.mem_filter.mpr ⟨List.mem_of_getElem? (i := 494) (by decide +kernel), by decide +kernel⟩, List.mem_filter.mpr ⟨List.mem_of_getElem? (i := 495) (by decide +kernel), by decide +kernel⟩, wn_X6, List.mem_filter.mpr ⟨List.mem_of_getElem? (i := 496) (by decide +kernel), by decide +kernel⟩, by decide +kernel, by decide⟩
theorem lk_L_69 : LkV RL 69 yX7_end cX7_end 3 (some .int) 0 := ⟨List.mem_filter.mpr ⟨List.mem_of_getElem? (i := 1250) (by decide +kernel), by decide +kernel⟩, List.mem_filter.mpr ⟨List.mem_of_getElem? (i := 1251) (by decide +kernel), by decide +kernel⟩, List.mem_filter.mpr ⟨List.mem_of_getElem? (i := 1252) (by decide +kernel), by decide +kernel⟩, wn_X7, List.mem_filter.mpr ⟨List.mem_of_getElem? (i := 1253) (by decide +kernel), by decide +kernel⟩, by decide +kernel, by decide⟩
theorem lk_L_7 : LkV RL 7 yX6_look cX6_look 4 (some .int) 2 := ⟨List.mem_filter.mpr ⟨List.mem_of_getElem? (i := 773) (by decide +kernel), by decide +kernel⟩, List.mem_filter.mpr ⟨List.mem_of_getElem? (i := 774) (by decide +kernel), by decide +kernel⟩, List.mem_filter.mpr ⟨List.mem_of_getElem? (i := 775) (by decide +kernel), by decide +kernel⟩, wn_X6, List.mem_filter.mpr ⟨List.mem_of_getElem? (i := 776) (by decide +kernel), by decide +kernel⟩, by decide +kernel, by decide⟩
theorem lk_L_72 : LkV RL 72 yX6_feed cX6_feed 7 (some .int) 3 := ⟨List.mem_filter.mpr ⟨List.mem_of_getElem? (i := 531) (by decide +kernel), by decide +kernel⟩, List.mem_filter.mpr ⟨List.mem_of_getElem? (i := 532) (by decide +kernel), by decide +kernel⟩, List.mem_filter.mpr ⟨List.mem_of_getElem? (i := 533) (by decide +kernel), by decide +kernel⟩, wn_X6, List.mem_filter.mpr ⟨List.mem_of_getElem? (i := 534) (by decide +kernel), by decide +kernel⟩, by decide +kernel, by decide⟩
theorem lk_L_76 : LkV RL 76 yX7_feed cX7_feed 7 (some .int) 3 := ⟨List.mem_filter.mpr ⟨List.mem_of_getElem? (i := 848) (by decide +kernel), by decide +kernel⟩, List.mem_filter.mpr ⟨List.mem_of_getElem? (i := 849) (by decide +kernel), by decide +kernel⟩, List.mem_filter.mpr ⟨List.mem_of_getElem? (i := 850) (by decide +kernel), by decide +kernel⟩, wn_X7, List.mem_filter.mpr ⟨List.mem_of_getElem? (i := 851) (by decide +kernel), by decide +kernel⟩, by decide +kernel, by decide⟩
theorem lk_L_77 : LkV RL 77 yX6_text cX6_text 3 (some .int) 0 := ⟨List.mem_filter.mpr ⟨List.mem_of_getElem? (i := 541) (by decide +kernel), by decide +kernel⟩, List.mem_filter.mpr ⟨List.mem_of_getElem? (i := 542) (by decide +kernel), by decide +kernel⟩, List.mem_filter.mpr ⟨List.mem_of_getElem? (i := 543) (by decide +kernel), by decide +kernel⟩, wn_X6, List.mem_filter.mpr ⟨List.mem_of_getElem? (i := 544) (by decide +kernel), by decide +kernel⟩, by decide +kernel, by decide⟩
theorem lk_L_80 : LkV RL 80 yX7_text cX7_text 1 (some .int) 0 := ⟨List.mem_filter.mpr ⟨List.mem_of_getElem? (i := 1024) (by decide +kernel), by decide +kernel⟩, List.mem_filter.mpr ⟨List.mem_of_getElem? (i := 1025) (by decide +kernel), by decide +kernel⟩, List.mem_filter.mpr ⟨List.mem_of_getElem? (i := 1026) (by decide +kernel), by decide +kernel⟩, wn_X7, List.mem_filter.mpr ⟨List.mem_of_getElem? (i := 1027) (by decide +kernel), by decide +kernel⟩, by decide +kernel, by decide⟩
theorem lk_L_81 : LkV RL 81 yX6_bears cX6_bears 3 (some .boolean) 2 := ⟨List.mem_filter.mpr ⟨List.mem_of_getElem? (i := 698) (by decide +kernel), by decide +kernel⟩, List.mem_filter.mpr ⟨List.mem_of_getElem? (i := 699) (by decide +kernel), by decide +kernel⟩, List.mem_filter.mpr ⟨List.mem_of_getElem? (i := 700) (by decide +kernel), by decide +kernel⟩, wn_X6, List.mem_filter.mpr ⟨List.mem_of_getElem? (i := 701) (by decide +kernel), by decide +kernel⟩, by decide +kernel, by decide⟩
theorem lk_L_85 : LkV RL 85 yX7_bears cX7_bears 3 (some .boolean) 2 := ⟨List.mem_filter.mpr ⟨List.mem_of_getElem? (i := 1262) (by decide +kernel), by decide +kernel⟩, List.mem_filter.mpr ⟨List.mem_of_getElem? (i := 1263) (by decide +kernel), by decide +kernel⟩, List.mem_filter.mpr ⟨List.mem_of_getElem? (i := 1264) (by decide +kernel), by decide +kernel⟩, wn_X7, List.mem_filter.mpr ⟨List.mem_of_getElem? (i := 1265) (by decide +kernel), by decide +kernel⟩, by decide +kernel, by decide⟩
theorem lk_L_86 : LkV RL 86 yX6_lit cX6_lit 6 (some .int) 1 := ⟨List.mem_filter.mpr ⟨List.mem_of_getElem? (i := 702) (by decide +kernel), by decide +kernel⟩, List.mem_filter.mpr ⟨List.mem_of_getElem? (i := 703) (by decide +kernel), by decide +kernel⟩, List.mem_filter.mpr ⟨List.mem_of_getElem? (i := 704) (by decide +kernel), by decide +kernel⟩, wn_X6, List.mem_filter.mpr ⟨List.mem_of_getElem? (i := 705) (by decide +kernel), by decide +kernel⟩, by decide +kernel, by decide⟩
theorem lk_L_89 : LkV RL 89 yX7_lit cX7_lit 2 (some .int) 1 := ⟨List.mem_filter.mpr ⟨List.mem_of_getElem? (i := 1266) (by decide +kernel), by decide +kernel⟩, List.mem_filter.mpr ⟨List.mem_of_getElem? (i := 1267) (by decide +kernel), by decide +kernel⟩, List.mem_filter.mpr ⟨List.mem_of_getElem? (i := 1268) (by decide +kernel), by decide +kernel⟩, wn_X7, List.mem_filter.mpr ⟨List.mem_of_getElem? (i := 1269) (by decide +kernel), by decide +kernel⟩, by decide +kernel, by decide⟩
theorem lk_L_90 : LkV RL 90 yX6_rate cX6_rate 2 (some .boolean) 1 := ⟨List.mem_filter.mpr ⟨List.mem_of_getElem? (i := 715) (by decide +kernel), by decide +kernel⟩, List.mem_filter.mpr ⟨List.mem_of_getElem? (i := 716) (by decide +kernel), by decide +kernel⟩, List.mem_filter.mpr ⟨List.mem_of_getElem? (i := 717) (by decide +kernel), by decide +kernel⟩, wn_X6, List.mem_filter.mpr ⟨List.mem_of_getElem? (i := 718) (by decide +kernel), by decide +kernel⟩, by decide +kernel, by decide⟩
theorem lk_L_93 : LkV RL 93 yX7_rate cX7_rate 2 (some .boolean) 1 := ⟨List.mem_filter.mpr ⟨List.mem_of_getElem? (i := 1278) (by decide +kernel), by decide +kernel⟩, List.mem_filter.mpr ⟨List.mem_of_getElem? (i := 1279) (by decide +kernel), by decide +kernel⟩, List.mem_filter.mpr ⟨List.mem_of_getElem? (i := 1280) (by decide +kernel), by decide +kernel⟩, wn_X7, List.mem_filter.mpr ⟨List.mem_of_getElem? (i := 1281) (by decide +kernel), by decide +kernel⟩, by decide +kernel, by decide⟩
theorem lk_L_94 : LkV RL 94 yX6_share cX6_share 3 (some .boolean) 2 := ⟨List.mem_filter.mpr ⟨List.mem_of_getElem? (i := 719) (by decide +kernel), by decide +kernel⟩, List.mem_filter.mpr ⟨List.mem_of_getElem? (i := 720) (by decide +kernel), by decide +kernel⟩, List.mem_filter.mpr ⟨List.mem_of_getElem? (i := 721) (by decide +kernel), by decide +kernel⟩, wn_X6, List.mem_filter.mpr ⟨List.mem_of_getElem? (i := 722) (by decide +kernel), by decide +kernel⟩, by decide +kernel, by decide⟩
theorem lk_L_97 : LkV RL 97 yX7_share cX7_share 3 (some .boolean) 2 := ⟨List.mem_filter.mpr ⟨List.mem_of_getElem? (i := 1282) (by decide +kernel), by decide +kernel⟩, List.mem_filter.mpr ⟨List.mem_of_getElem? (i := 1283) (by decide +kernel), by decide +kernel⟩, List.mem_filter.mpr ⟨List.mem_of_getElem? (i := 1284) (by decide +kernel), by decide +kernel⟩, wn_X7, List.mem_filter.mpr ⟨List.mem_of_getElem? (i := 1285) (by decide +kernel), by decide +kernel⟩, by decide +kernel, by decide⟩
theorem lk_L_98 : LkV RL 98 yX6_rent cX6_rent 9 (some .int) 1 := ⟨List.mem_filter.mpr ⟨List.mem_of_getElem? (i := 723) (by decide +kernel), by decide +kernel⟩, List.mem_filter.mpr ⟨List.mem_of_getElem? (i := 724) (by decide +kernel), by decide +kernel⟩, List.mem_filter.mpr ⟨List.mem_of_getElem? (i := 725) (by decide +kernel), by decide +kernel⟩, wn_X6, List.mem_filter.mpr ⟨List.mem_of_getElem? (i := 726) (by decide +kernel), by decide +kernel⟩, by decide +kernel, by decide⟩
theorem lk_X7_157 : LkS RX7 157 yX7_isLetter cX7_isLetter 1 (some .boolean) 1 := ⟨List.mem_filter.mpr ⟨List.mem_of_getElem? (i := 1032) (by decide +kernel), by decide +kernel⟩, List.mem_filter.mpr ⟨List.mem_of_getElem? (i := 1033) (by decide +kernel), by decide +kernel⟩, wn_X7, List.mem_filter.mpr ⟨List.mem_of_getElem? (i := 1034) (by decide +kernel), by decide +kernel⟩, by decide +kernel, by decide⟩
theorem lk_X7_166 : LkS RX7 166 yX7_rank cX7_rank 1 (some .int) 1 := ⟨List.mem_filter.mpr ⟨List.mem_of_getElem? (i := 1036) (by decide +kernel), by decide +kernel⟩, List.mem_filter.mpr ⟨List.mem_of_getElem? (i := 1037) (by decide +kernel), by decide +kernel⟩, wn_X7, List.mem_filter.mpr ⟨List.mem_of_getElem? (i := 1038) (by decide +kernel), by decide +kernel⟩, by decide +kernel, by decide⟩
theorem lk_X7_169 : LkS RX7 169 yX7_isDigit cX7_isDigit 1 (some .boolean) 1 := ⟨List.mem_filter.mpr ⟨List.mem_of_getElem? (i := 1039) (by decide +kernel), by decide +kernel⟩, List.mem_filter.mpr ⟨List.mem_of_getElem? (i := 1040) (by decide +kernel), by decide +kernel⟩, wn_X7, List.mem_filter.mpr ⟨List.mem_of_getElem? (i := 1041) (by decide +kernel), by decide +kernel⟩, by decide +kernel, by decide⟩
theorem lk_X7_176 : LkS RX7 176 yX7_isSignOf cX7_isSignOf 1 (some .boolean) 1 := ⟨List.mem_filter.mpr ⟨List.mem_of_getElem? (i := 1044) (by decide +kernel), by decide +kernel⟩, List.mem_filter.mpr ⟨List.mem_of_getElem? (i := 1045) (by decide +kernel), by decide +kernel⟩, wn_X7, List.mem_filter.mpr ⟨List.mem_of_getElem? (i := 1046) (by decide +kernel), by decide +kernel⟩, by decide +kernel, by decide⟩
theorem wo_X7_18 : Cond.methodLink RX7 18 Lib.objectInit ∈ WS := List.mem_filter.mpr ⟨List.mem_of_getElem? (i := 861) (by decide +kernel), by decide +kernel⟩
theorem lk_X7_185 : LkV RX7 185 yX7_isSign cX7_isSign 2 (some .boolean) 1 := ⟨List.mem_filter.mpr ⟨List.mem_of_getElem? (i := 1079) (by decide +kernel), by decide +kernel⟩, List.mem_filter.mpr ⟨List.mem_of_getElem? (i := 1081) (by decide +kernel), by decide +kernel⟩, List.mem_filter.mpr ⟨List.mem_of_getElem? (i := 39) (by decide +kernel), by decide +kernel⟩, wn_X7, List.mem_filter.mpr ⟨List.mem_of_getElem? (i := 1082) (by decide +kernel), by decide +kernel⟩, by decide +kernel, by decide⟩
theorem lk_X7_188 : LkV RX7 188 yX7_wrong cX7_wrong 2 none 1 := ⟨List.mem_filter.mpr ⟨List.mem_of_getElem? (i := 1055) (by decide +kernel), by decide +kernel⟩, List.mem_filter.mpr ⟨List.mem_of_getElem? (i := 1057) (by decide +kernel), by decide +kernel⟩, List.mem_filter.mpr ⟨List.mem_of_getElem? (i := 33) (by decide +kernel), by decide +kernel⟩, wn_X7, List.mem_filter.mpr ⟨List.mem_of_getElem? (i := 1058) (by decide +kernel), by decide +kernel⟩, by decide +kernel, by decide⟩
theorem lk_X7_192 : LkV RX7 192 yX7_isWord cX7_isWord 2 (some .boolean) 1 := ⟨List.mem_filter.mpr ⟨List.mem_of_getElem? (i := 1051) (by decide +kernel), by decide +kernel⟩, List.mem_filter.mpr ⟨List.mem_of_getElem? (i := 1053) (by decide +kernel), by decide +kernel⟩, List.mem_filter.mpr ⟨List.mem_of_getElem? (i := 32) (by decide +kernel), by decide +kernel⟩, wn_X7, List.mem_filter.mpr ⟨List.mem_of_getElem? (i := 1054) (by decide +kernel), by decide +kernel⟩, by decide +kernel, by decide⟩
theorem lk_X7_195 : LkV RX7 195 yX7_hasWord cX7_hasWord 3 (some .boolean) 1 := ⟨List.mem_filter.mpr ⟨List.mem_of_getElem? (i := 1063) (by decide +kernel), by decide +kernel⟩, List.mem_filter.mpr ⟨List.mem_of_getElem? (i := 1065) (by decide +kernel), by decide +kernel⟩, List.mem_filter.mpr ⟨List.mem_of_getElem? (i := 35) (by decide +kernel), by decide +kernel⟩, wn_X7, List.mem_filter.mpr ⟨List.mem_of_getElem? (i := 1066) (by decide +kernel), by decide +kernel⟩, by decide +kernel, by decide⟩
theorem lk_X7_204 : LkV RX7 204 yX7_cutAll cX7_cutAll 7 none 0 := ⟨List.mem_filter.mpr ⟨List.mem_of_getElem? (i := 1028) (by decide +kernel), by decide +kernel⟩, List.mem_filter.mpr ⟨List.mem_of_getElem? (i := 1030) (by decide +kernel), by decide +kernel⟩, List.mem_filter.mpr ⟨List.mem_of_getElem? (i := 30) (by decide +kernel), by decide +kernel⟩, wn_X7, List.mem_filter.mpr ⟨List.mem_of_getElem? (i := 1031) (by decide +kernel), by decide +kernel⟩, by decide +kernel, by decide⟩
theorem lk_X7_210 : LkV RX7 210 yX7_line cX7_line 4 none 0 := ⟨List.mem_filter.mpr ⟨List.mem_of_getElem? (i := 1047) (by decide +kernel), by decide +kernel⟩, List.mem_filter.mpr ⟨List.mem_of_getElem? (i := 1049) (by decide +kernel), by decide +kernel⟩, List.mem_filter.mpr ⟨List.mem_of_getElem? (i := 31) (by decide +kernel), by decide +kernel⟩, wn_X7, List.mem_filter.mpr ⟨List.mem_of_getElem? (i := 1050) (by decide +kernel), by decide +kernel⟩, by decide +kernel, by decide⟩
theorem lk_X7_213 : LkV RX7 213 yX7_takeWord cX7_takeWord 2 none 1 := ⟨List.mem_filter.mpr ⟨List.mem_of_getElem? (i := 1059) (by decide +kernel), by decide +kernel⟩, List.mem_filter.mpr ⟨List.mem_of_getElem? (i := 1061) (by decide +kernel), by decide +kernel⟩, List.mem_filter.mpr ⟨List.mem_of_getElem? (i := 34) (by decide +kernel), by decide +kernel⟩, wn_X7, List.mem_filter.mpr ⟨List.mem_of_getElem? (i := 1062) (by decide +kernel), by decide +kernel⟩, by decide +kernel, by decide⟩
theorem lk_X7_219 : LkV RX7 219 yX7_opens cX7_opens 1 none 0 := ⟨List.mem_filter.mpr ⟨List.mem_of_getElem? (i := 1067) (by decide +kernel), by decide +kernel⟩, List.mem_filter.mpr ⟨List.mem_of_getElem? (i := 1069) (by decide +kernel), by decide +kernel⟩, List.mem_filter.mpr ⟨List.mem_of_getElem? (i := 36) (by decide +kernel), by decide +kernel⟩, wn_X7, List.mem_filter.mpr ⟨List.mem_of_getElem? (i := 1070) (by decide +kernel), by decide +kernel⟩, by decide +kernel, by decide⟩
theorem lk_X7_222 : LkV RX7 222 yX7_part cX7_part 2 (some .boolean) 0 := ⟨List.mem_filter.mpr ⟨List.mem_of_getElem? (i := 1071) (by decide +kernel), by decide +kernel⟩, List.mem_filter.mpr ⟨List.mem_of_getElem? (i := 1073) (by decide +kernel), by decide +kernel⟩, List.mem_filter.mpr ⟨List.mem_of_getElem? (i := 37) (by decide +kernel), by decide +kernel⟩, wn_X7, List.mem_filter.mpr ⟨List.mem_of_getElem? (i := 1074) (by decide +kernel), by decide +kernel⟩, by decide +kernel, by decide⟩
theorem lk_X7_226 : LkV RX7 226 yX7_goesOnBehind cX7_goesOnBehind 1 (some .boolean) 0 := ⟨List.mem_filter.mpr ⟨List.mem_of_getElem? (i := 1091) (by decide +kernel), by decide +kernel⟩, List.mem_filter.mpr ⟨List.mem_of_getElem? (i := 1093) (by decide +kernel), by decide +kernel⟩, List.mem_filter.mpr ⟨List.mem_of_getElem? (i := 42) (by decide +kernel), by decide +kernel⟩, wn_X7, List.mem_filter.mpr ⟨List.mem_of_getElem? (i := 1094) (by decide +kernel), by decide +kernel⟩, by decide +kernel, by decide⟩
theorem lk_X7_229 : LkV RX7 229 yX7_emit cX7_emit 3 none 2 := ⟨List.mem_filter.mpr ⟨List.mem_of_getElem? (i := 1087) (by decide +kernel), by decide +kernel⟩, List.mem_filter.mpr ⟨List.mem_of_getElem? (i := 1089) (by decide +kernel), by decide +kernel⟩, List.mem_filter.mpr ⟨List.mem_of_getElem? (i := 41) (by decide +kernel), by decide +kernel⟩, wn_X7, List.mem_filter.mpr ⟨List.mem_of_getElem? (i := 1090) (by decide +kernel), by decide +kernel⟩, by decide +kernel, by decide⟩
theorem lk_X7_233 : LkV RX7 233 yX7_takeSign cX7_takeSign 2 none 1 := ⟨List.mem_filter.mpr ⟨List.mem_of_getElem? (i := 1095) (by decide +kernel), by decide +kernel⟩, List.mem_filter.mpr ⟨List.mem_of_getElem? (i := 1097) (by decide +kernel), by decide +kernel⟩, List.mem_filter.mpr ⟨List.mem_of_getElem? (i := 43) (by decide +kernel), by decide +kernel⟩, wn_X7, List.mem_filter.mpr ⟨List.mem_of_getElem? (i := 1098) (by decide +kernel), by decide +kernel⟩, by decide +kernel, by decide⟩
theorem lk_X7_236 : LkV RX7 236 yX7_partWord cX7_partWord 2 (some .int) 0 := ⟨List.mem_filter.mpr ⟨List.mem_of_getElem? (i := 1075) (by decide +kernel), by decide +kernel⟩, List.mem_filter.mpr ⟨List.mem_of_getElem? (i := 1077) (by decide +kernel), by decide +kernel⟩, List.mem_filter.mpr ⟨List.mem_of_getElem? (i := 38) (by decide +kernel), by decide +kernel⟩, wn_X7, List.mem_filter.mpr ⟨List.mem_of_getElem? (i := 1078) (by decide +kernel), by decide +kernel⟩, by decide +kernel, by decide⟩
theorem lk_X7_240 : LkV RX7 240 yX7_hasSign cX7_hasSign 3 (some .boolean) 1 := ⟨List.mem_filter.mpr ⟨List.mem_of_getElem? (i := 1083) (by decide +kernel), by decide +kernel⟩, List.mem_filter.mpr ⟨List.mem_of_getElem? (i := 1085) (by decide +kernel), by decide +kernel⟩, List.mem_filter.mpr ⟨List.mem_of_getElem? (i := 40) (by decide +kernel), by decide +kernel⟩, wn_X7, List.mem_filter.mpr ⟨List.mem_of_getElem? (i := 1086) (by decide +kernel), by decide +kernel⟩, by decide +kernel, by decide⟩
theorem lk_X7_246 : LkS RX7 246 yX7_placeX cX7_placeX 1 (some .int) 1 := ⟨List.mem_filter.mpr ⟨List.mem_of_getElem? (i := 1122) (by decide +kernel), by decide +kernel⟩, List.mem_filter.mpr ⟨List.mem_of_getElem? (i := 1123) (by decide +kernel), by decide +kernel⟩, wn_X7, List.mem_filter.mpr ⟨List.mem_of_getElem? (i := 1124) (by decide +kernel), by decide +kernel⟩, by decide +kernel, by decide⟩
theorem lk_X7_249 : LkS RX7 249 yX7_placeY cX7_placeY 1 (some .int) 1 := ⟨List.mem_filter.mpr ⟨List.mem_of_getElem? (i := 1125) (by decide +kernel), by decide +kernel⟩, List.mem_filter.mpr ⟨List.mem_of_getElem? (i := 1126) (by decide +kernel), by decide +kernel⟩, wn_X7, List.mem_filter.mpr ⟨List.mem_of_getElem? (i := 1127) (by decide +kernel), by decide +kernel⟩, by decide +kernel, by decide⟩
theorem lk_X7_252 : LkV RX7 252 yX7_widthAt cX7_widthAt 3 (some .int) 2 := ⟨List.mem_filter.mpr ⟨List.mem_of_getElem? (i := 1128) (by decide +kernel), by decide +kernel⟩, List.mem_filter.mpr ⟨List.mem_of_getElem? (i := 1130) (by decide +kernel), by decide +kernel⟩, List.mem_filter.mpr ⟨List.mem_of_getElem? (i := 47) (by decide +kernel), by decide +kernel⟩, wn_X7, List.mem_filter.mpr ⟨List.mem_of_getElem? (i := 1131) (by decide +kernel), by decide +kernel⟩, by decide +kernel, by decide⟩
theorem lk_X7_256 : LkV RX7 256 yX7_heightAt cX7_heightAt 3 (some .int) 2 := ⟨List.mem_filter.mpr ⟨List.mem_of_getElem? (i := 1132) (by decide +kernel), by decide +kernel⟩, List.mem_filter.mpr ⟨List.mem_of_getElem? (i := 1134) (by decide +kernel), by decide +kernel⟩, List.mem_filter.mpr ⟨List.mem_of_getElem? (i := 48) (by decide +kernel), by decide +kernel⟩, wn_X7, List.mem_filter.mpr ⟨List.mem_of_getElem? (i := 1135) (by decide +kernel), by decide +kernel⟩, by decide +kernel, by decide⟩
theorem lk_X7_259 : LkS RX7 259 yX7_isIn cX7_isIn 7 (some .boolean) 5 := ⟨List.mem_filter.mpr ⟨List.mem_of_getElem? (i := 1136) (by decide +kernel), by decide +kernel⟩, List.mem_filter.mpr ⟨List.mem_of_getElem? (i := 1137) (by decide +kernel), by decide +kernel⟩, wn_X7, List.mem_filter.mpr ⟨List.mem_of_getElem? (i := 1138) (by decide +kernel), by decide +kernel⟩, by decide +kernel, by decide⟩
theorem lk_X7_263 : LkV RX7 263 yX7_coversAt cX7_coversAt 4 (some .boolean) 3 := ⟨List.mem_filter.mpr ⟨List.mem_of_getElem? (i := 1118) (by decide +kernel), by decide +kernel⟩, List.mem_filter.mpr ⟨List.mem_of_getElem? (i := 1120) (by decide +kernel), by decide +kernel⟩, List.mem_filter.mpr ⟨List.mem_of_getElem? (i := 46) (by decide +kernel), by decide +kernel⟩, wn_X7, List.mem_filter.mpr ⟨List.mem_of_getElem? (i := 1121) (by decide +kernel), by decide +kernel⟩, by decide +kernel, by decide⟩
theorem lk_X7_267 : LkV RX7 267 yX7_covers cX7_covers 3 (some .boolean) 2 := ⟨List.mem_filter.mpr ⟨List.mem_of_getElem? (i := 1114) (by decide +kernel), by decide +kernel⟩, List.mem_filter.mpr ⟨List.mem_of_getElem? (i := 1116) (by decide +kernel), by decide +kernel⟩, List.mem_filter.mpr ⟨List.mem_of_getElem? (i := 45) (by decide +kernel), by decide +kernel⟩, wn_X7, List.mem_filter.mpr ⟨List.mem_of_getElem? (i := 1117) (by decide +kernel), by decide +kernel⟩, by decide +kernel, by decide⟩
theorem lk_X7_271 : LkV RX7 271 yX7_coveredBy cX7_coveredBy 4 (some .int) 1 := ⟨List.mem_filter.mpr ⟨List.mem_of_getElem? (i := 1110) (by decide +kernel), by decide +kernel⟩, List.mem_filter.mpr ⟨List.mem_of_getElem? (i := 1112) (by decide +kernel), by decide +kernel⟩, List.mem_filter.mpr ⟨List.mem_of_getElem? (i := 44) (by decide +kernel), by decide +kernel⟩, wn_X7, List.mem_filter.mpr ⟨List.mem_of_getElem? (i := 1113) (by decide +kernel), by decide +kernel⟩, by decide +kernel, by decide⟩
theorem lk_X7_274 : LkV RX7 274 yX7_doorAt cX7_doorAt 3 (some .int) 2 := ⟨List.mem_filter.mpr ⟨List.mem_of_getElem? (i := 1147) (by decide +kernel), by decide +kernel⟩, List.mem_filter.mpr ⟨List.mem_of_getElem? (i := 1149) (by decide +kernel), by decide +kernel⟩, List.mem_filter.mpr ⟨List.mem_of_getElem? (i := 51) (by decide +kernel), by decide +kernel⟩, wn_X7, List.mem_filter.mpr ⟨List.mem_of_getElem? (i := 1150) (by decide +kernel), by decide +kernel⟩, by decide +kernel, by decide⟩
theorem lk_X7_280 : LkV RX7 280 yX7_gateCell cX7_gateCell 1 (some .int) 0 := ⟨List.mem_filter.mpr ⟨List.mem_of_getElem? (i := 1139) (by decide +kernel), by decide +kernel⟩, List.mem_filter.mpr ⟨List.mem_of_getElem? (i := 1141) (by decide +kernel), by decide +kernel⟩, List.mem_filter.mpr ⟨List.mem_of_getElem? (i := 49) (by decide +kernel), by decide +kernel⟩, wn_X7, List.mem_filter.mpr ⟨List.mem_of_getElem? (i := 1142) (by decide +kernel), by decide +kernel⟩, by decide +kernel, by decide⟩
theorem lk_X7_283 : LkV RX7 283 yX7_isBeside cX7_isBeside 3 (some .boolean) 1 := ⟨List.mem_filter.mpr ⟨List.mem_of_getElem? (i := 1167) (by decide +kernel), by decide +kernel⟩, List.mem_filter.mpr ⟨List.mem_of_getElem? (i := 1169) (by decide +kernel), by decide +kernel⟩, List.mem_filter.mpr ⟨List.mem_of_getElem? (i := 56) (by decide +kernel), by decide +kernel⟩, wn_X7, List.mem_filter.mpr ⟨List.mem_of_getElem? (i := 1170) (by decide +kernel), by decide +kernel⟩, by decide +kernel, by decide⟩
theorem lk_X7_286 : LkV RX7 286 yX7_isFree cX7_isFree 2 (some .boolean) 1 := ⟨List.mem_filter.mpr ⟨List.mem_of_getElem? (i := 1155) (by decide +kernel), by decide +kernel⟩, List.mem_filter.mpr ⟨List.mem_of_getElem? (i := 1157) (by decide +kernel), by decide +kernel⟩, List.mem_filter.mpr ⟨List.mem_of_getElem? (i := 53) (by decide +kernel), by decide +kernel⟩, wn_X7, List.mem_filter.mpr ⟨List.mem_of_getElem? (i := 1158) (by decide +kernel), by decide +kernel⟩, by decide +kernel, by decide⟩
theorem lk_X7_289 : LkV RX7 289 yX7_reaches cX7_reaches 3 none 0 := ⟨List.mem_filter.mpr ⟨List.mem_of_getElem? (i := 1163) (by decide +kernel), by decide +kernel⟩, List.mem_filter.mpr ⟨List.mem_of_getElem? (i := 1165) (by decide +kernel), by decide +kernel⟩, List.mem_filter.mpr ⟨List.mem_of_getElem? (i := 55) (by decide +kernel), by decide +kernel⟩, wn_X7, List.mem_filter.mpr ⟨List.mem_of_getElem? (i := 1166) (by decide +kernel), by decide +kernel⟩, by decide +kernel, by decide⟩
theorem lk_X7_292 : LkV RX7 292 yX7_door cX7_door 2 (some .int) 1 := ⟨List.mem_filter.mpr ⟨List.mem_of_getElem? (i := 1143) (by decide +kernel), by decide +kernel⟩, List.mem_filter.mpr ⟨List.mem_of_getElem? (i := 1145) (by decide +kernel), by decide +kernel⟩, List.mem_filter.mpr ⟨List.mem_of_getElem? (i := 50) (by decide +kernel), by decide +kernel⟩, wn_X7, List.mem_filter.mpr ⟨List.mem_of_getElem? (i := 1146) (by decide +kernel), by decide +kernel⟩, by decide +kernel, by decide⟩
theorem lk_X7_295 : LkS RX7 295 yX7_isCell cX7_isCell 2 (some .boolean) 2 := ⟨List.mem_filter.mpr ⟨List.mem_of_getElem? (i := 1107) (by decide +kernel), by decide +kernel⟩, List.mem_filter.mpr ⟨List.mem_of_getElem? (i := 1108) (by decide +kernel), by decide +kernel⟩, wn_X7, List.mem_filter.mpr ⟨List.mem_of_getElem? (i := 1109) (by decide +kernel), by decide +kernel⟩, by decide +kernel, by decide⟩
theorem lk_X7_298 : LkV RX7 298 yX7_barsAll cX7_barsAll 2 none 0 := ⟨List.mem_filter.mpr ⟨List.mem_of_getElem? (i := 1151) (by decide +kernel), by decide +kernel⟩, List.mem_filter.mpr ⟨List.mem_of_getElem? (i := 1153) (by decide +kernel), by decide +kernel⟩, List.mem_filter.mpr ⟨List.mem_of_getElem? (i := 52) (by decide +kernel), by decide +kernel⟩, wn_X7, List.mem_filter.mpr ⟨List.mem_of_getElem? (i := 1154) (by decide +kernel), by decide +kernel⟩, by decide +kernel, by decide⟩
theorem lk_X7_301 : LkV RX7 301 yX7_areDoorsJoined cX7_areDoorsJoined 3 (some .boolean) 0 := ⟨List.mem_filter.mpr ⟨List.mem_of_getElem? (i := 1159) (by decide +kernel), by decide +kernel⟩, List.mem_filter.mpr ⟨List.mem_of_getElem? (i := 1161) (by decide +kernel), by decide +kernel⟩, List.mem_filter.mpr ⟨List.mem_of_getElem? (i := 54) (by decide +kernel), by decide +kernel⟩, wn_X7, List.mem_filter.mpr ⟨List.mem_of_getElem? (i := 1162) (by decide +kernel), by decide +kernel⟩, by decide +kernel, by decide⟩
theorem lk_X7_304 : LkV RX7 304 yX7_lying cX7_lying 3 (some .int) 0 := ⟨List.mem_filter.mpr ⟨List.mem_of_getElem? (i := 1175) (by decide +kernel), by decide +kernel⟩, List.mem_filter.mpr ⟨List.mem_of_getElem? (i := 1177) (by decide +kernel), by decide +kernel⟩, List.mem_filter.mpr ⟨List.mem_of_getElem? (i := 57) (by decide +kernel), by decide +kernel⟩, wn_X7, List.mem_filter.mpr ⟨List.mem_of_getElem? (i := 1178) (by decide +kernel), by decide +kernel⟩, by decide +kernel, by decide⟩
theorem lk_X7_307 : LkV RX7 307 yX7_isOn cX7_isOn 5 (some .boolean) 2 := ⟨List.mem_filter.mpr ⟨List.mem_of_getElem? (i := 1198) (by decide +kernel), by decide +kernel⟩, List.mem_filter.mpr ⟨List.mem_of_getElem? (i := 1200) (by decide +kernel), by decide +kernel⟩, List.mem_filter.mpr ⟨List.mem_of_getElem? (i := 61) (by decide +kernel), by decide +kernel⟩, wn_X7, List.mem_filter.mpr ⟨List.mem_of_getElem? (i := 1201) (by decide +kernel), by decide +kernel⟩, by decide +kernel, by decide⟩
theorem lk_X7_310 : LkV RX7 310 yX7_isQuiet cX7_isQuiet 10 (some .boolean) 3 := ⟨List.mem_filter.mpr ⟨List.mem_of_getElem? (i := 1202) (by decide +kernel), by decide +kernel⟩, List.mem_filter.mpr ⟨List.mem_of_getElem? (i := 1204) (by decide +kernel), by decide +kernel⟩, List.mem_filter.mpr ⟨List.mem_of_getElem? (i := 62) (by decide +kernel), by decide +kernel⟩, wn_X7, List.mem_filter.mpr ⟨List.mem_of_getElem? (i := 1205) (by decide +kernel), by decide +kernel⟩, by decide +kernel, by decide⟩
theorem lk_X7_313 : LkV RX7 313 yX7_isRoom cX7_isRoom 5 (some .boolean) 2 := ⟨List.mem_filter.mpr ⟨List.mem_of_getElem? (i := 1194) (by decide +kernel), by decide +kernel⟩, List.mem_filter.mpr ⟨List.mem_of_getElem? (i := 1196) (by decide +kernel), by decide +kernel⟩, List.mem_filter.mpr ⟨List.mem_of_getElem? (i := 60) (by decide +kernel), by decide +kernel⟩, wn_X7, List.mem_filter.mpr ⟨List.mem_of_getElem? (i := 1197) (by decide +kernel), by decide +kernel⟩, by decide +kernel, by decide⟩
theorem lk_X7_316 : LkV RX7 316 yX7_isRide cX7_isRide 2 (some .boolean) 1 := ⟨List.mem_filter.mpr ⟨List.mem_of_getElem? (i := 1183) (by decide +kernel), by decide +kernel⟩, List.mem_filter.mpr ⟨List.mem_of_getElem? (i := 1185) (by decide +kernel), by decide +kernel⟩, List.mem_filter.mpr ⟨List.mem_of_getElem? (i := 58) (by decide +kernel), by decide +kernel⟩, wn_X7, List.mem_filter.mpr ⟨List.mem_of_getElem? (i := 1186) (by decide +kernel), by decide +kernel⟩, by decide +kernel, by decide⟩
theorem lk_X7_319 : LkS RX7 319 yX7_placeOf cX7_placeOf 3 (some .int) 3 := ⟨List.mem_filter.mpr ⟨List.mem_of_getElem? (i := 1187) (by decide +kernel), by decide +kernel⟩, List.mem_filter.mpr ⟨List.mem_of_getElem? (i := 1188) (by decide +kernel), by decide +kernel⟩, wn_X7, List.mem_filter.mpr ⟨List.mem_of_getElem? (i := 1189) (by decide +kernel), by decide +kernel⟩, by decide +kernel, by decide⟩
theorem lk_X7_323 : LkV RX7 323 yX7_fitsAt cX7_fitsAt 4 (some .boolean) 2 := ⟨List.mem_filter.mpr ⟨List.mem_of_getElem? (i := 1190) (by decide +kernel), by decide +kernel⟩, List.mem_filter.mpr ⟨List.mem_of_getElem? (i := 1192) (by decide +kernel), by decide +kernel⟩, List.mem_filter.mpr ⟨List.mem_of_getElem? (i := 59) (by decide +kernel), by decide +kernel⟩, wn_X7, List.mem_filter.mpr ⟨List.mem_of_getElem? (i := 1193) (by decide +kernel), by decide +kernel⟩, by decide +kernel, by decide⟩
theorem lk_X7_326 : LkV RX7 326 yX7_nextAsked cX7_nextAsked 3 (some .int) 0 := ⟨List.mem_filter.mpr ⟨List.mem_of_getElem? (i := 1218) (by decide +kernel), by decide +kernel⟩, List.mem_filter.mpr ⟨List.mem_of_getElem? (i := 1220) (by decide +kernel), by decide +kernel⟩, List.mem_filter.mpr ⟨List.mem_of_getElem? (i := 63) (by decide +kernel), by decide +kernel⟩, wn_X7, List.mem_filter.mpr ⟨List.mem_of_getElem? (i := 1221) (by decide +kernel), by decide +kernel⟩, by decide +kernel, by decide⟩
theorem lk_X7_329 : LkV RX7 329 yX7_firstPlace cX7_firstPlace 3 (some .int) 1 := ⟨List.mem_filter.mpr ⟨List.mem_of_getElem? (i := 1222) (by decide +kernel), by decide +kernel⟩, List.mem_filter.mpr ⟨List.mem_of_getElem? (i := 1224) (by decide +kernel), by decide +kernel⟩, List.mem_filter.mpr ⟨List.mem_of_getElem? (i := 64) (by decide +kernel), by decide +kernel⟩, wn_X7, List.mem_filter.mpr ⟨List.mem_of_getElem? (i := 1225) (by decide +kernel), by decide +kernel⟩, by decide +kernel, by decide⟩
theorem lk_X7_332 : LkV RX7 332 yX7_setLying cX7_setLying 3 (some .int) 0 := ⟨List.mem_filter.mpr ⟨List.mem_of_getElem? (i := 1234) (by decide +kernel), by decide +kernel⟩, List.mem_filter.mpr ⟨List.mem_of_getElem? (i := 1236) (by decide +kernel), by decide +kernel⟩, List.mem_filter.mpr ⟨List.mem_of_getElem? (i := 66) (by decide +kernel), by decide +kernel⟩, wn_X7, List.mem_filter.mpr ⟨List.mem_of_getElem? (i := 1237) (by decide +kernel), by decide +kernel⟩, by decide +kernel, by decide⟩
theorem lk_X7_335 : LkV RX7 335 yX7_pullsOn cX7_pullsOn 4 (some .int) 1 := ⟨List.mem_filter.mpr ⟨List.mem_of_getElem? (i := 1238) (by decide +kernel), by decide +kernel⟩, List.mem_filter.mpr ⟨List.mem_of_getElem? (i := 1240) (by decide +kernel), by decide +kernel⟩, List.mem_filter.mpr ⟨List.mem_of_getElem? (i := 67) (by decide +kernel), by decide +kernel⟩, wn_X7, List.mem_filter.mpr ⟨List.mem_of_getElem? (i := 1241) (by decide +kernel), by decide +kernel⟩, by decide +kernel, by decide⟩
theorem lk_X7_338 : LkV RX7 338 yX7_findWays cX7_findWays 4 none 0 := ⟨List.mem_filter.mpr ⟨List.mem_of_getElem? (i := 1230) (by decide +kernel), by decide +kernel⟩, List.mem_filter.mpr ⟨List.mem_of_getElem? (i := 1232) (by decide +kernel), by decide +kernel⟩, List.mem_filter.mpr ⟨List.mem_of_getElem? (i := 65) (by decide +kernel), by decide +kernel⟩, wn_X7, List.mem_filter.mpr ⟨List.mem_of_getElem? (i := 1233) (by decide +kernel), by decide +kernel⟩, by decide +kernel, by decide⟩
theorem lk_X7_344 : LkV RX7 344 yX7_worth cX7_worth 7 (some .int) 1 := ⟨List.mem_filter.mpr ⟨List.mem_of_getElem? (i := 1258) (by decide +kernel), by decide +kernel⟩, List.mem_filter.mpr ⟨List.mem_of_getElem? (i := 1260) (by decide +kernel), by decide +kernel⟩, List.mem_filter.mpr ⟨List.mem_of_getElem? (i := 69) (by decide +kernel), by decide +kernel⟩, wn_X7, List.mem_filter.mpr ⟨List.mem_of_getElem? (i := 1261) (by decide +kernel), by decide +kernel⟩, by decide +kernel, by decide⟩
theorem lk_X7_347 : LkV RX7 347 yX7_lapses cX7_lapses 3 (some .boolean) 1 := ⟨List.mem_filter.mpr ⟨List.mem_of_getElem? (i := 1254) (by decide +kernel), by decide +kernel⟩, List.mem_filter.mpr ⟨List.mem_of_getElem? (i := 1256) (by decide +kernel), by decide +kernel⟩, List.mem_filter.mpr ⟨List.mem_of_getElem? (i := 68) (by decide +kernel), by decide +kernel⟩, wn_X7, List.mem_filter.mpr ⟨List.mem_of_getElem? (i := 1257) (by decide +kernel), by decide +kernel⟩, by decide +kernel, by decide⟩
theorem lk_X7_350 : LkV RX7 350 yX7_lineOf cX7_lineOf 2 (some .int) 1 := ⟨List.mem_filter.mpr ⟨List.mem_of_getElem? (i := 1270) (by decide +kernel), by decide +kernel⟩, List.mem_filter.mpr ⟨List.mem_of_getElem? (i := 1272) (by decide +kernel), by decide +kernel⟩, List.mem_filter.mpr ⟨List.mem_of_getElem? (i := 70) (by decide +kernel), by decide +kernel⟩, wn_X7, List.mem_filter.mpr ⟨List.mem_of_getElem? (i := 1273) (by decide +kernel), by decide +kernel⟩, by decide +kernel, by decide⟩
theorem lk_X7_353 : LkV RX7 353 yX7_lights cX7_lights 5 none 1 := ⟨List.mem_filter.mpr ⟨List.mem_of_getElem? (i := 1274) (by decide +kernel), by decide +kernel⟩, List.mem_filter.mpr ⟨List.mem_of_getElem? (i := 1276) (by decide +kernel), by decide +kernel⟩, List.mem_filter.mpr ⟨List.mem_of_getElem? (i := 71) (by decide +kernel), by decide +kernel⟩, wn_X7, List.mem_filter.mpr ⟨List.mem_of_getElem? (i := 1277) (by decide +kernel), by decide +kernel⟩, by decide +kernel, by decide⟩
theorem lk_X7_356 : LkV RX7 356 yX7_rents cX7_rents 3 (some .int) 0 := ⟨List.mem_filter.mpr ⟨List.mem_of_getElem? (i := 1290) (by decide +kernel), by decide +kernel⟩, List.mem_filter.mpr ⟨List.mem_of_getElem? (i := 1292) (by decide +kernel), by decide +kernel⟩, List.mem_filter.mpr ⟨List.mem_of_getElem? (i := 72) (by decide +kernel), by decide +kernel⟩, wn_X7, List.mem_filter.mpr ⟨List.mem_of_getElem? (i := 1293) (by decide +kernel), by decide +kernel⟩, by decide +kernel, by decide⟩
theorem lk_X7_359 : LkV RX7 359 yX7_movesFor cX7_movesFor 13 (some .int) 5 := ⟨List.mem_filter.mpr ⟨List.mem_of_getElem? (i := 1298) (by decide +kernel), by decide +kernel⟩, List.mem_filter.mpr ⟨List.mem_of_getElem? (i := 1300) (by decide +kernel), by decide +kernel⟩, List.mem_filter.mpr ⟨List.mem_of_getElem? (i := 73) (by decide +kernel), by decide +kernel⟩, wn_X7, List.mem_filter.mpr ⟨List.mem_of_getElem? (i := 1301) (by decide +kernel), by decide +kernel⟩, by decide +kernel, by decide⟩
theorem lk_X7_363 : LkS RX7 363 yX7_bits cX7_bits 3 (some .int) 1 := ⟨List.mem_filter.mpr ⟨List.mem_of_getElem? (i := 1302) (by decide +kernel), by decide +kernel⟩, List.mem_filter.mpr ⟨List.mem_of_getElem? (i := 1303) (by decide +kernel), by decide +kernel⟩, wn_X7, List.mem_filter.mpr ⟨List.mem_of_getElem? (i := 1304) (by decide +kernel), by decide +kernel⟩, by decide +kernel, by decide⟩
theorem lk_X7_7 : LkV RX7 7 yX7_lay cX7_lay 5 none 1 := ⟨List.mem_filter.mpr ⟨List.mem_of_getElem? (i := 852) (by decide +kernel), by decide +kernel⟩, List.mem_filter.mpr ⟨List.mem_of_getElem? (i := 854) (by decide +kernel), by decide +kernel⟩, List.mem_filter.mpr ⟨List.mem_of_getElem? (i := 29) (by decide +kernel), by decide +kernel⟩, wn_X7, List.mem_filter.mpr ⟨List.mem_of_getElem? (i := 856) (by decide +kernel), by decide +kernel⟩, by decide +kernel, by decide⟩
theorem lk_J0_1059 : LkS RJ0 1059 yJ3_checkIndex_8e157 cJ3_checkIndex_8e157 3 (some .int) 3 := ⟨List.mem_filter.mpr ⟨List.mem_of_getElem? (i := 595) (by decide +kernel), by decide +kernel⟩, List.mem_filter.mpr ⟨List.mem_of_getElem? (i := 596) (by decide +kernel), by decide +kernel⟩, wn_J3, List.mem_filter.mpr ⟨List.mem_of_getElem? (i := 597) (by decide +kernel), by decide +kernel⟩, by decide +kernel, by decide⟩
theorem lk_J0_335 : LkV RJ0 335 yJ0_coder_7d493 cJ0_coder_7d493 1 (some .byte) 0 := ⟨List.mem_filter.mpr ⟨List.mem_of_getElem? (i := 573) (by decide +kernel), by decide +kernel⟩, List.mem_filter.mpr ⟨List.mem_of_getElem? (i := 574) (by decide +kernel), by decide +kernel⟩, List.mem_filter.mpr ⟨List.mem_of_getElem? (i := 575) (by decide +kernel), by decide +kernel⟩, wn_J0, List.mem_filter.mpr ⟨List.mem_of_getElem? (i := 576) (by decide +kernel), by decide +kernel⟩, by decide +kernel, by decide⟩
theorem lk_J0_492 : LkV RJ0 492 yJ0_isLatin1_aae02 cJ0_isLatin1_aae02 1 (some .boolean) 0 := ⟨List.mem_filter.mpr ⟨List.mem_of_getElem? (i := 583) (by decide +kernel), by decide +kernel⟩, List.mem_filter.mpr ⟨List.mem_of_getElem? (i := 584) (by decide +kernel), by decide +kernel⟩, List.mem_filter.mpr ⟨List.mem_of_getElem? (i := 585) (by decide +kernel), by decide +kernel⟩, wn_J0, List.mem_filter.mpr ⟨List.mem_of_getElem? (i := 586) (by decide +kernel), by decide +kernel⟩, by decide +kernel, by decide⟩
theorem lk_J0_495 : LkS RJ0 495 yJ1_charAt_3b067 cJ1_charAt_3b067 2 (some .char) 2 := ⟨List.mem_filter.mpr ⟨List.mem_of_getElem? (i := 587) (by decide +kernel), by decide +kernel⟩, List.mem_filter.mpr ⟨List.mem_of_getElem? (i := 588) (by decide +kernel), by decide +kernel⟩, wn_J1, List.mem_filter.mpr ⟨List.mem_of_getElem? (i := 589) (by decide +kernel), by decide +kernel⟩, by decide +kernel, by decide⟩
theorem lk_J0_498 : LkS RJ0 498 yJ2_charAt_3b067 cJ2_charAt_3b067 2 (some .char) 2 := ⟨List.mem_filter.mpr ⟨List.mem_of_getElem? (i := 598) (by decide +kernel), by decide +kernel⟩, List.mem_filter.mpr ⟨List.mem_of_getElem? (i := 599) (by decide +kernel), by decide +kernel⟩, wn_J2, List.mem_filter.mpr ⟨List.mem_of_getElem? (i := 600) (by decide +kernel), by decide +kernel⟩, by decide +kernel, by decide⟩
theorem lk_J1_9 : LkS RJ1 9 yJ0_checkIndex_df160 cJ0_checkIndex_df160 2 none 2 := ⟨List.mem_filter.mpr ⟨List.mem_of_getElem? (i := 590) (by decide +kernel), by decide +kernel⟩, List.mem_filter.mpr ⟨List.mem_of_getElem? (i := 591) (by decide +kernel), by decide +kernel⟩, wn_J0, List.mem_filter.mpr ⟨List.mem_of_getElem? (i := 592) (by decide +kernel), by decide +kernel⟩, by decide +kernel, by decide⟩
theorem lk_J2_414 : LkS RJ2 414 yJ0_checkIndex_df160 cJ0_checkIndex_df160 2 none 2 := ⟨List.mem_filter.mpr ⟨List.mem_of_getElem? (i := 607) (by decide +kernel), by decide +kernel⟩, List.mem_filter.mpr ⟨List.mem_of_getElem? (i := 591) (by decide +kernel), by decide +kernel⟩, wn_J0, List.mem_filter.mpr ⟨List.mem_of_getElem? (i := 592) (by decide +kernel), by decide +kernel⟩, by decide +kernel, by decide⟩
theorem lk_J2_48 : LkS RJ2 48 yJ2_length_9d52b cJ2_length_9d52b 1 (some .int) 1 := ⟨List.mem_filter.mpr ⟨List.mem_of_getElem? (i := 604) (by decide +kernel), by decide +kernel⟩, List.mem_filter.mpr ⟨List.mem_of_getElem? (i := 605) (by decide +kernel), by decide +kernel⟩, wn_J2, List.mem_filter.mpr ⟨List.mem_of_getElem? (i := 606) (by decide +kernel), by decide +kernel⟩, by decide +kernel, by decide⟩
theorem lk_J2_67 : LkS RJ2 67 yJ2_checkIndex_2214a cJ2_checkIndex_2214a 2 none 2 := ⟨List.mem_filter.mpr ⟨List.mem_of_getElem? (i := 601) (by decide +kernel), by decide +kernel⟩, List.mem_filter.mpr ⟨List.mem_of_getElem? (i := 602) (by decide +kernel), by decide +kernel⟩, wn_J2, List.mem_filter.mpr ⟨List.mem_of_getElem? (i := 603) (by decide +kernel), by decide +kernel⟩, by decide +kernel, by decide⟩
theorem lk_J2_71 : LkS RJ2 71 yJ2_getChar_3b067 cJ2_getChar_3b067 2 (some .char) 2 := ⟨List.mem_filter.mpr ⟨List.mem_of_getElem? (i := 608) (by decide +kernel), by decide +kernel⟩, List.mem_filter.mpr ⟨List.mem_of_getElem? (i := 609) (by decide +kernel), by decide +kernel⟩, wn_J2, List.mem_filter.mpr ⟨List.mem_of_getElem? (i := 610) (by decide +kernel), by decide +kernel⟩, by decide +kernel, by decide⟩
theorem lk_X3_11 : LkIN RX3 11 yX4_init cX4_init 1 none 0 := ⟨by decide +kernel, List.mem_filter.mpr ⟨List.mem_of_getElem? (i := 134) (by decide +kernel), by decide +kernel⟩, wn_X4, List.mem_filter.mpr ⟨List.mem_of_getElem? (i := 135) (by decide +kernel), by decide +kernel⟩, by decide +kernel, by decide +kernel, by decide⟩
theorem lk_X5_21 : LkSN RX5 21 yX6_isWithin cX6_isWithin 3 (some .boolean) 3 := ⟨by decide +kernel, List.mem_filter.mpr ⟨List.mem_of_getElem? (i := 332) (by decide +kernel), by decide +kernel⟩, wn_X6, List.mem_filter.mpr ⟨List.mem_of_getElem? (i := 333) (by decide +kernel), by decide +kernel⟩, by decide +kernel, by decide⟩
theorem lk_X6_34 : LkIN RX6 34 yX4_init cX4_init 1 none 0 := ⟨by decide +kernel, List.mem_filter.mpr ⟨List.mem_of_getElem? (i := 134) (by decide +kernel), by decide +kernel⟩, wn_X4, List.mem_filter.mpr ⟨List.mem_of_getElem? (i := 135) (by decide +kernel), by decide +kernel⟩, by decide +kernel, by decide +kernel, by decide⟩
theorem lk_X6_41 : LkIN RX6 41 yX5_init cX5_init 1 none 0 := ⟨by decide +kernel, List.mem_filter.mpr ⟨List.mem_of_getElem? (i := 160) (by decide +kernel), by decide +kernel⟩, wn_X5, List.mem_filter.mpr ⟨List.mem_of_getElem? (i := 161) (by decide +kernel), by decide +kernel⟩, by decide +kernel, by decide +kernel, by decide⟩
theorem lk_X6_48 : LkIN RX6 48 yX2_init cX2_init 1 none 0 := ⟨by decide +kernel, List.mem_filter.mpr ⟨List.mem_of_getElem? (i := 176) (by decide +kernel), by decide +kernel⟩, wn_X2, List.mem_filter.mpr ⟨List.mem_of_getElem? (i := 177) (by decide +kernel), by decide +kernel⟩, by decide +kernel, by decide +kernel, by decide⟩
theorem lk_X6_55 : LkIN RX6 55 yX1_init cX1_init 1 none 0 := ⟨by decide +kernel, List.mem_filter.mpr ⟨List.mem_of_getElem? (i := 201) (by decide +kernel), by decide +kernel⟩, wn_X1, List.mem_filter.mpr ⟨List.mem_of_getElem? (i := 202) (by decide +kernel), by decide +kernel⟩, by decide +kernel, by decide +kernel, by decide⟩
def PI (P : Int32 → HP → Prop) : Option Value → HP → Prop := fun v h' => ∃ r : Int32, v = some (.int r) ∧ P r h'
def PV (P : HP → Prop) : Option Value → HP → Prop := fun v h' => v = none ∧ P h'
def PR (P : Nat → HP → Prop) : Option Value → HP → Prop := fun v h' => ∃ r : Nat, v = some (rv r) ∧ P r h'
section ARITY
variable {G : GT} {Γ : CT} {y : MethodName} {cc : ByteArray} {nL : Nat} {rt : Option FieldType} {Q : State → Prop} {k n : Nat} {h : HP} {pc q : Nat} {lv : List (Option Value)} {st : List Value} {lev mc ms : Nat} {lev' mc' ms' nL' np i b : Nat} {y' : MethodName} {cc' : ByteArray} {rt' : Option FieldType}
theorem cV0I {ci : Nat} {T : u_T} {N : Nat}  {P : Int32 → HP → Prop} (C : Cx G Γ y cc nL rt) (R : Rm Γ lev mc ms) (hq : pc + 3 = q) (d : decode cc pc = .ok (.invokevirtual i, 3)) (L : LkV y.cls i y' cc' nL' rt' np) (hM : Con G lev' mc' ms' y' cc' nL' rt' (rv b :: []) h (PI P)) (hlev : lev' < lev) (hmc : k + mc' ≤ mc) (hms : n + ms' ≤ ms) (hn : 0 = np) (hst : (st.map fun v => v.category).sum ≤ 8) (hcl : vwCl[ci]? = some (y'.cls, T, N)) (hk : h.kd b = (0, ci)) (kk : ∀ r h', P r h' → wX G Γ Q (k + mc') (n + ms') h' q lv (.int r :: st)) : wX G Γ Q k n h pc lv (rv b :: st) := by
  exact r_callV (As := []) C R hq d L.1 L.2.1 L.2.2.1 L.2.2.2.1 L.2.2.2.2.1 L.2.2.2.2.2.1 hcl L.2.2.2.2.2.2 hM hlev hmc hms hn hst hk (fun v h' hp => by obtain ⟨r, rfl, hp⟩ := hp; exact kk r h' hp)
theorem cV0V {ci : Nat} {T : u_T} {N : Nat}  {P : HP → Prop} (C : Cx G Γ y cc nL rt) (R : Rm Γ lev mc ms) (hq : pc + 3 = q) (d : decode cc pc = .ok (.invokevirtual i, 3)) (L : LkV y.cls i y' cc' nL' rt' np) (hM : Con G lev' mc' ms' y' cc' nL' rt' (rv b :: []) h (PV P)) (hlev : lev' < lev) (hmc : k + mc' ≤ mc) (hms : n + ms' ≤ ms) (hn : 0 = np) (hst : (st.map fun v => v.category).sum ≤ 8) (hcl : vwCl[ci]? = some (y'.cls, T, N)) (hk : h.kd b = (0, ci)) (kk : ∀ h', P h' → wX G Γ Q (k + mc') (n + ms') h' q lv st) : wX G Γ Q k n h pc lv (rv b :: st) := by
  exact r_callV (As := []) C R hq d L.1 L.2.1 L.2.2.1 L.2.2.2.1 L.2.2.2.2.1 L.2.2.2.2.2.1 hcl L.2.2.2.2.2.2 hM hlev hmc hms hn hst hk (fun v h' hp => by obtain ⟨rfl, hp⟩ := hp; exact kk h' hp)
theorem cV0R {ci : Nat} {T : u_T} {N : Nat}  {P : Nat → HP → Prop} (C : Cx G Γ y cc nL rt) (R : Rm Γ lev mc ms) (hq : pc + 3 = q) (d : decode cc pc = .ok (.invokevirtual i, 3)) (L : LkV y.cls i y' cc' nL' rt' np) (hM : Con G lev' mc' ms' y' cc' nL' rt' (rv b :: []) h (PR P)) (hlev : lev' < lev) (hmc : k + mc' ≤ mc) (hms : n + ms' ≤ ms) (hn : 0 = np) (hst : (st.map fun v => v.category).sum ≤ 8) (hcl : vwCl[ci]? = some (y'.cls, T, N)) (hk : h.kd b = (0, ci)) (kk : ∀ r h', P r h' → wX G Γ Q (k + mc') (n + ms') h' q lv (rv r :: st)) : wX G Γ Q k n h pc lv (rv b :: st) := by
  exact r_callV (As := []) C R hq d L.1 L.2.1 L.2.2.1 L.2.2.2.1 L.2.2.2.2.1 L.2.2.2.2.2.1 hcl L.2.2.2.2.2.2 hM hlev hmc hms hn hst hk (fun v h' hp => by obtain ⟨r, rfl, hp⟩ := hp; exact kk r h' hp)
theorem cV1I {ci : Nat} {T : u_T} {N : Nat} {v1 : Value} {P : Int32 → HP → Prop} (C : Cx G Γ y cc nL rt) (R : Rm Γ lev mc ms) (hq : pc + 3 = q) (d : decode cc pc = .ok (.invokevirtual i, 3)) (L : LkV y.cls i y' cc' nL' rt' np) (hM : Con G lev' mc' ms' y' cc' nL' rt' (rv b :: [v1]) h (PI P)) (hlev : lev' < lev) (hmc : k + mc' ≤ mc) (hms : n + ms' ≤ ms) (hn : 1 = np) (hst : (st.map fun v => v.category).sum ≤ 8) (hcl : vwCl[ci]? = some (y'.cls, T, N)) (hk : h.kd b = (0, ci)) (kk : ∀ r h', P r h' → wX G Γ Q (k + mc') (n + ms') h' q lv (.int r :: st)) : wX G Γ Q k n h pc lv (v1 :: rv b :: st) := by
  exact r_callV (As := [v1]) C R hq d L.1 L.2.1 L.2.2.1 L.2.2.2.1 L.2.2.2.2.1 L.2.2.2.2.2.1 hcl L.2.2.2.2.2.2 hM hlev hmc hms hn hst hk (fun v h' hp => by obtain ⟨r, rfl, hp⟩ := hp; exact kk r h' hp)
theorem cV1V {ci : Nat} {T : u_T} {N : Nat} {v1 : Value} {P : HP → Prop} (C : Cx G Γ y cc nL rt) (R : Rm Γ lev mc ms) (hq : pc + 3 = q) (d : decode cc pc = .ok (.invokevirtual i, 3)) (L : LkV y.cls i y' cc' nL' rt' np) (hM : Con G lev' mc' ms' y' cc' nL' rt' (rv b :: [v1]) h (PV P)) (hlev : lev' < lev) (hmc : k + mc' ≤ mc) (hms : n + ms' ≤ ms) (hn : 1 = np) (hst : (st.map fun v => v.category).sum ≤ 8) (hcl : vwCl[ci]? = some (y'.cls, T, N)) (hk : h.kd b = (0, ci)) (kk : ∀ h', P h' → wX G Γ Q (k + mc') (n + ms') h' q lv st) : wX G Γ Q k n h pc lv (v1 :: rv b :: st) := by
  exact r_callV (As := [v1]) C R hq d L.1 L.2.1 L.2.2.1 L.2.2.2.1 L.2.2.2.2.1 L.2.2.2.2.2.1 hcl L.2.2.2.2.2.2 hM hlev hmc hms hn hst hk (fun v h' hp => by obtain ⟨rfl, hp⟩ := hp; exact kk h' hp)
theorem cV1R {ci : Nat} {T : u_T} {N : Nat} {v1 : Value} {P : Nat → HP → Prop} (C : Cx G Γ y cc nL rt) (R : Rm Γ lev mc ms) (hq : pc + 3 = q) (d : decode cc pc = .ok (.invokevirtual i, 3)) (L : LkV y.cls i y' cc' nL' rt' np) (hM : Con G lev' mc' ms' y' cc' nL' rt' (rv b :: [v1]) h (PR P)) (hlev : lev' < lev) (hmc : k + mc' ≤ mc) (hms : n + ms' ≤ ms) (hn : 1 = np) (hst : (st.map fun v => v.category).sum ≤ 8) (hcl : vwCl[ci]? = some (y'.cls, T, N)) (hk : h.kd b = (0, ci)) (kk : ∀ r h', P r h' → wX G Γ Q (k + mc') (n + ms') h' q lv (rv r :: st)) : wX G Γ Q k n h pc lv (v1 :: rv b :: st) := by
  exact r_callV (As := [v1]) C R hq d L.1 L.2.1 L.2.2.1 L.2.2.2.1 L.2.2.2.2.1 L.2.2.2.2.2.1 hcl L.2.2.2.2.2.2 hM hlev hmc hms hn hst hk (fun v h' hp => by obtain ⟨r, rfl, hp⟩ := hp; exact kk r h' hp)
theorem cV2I {ci : Nat} {T : u_T} {N : Nat} {v1 v2 : Value} {P : Int32 → HP → Prop} (C : Cx G Γ y cc nL rt) (R : Rm Γ lev mc ms) (hq : pc + 3 = q) (d : decode cc pc = .ok (.invokevirtual i, 3)) (L : LkV y.cls i y' cc' nL' rt' np) (hM : Con G lev' mc' ms' y' cc' nL' rt' (rv b :: [v1, v2]) h (PI P)) (hlev : lev' < lev) (hmc : k + mc' ≤ mc) (hms : n + ms' ≤ ms) (hn : 2 = np) (hst : (st.map fun v => v.category).sum ≤ 8) (hcl : vwCl[ci]? = some (y'.cls, T, N)) (hk : h.kd b = (0, ci)) (kk : ∀ r h', P r h' → wX G Γ Q (k + mc') (n + ms') h' q lv (.int r :: st)) : wX G Γ Q k n h pc lv (v2 :: v1 :: rv b :: st) := by
  exact r_callV (As := [v1, v2]) C R hq d L.1 L.2.1 L.2.2.1 L.2.2.2.1 L.2.2.2.2.1 L.2.2.2.2.2.1 hcl L.2.2.2.2.2.2 hM hlev hmc hms hn hst hk (fun v h' hp => by obtain ⟨r, rfl, hp⟩ := hp; exact kk r h' hp)
theorem cV2V {ci : Nat} {T : u_T} {N : Nat} {v1 v2 : Value} {P : HP → Prop} (C : Cx G Γ y cc nL rt) (R : Rm Γ lev mc ms) (hq : pc + 3 = q) (d : decode cc pc = .ok (.invokevirtual i, 3)) (L : LkV y.cls i y' cc' nL' rt' np) (hM : Con G lev' mc' ms' y' cc' nL' rt' (rv b :: [v1, v2]) h (PV P)) (hlev : lev' < lev) (hmc : k + mc' ≤ mc) (hms : n + ms' ≤ ms) (hn : 2 = np) (hst : (st.map fun v => v.category).sum ≤ 8) (hcl : vwCl[ci]? = some (y'.cls, T, N)) (hk : h.kd b = (0, ci)) (kk : ∀ h', P h' → wX G Γ Q (k + mc') (n + ms') h' q lv st) : wX G Γ Q k n h pc lv (v2 :: v1 :: rv b :: st) := by
  exact r_callV (As := [v1, v2]) C R hq d L.1 L.2.1 L.2.2.1 L.2.2.2.1 L.2.2.2.2.1 L.2.2.2.2.2.1 hcl L.2.2.2.2.2.2 hM hlev hmc hms hn hst hk (fun v h' hp => by obtain ⟨rfl, hp⟩ := hp; exact kk h' hp)
theorem cV2R {ci : Nat} {T : u_T} {N : Nat} {v1 v2 : Value} {P : Nat → HP → Prop} (C : Cx G Γ y cc nL rt) (R : Rm Γ lev mc ms) (hq : pc + 3 = q) (d : decode cc pc = .ok (.invokevirtual i, 3)) (L : LkV y.cls i y' cc' nL' rt' np) (hM : Con G lev' mc' ms' y' cc' nL' rt' (rv b :: [v1, v2]) h (PR P)) (hlev : lev' < lev) (hmc : k + mc' ≤ mc) (hms : n + ms' ≤ ms) (hn : 2 = np) (hst : (st.map fun v => v.category).sum ≤ 8) (hcl : vwCl[ci]? = some (y'.cls, T, N)) (hk : h.kd b = (0, ci)) (kk : ∀ r h', P r h' → wX G Γ Q (k + mc') (n + ms') h' q lv (rv r :: st)) : wX G Γ Q k n h pc lv (v2 :: v1 :: rv b :: st) := by
  exact r_callV (As := [v1, v2]) C R hq d L.1 L.2.1 L.2.2.1 L.2.2.2.1 L.2.2.2.2.1 L.2.2.2.2.2.1 hcl L.2.2.2.2.2.2 hM hlev hmc hms hn hst hk (fun v h' hp => by obtain ⟨r, rfl, hp⟩ := hp; exact kk r h' hp)
theorem cV3I {ci : Nat} {T : u_T} {N : Nat} {v1 v2 v3 : Value} {P : Int32 → HP → Prop} (C : Cx G Γ y cc nL rt) (R : Rm Γ lev mc ms) (hq : pc + 3 = q) (d : decode cc pc = .ok (.invokevirtual i, 3)) (L : LkV y.cls i y' cc' nL' rt' np) (hM : Con G lev' mc' ms' y' cc' nL' rt' (rv b :: [v1, v2, v3]) h (PI P)) (hlev : lev' < lev) (hmc : k + mc' ≤ mc) (hms : n + ms' ≤ ms) (hn : 3 = np) (hst : (st.map fun v => v.category).sum ≤ 8) (hcl : vwCl[ci]? = some (y'.cls, T, N)) (hk : h.kd b = (0, ci)) (kk : ∀ r h', P r h' → wX G Γ Q (k + mc') (n + ms') h' q lv (.int r :: st)) : wX G Γ Q k n h pc lv (v3 :: v2 :: v1 :: rv b :: st) := by
  exact r_callV (As := [v1, v2, v3]) C R hq d L.1 L.2.1 L.2.2.1 L.2.2.2.1 L.2.2.2.2.1 L.2.2.2.2.2.1 hcl L.2.2.2.2.2.2 hM hlev hmc hms hn hst hk (fun v h' hp => by obtain ⟨r, rfl, hp⟩ := hp; exact kk r h' hp)
theorem cV3V {ci : Nat} {T : u_T} {N : Nat} {v1 v2 v3 : Value} {P : HP → Prop} (C : Cx G Γ y cc nL rt) (R : Rm Γ lev mc ms) (hq : pc + 3 = q) (d : decode cc pc = .ok (.invokevirtual i, 3)) (L : LkV y.cls i y' cc' nL' rt' np) (hM : Con G lev' mc' ms' y' cc' nL' rt' (rv b :: [v1, v2, v3]) h (PV P)) (hlev : lev' < lev) (hmc : k + mc' ≤ mc) (hms : n + ms' ≤ ms) (hn : 3 = np) (hst : (st.map fun v => v.category).sum ≤ 8) (hcl : vwCl[ci]? = some (y'.cls, T, N)) (hk : h.kd b = (0, ci)) (kk : ∀ h', P h' → wX G Γ Q (k + mc') (n + ms') h' q lv st) : wX G Γ Q k n h pc lv (v3 :: v2 :: v1 :: rv b :: st) := by
  exact r_callV (As := [v1, v2, v3]) C R hq d L.1 L.2.1 L.2.2.1 L.2.2.2.1 L.2.2.2.2.1 L.2.2.2.2.2.1 hcl L.2.2.2.2.2.2 hM hlev hmc hms hn hst hk (fun v h' hp => by obtain ⟨rfl, hp⟩ := hp; exact kk h' hp)
theorem cV3R {ci : Nat} {T : u_T} {N : Nat} {v1 v2 v3 : Value} {P : Nat → HP → Prop} (C : Cx G Γ y cc nL rt) (R : Rm Γ lev mc ms) (hq : pc + 3 = q) (d : decode cc pc = .ok (.invokevirtual i, 3)) (L : LkV y.cls i y' cc' nL' rt' np) (hM : Con G lev' mc' ms' y' cc' nL' rt' (rv b :: [v1, v2, v3]) h (PR P)) (hlev : lev' < lev) (hmc : k + mc' ≤ mc) (hms : n + ms' ≤ ms) (hn : 3 = np) (hst : (st.map fun v => v.category).sum ≤ 8) (hcl : vwCl[ci]? = some (y'.cls, T, N)) (hk : h.kd b = (0, ci)) (kk : ∀ r h', P r h' → wX G Γ Q (k + mc') (n + ms') h' q lv (rv r :: st)) : wX G Γ Q k n h pc lv (v3 :: v2 :: v1 :: rv b :: st) := by
  exact r_callV (As := [v1, v2, v3]) C R hq d L.1 L.2.1 L.2.2.1 L.2.2.2.1 L.2.2.2.2.1 L.2.2.2.2.2.1 hcl L.2.2.2.2.2.2 hM hlev hmc hms hn hst hk (fun v h' hp => by obtain ⟨r, rfl, hp⟩ := hp; exact kk r h' hp)
theorem cV4I {ci : Nat} {T : u_T} {N : Nat} {v1 v2 v3 v4 : Value} {P : Int32 → HP → Prop} (C : Cx G Γ y cc nL rt) (R : Rm Γ lev mc ms) (hq : pc + 3 = q) (d : decode cc pc = .ok (.invokevirtual i, 3)) (L : LkV y.cls i y' cc' nL' rt' np) (hM : Con G lev' mc' ms' y' cc' nL' rt' (rv b :: [v1, v2, v3, v4]) h (PI P)) (hlev : lev' < lev) (hmc : k + mc' ≤ mc) (hms : n + ms' ≤ ms) (hn : 4 = np) (hst : (st.map fun v => v.category).sum ≤ 8) (hcl : vwCl[ci]? = some (y'.cls, T, N)) (hk : h.kd b = (0, ci)) (kk : ∀ r h', P r h' → wX G Γ Q (k + mc') (n + ms') h' q lv (.int r :: st)) : wX G Γ Q k n h pc lv (v4 :: v3 :: v2 :: v1 :: rv b :: st) := by
  exact r_callV (As := [v1, v2, v3, v4]) C R hq d L.1 L.2.1 L.2.2.1 L.2.2.2.1 L.2.2.2.2.1 L.2.2.2.2.2.1 hcl L.2.2.2.2.2.2 hM hlev hmc hms hn hst hk (fun v h' hp => by obtain ⟨r, rfl, hp⟩ := hp; exact kk r h' hp)
theorem cV4V {ci : Nat} {T : u_T} {N : Nat} {v1 v2 v3 v4 : Value} {P : HP → Prop} (C : Cx G Γ y cc nL rt) (R : Rm Γ lev mc ms) (hq : pc + 3 = q) (d : decode cc pc = .ok (.invokevirtual i, 3)) (L : LkV y.cls i y' cc' nL' rt' np) (hM : Con G lev' mc' ms' y' cc' nL' rt' (rv b :: [v1, v2, v3, v4]) h (PV P)) (hlev : lev' < lev) (hmc : k + mc' ≤ mc) (hms : n + ms' ≤ ms) (hn : 4 = np) (hst : (st.map fun v => v.category).sum ≤ 8) (hcl : vwCl[ci]? = some (y'.cls, T, N)) (hk : h.kd b = (0, ci)) (kk : ∀ h', P h' → wX G Γ Q (k + mc') (n + ms') h' q lv st) : wX G Γ Q k n h pc lv (v4 :: v3 :: v2 :: v1 :: rv b :: st) := by
  exact r_callV (As := [v1, v2, v3, v4]) C R hq d L.1 L.2.1 L.2.2.1 L.2.2.2.1 L.2.2.2.2.1 L.2.2.2.2.2.1 hcl L.2.2.2.2.2.2 hM hlev hmc hms hn hst hk (fun v h' hp => by obtain ⟨rfl, hp⟩ := hp; exact kk h' hp)
theorem cV4R {ci : Nat} {T : u_T} {N : Nat} {v1 v2 v3 v4 : Value} {P : Nat → HP → Prop} (C : Cx G Γ y cc nL rt) (R : Rm Γ lev mc ms) (hq : pc + 3 = q) (d : decode cc pc = .ok (.invokevirtual i, 3)) (L : LkV y.cls i y' cc' nL' rt' np) (hM : Con G lev' mc' ms' y' cc' nL' rt' (rv b :: [v1, v2, v3, v4]) h (PR P)) (hlev : lev' < lev) (hmc : k + mc' ≤ mc) (hms : n + ms' ≤ ms) (hn : 4 = np) (hst : (st.map fun v => v.category).sum ≤ 8) (hcl : vwCl[ci]? = some (y'.cls, T, N)) (hk : h.kd b = (0, ci)) (kk : ∀ r h', P r h' → wX G Γ Q (k + mc') (n + ms') h' q lv (rv r :: st)) : wX G Γ Q k n h pc lv (v4 :: v3 :: v2 :: v1 :: rv b :: st) := by
  exact r_callV (As := [v1, v2, v3, v4]) C R hq d L.1 L.2.1 L.2.2.1 L.2.2.2.1 L.2.2.2.2.1 L.2.2.2.2.2.1 hcl L.2.2.2.2.2.2 hM hlev hmc hms hn hst hk (fun v h' hp => by obtain ⟨r, rfl, hp⟩ := hp; exact kk r h' hp)
theorem cV5I {ci : Nat} {T : u_T} {N : Nat} {v1 v2 v3 v4 v5 : Value} {P : Int32 → HP → Prop} (C : Cx G Γ y cc nL rt) (R : Rm Γ lev mc ms) (hq : pc + 3 = q) (d : decode cc pc = .ok (.invokevirtual i, 3)) (L : LkV y.cls i y' cc' nL' rt' np) (hM : Con G lev' mc' ms' y' cc' nL' rt' (rv b :: [v1, v2, v3, v4, v5]) h (PI P)) (hlev : lev' < lev) (hmc : k + mc' ≤ mc) (hms : n + ms' ≤ ms) (hn : 5 = np) (hst : (st.map fun v => v.category).sum ≤ 8) (hcl : vwCl[ci]? = some (y'.cls, T, N)) (hk : h.kd b = (0, ci)) (kk : ∀ r h', P r h' → wX G Γ Q (k + mc') (n + ms') h' q lv (.int r :: st)) : wX G Γ Q k n h pc lv (v5 :: v4 :: v3 :: v2 :: v1 :: rv b :: st) := by
  exact r_callV (As := [v1, v2, v3, v4, v5]) C R hq d L.1 L.2.1 L.2.2.1 L.2.2.2.1 L.2.2.2.2.1 L.2.2.2.2.2.1 hcl L.2.2.2.2.2.2 hM hlev hmc hms hn hst hk (fun v h' hp => by obtain ⟨r, rfl, hp⟩ := hp; exact kk r h' hp)
theorem cV5V {ci : Nat} {T : u_T} {N : Nat} {v1 v2 v3 v4 v5 : Value} {P : HP → Prop} (C : Cx G Γ y cc nL rt) (R : Rm Γ lev mc ms) (hq : pc + 3 = q) (d : decode cc pc = .ok (.invokevirtual i, 3)) (L : LkV y.cls i y' cc' nL' rt' np) (hM : Con G lev' mc' ms' y' cc' nL' rt' (rv b :: [v1, v2, v3, v4, v5]) h (PV P)) (hlev : lev' < lev) (hmc : k + mc' ≤ mc) (hms : n + ms' ≤ ms) (hn : 5 = np) (hst : (st.map fun v => v.category).sum ≤ 8) (hcl : vwCl[ci]? = some (y'.cls, T, N)) (hk : h.kd b = (0, ci)) (kk : ∀ h', P h' → wX G Γ Q (k + mc') (n + ms') h' q lv st) : wX G Γ Q k n h pc lv (v5 :: v4 :: v3 :: v2 :: v1 :: rv b :: st) := by
  exact r_callV (As := [v1, v2, v3, v4, v5]) C R hq d L.1 L.2.1 L.2.2.1 L.2.2.2.1 L.2.2.2.2.1 L.2.2.2.2.2.1 hcl L.2.2.2.2.2.2 hM hlev hmc hms hn hst hk (fun v h' hp => by obtain ⟨rfl, hp⟩ := hp; exact kk h' hp)
theorem cV5R {ci : Nat} {T : u_T} {N : Nat} {v1 v2 v3 v4 v5 : Value} {P : Nat → HP → Prop} (C : Cx G Γ y cc nL rt) (R : Rm Γ lev mc ms) (hq : pc + 3 = q) (d : decode cc pc = .ok (.invokevirtual i, 3)) (L : LkV y.cls i y' cc' nL' rt' np) (hM : Con G lev' mc' ms' y' cc' nL' rt' (rv b :: [v1, v2, v3, v4, v5]) h (PR P)) (hlev : lev' < lev) (hmc : k + mc' ≤ mc) (hms : n + ms' ≤ ms) (hn : 5 = np) (hst : (st.map fun v => v.category).sum ≤ 8) (hcl : vwCl[ci]? = some (y'.cls, T, N)) (hk : h.kd b = (0, ci)) (kk : ∀ r h', P r h' → wX G Γ Q (k + mc') (n + ms') h' q lv (rv r :: st)) : wX G Γ Q k n h pc lv (v5 :: v4 :: v3 :: v2 :: v1 :: rv b :: st) := by
  exact r_callV (As := [v1, v2, v3, v4, v5]) C R hq d L.1 L.2.1 L.2.2.1 L.2.2.2.1 L.2.2.2.2.1 L.2.2.2.2.2.1 hcl L.2.2.2.2.2.2 hM hlev hmc hms hn hst hk (fun v h' hp => by obtain ⟨r, rfl, hp⟩ := hp; exact kk r h' hp)
theorem cV6I {ci : Nat} {T : u_T} {N : Nat} {v1 v2 v3 v4 v5 v6 : Value} {P : Int32 → HP → Prop} (C : Cx G Γ y cc nL rt) (R : Rm Γ lev mc ms) (hq : pc + 3 = q) (d : decode cc pc = .ok (.invokevirtual i, 3)) (L : LkV y.cls i y' cc' nL' rt' np) (hM : Con G lev' mc' ms' y' cc' nL' rt' (rv b :: [v1, v2, v3, v4, v5, v6]) h (PI P)) (hlev : lev' < lev) (hmc : k + mc' ≤ mc) (hms : n + ms' ≤ ms) (hn : 6 = np) (hst : (st.map fun v => v.category).sum ≤ 8) (hcl : vwCl[ci]? = some (y'.cls, T, N)) (hk : h.kd b = (0, ci)) (kk : ∀ r h', P r h' → wX G Γ Q (k + mc') (n + ms') h' q lv (.int r :: st)) : wX G Γ Q k n h pc lv (v6 :: v5 :: v4 :: v3 :: v2 :: v1 :: rv b :: st) := by
  exact r_callV (As := [v1, v2, v3, v4, v5, v6]) C R hq d L.1 L.2.1 L.2.2.1 L.2.2.2.1 L.2.2.2.2.1 L.2.2.2.2.2.1 hcl L.2.2.2.2.2.2 hM hlev hmc hms hn hst hk (fun v h' hp => by obtain ⟨r, rfl, hp⟩ := hp; exact kk r h' hp)
theorem cV6V {ci : Nat} {T : u_T} {N : Nat} {v1 v2 v3 v4 v5 v6 : Value} {P : HP → Prop} (C : Cx G Γ y cc nL rt) (R : Rm Γ lev mc ms) (hq : pc + 3 = q) (d : decode cc pc = .ok (.invokevirtual i, 3)) (L : LkV y.cls i y' cc' nL' rt' np) (hM : Con G lev' mc' ms' y' cc' nL' rt' (rv b :: [v1, v2, v3, v4, v5, v6]) h (PV P)) (hlev : lev' < lev) (hmc : k + mc' ≤ mc) (hms : n + ms' ≤ ms) (hn : 6 = np) (hst : (st.map fun v => v.category).sum ≤ 8) (hcl : vwCl[ci]? = some (y'.cls, T, N)) (hk : h.kd b = (0, ci)) (kk : ∀ h', P h' → wX G Γ Q (k + mc') (n + ms') h' q lv st) : wX G Γ Q k n h pc lv (v6 :: v5 :: v4 :: v3 :: v2 :: v1 :: rv b :: st) := by
  exact r_callV (As := [v1, v2, v3, v4, v5, v6]) C R hq d L.1 L.2.1 L.2.2.1 L.2.2.2.1 L.2.2.2.2.1 L.2.2.2.2.2.1 hcl L.2.2.2.2.2.2 hM hlev hmc hms hn hst hk (fun v h' hp => by obtain ⟨rfl, hp⟩ := hp; exact kk h' hp)
theorem cV6R {ci : Nat} {T : u_T} {N : Nat} {v1 v2 v3 v4 v5 v6 : Value} {P : Nat → HP → Prop} (C : Cx G Γ y cc nL rt) (R : Rm Γ lev mc ms) (hq : pc + 3 = q) (d : decode cc pc = .ok (.invokevirtual i, 3)) (L : LkV y.cls i y' cc' nL' rt' np) (hM : Con G lev' mc' ms' y' cc' nL' rt' (rv b :: [v1, v2, v3, v4, v5, v6]) h (PR P)) (hlev : lev' < lev) (hmc : k + mc' ≤ mc) (hms : n + ms' ≤ ms) (hn : 6 = np) (hst : (st.map fun v => v.category).sum ≤ 8) (hcl : vwCl[ci]? = some (y'.cls, T, N)) (hk : h.kd b = (0, ci)) (kk : ∀ r h', P r h' → wX G Γ Q (k + mc') (n + ms') h' q lv (rv r :: st)) : wX G Γ Q k n h pc lv (v6 :: v5 :: v4 :: v3 :: v2 :: v1 :: rv b :: st) := by
  exact r_callV (As := [v1, v2, v3, v4, v5, v6]) C R hq d L.1 L.2.1 L.2.2.1 L.2.2.2.1 L.2.2.2.2.1 L.2.2.2.2.2.1 hcl L.2.2.2.2.2.2 hM hlev hmc hms hn hst hk (fun v h' hp => by obtain ⟨r, rfl, hp⟩ := hp; exact kk r h' hp)
theorem cS0I   {P : Int32 → HP → Prop} (C : Cx G Γ y cc nL rt) (R : Rm Γ lev mc ms) (hq : pc + 3 = q) (d : decode cc pc = .ok (.invokestatic i, 3)) (L : LkS y.cls i y' cc' nL' rt' np) (hM : Con G lev' mc' ms' y' cc' nL' rt' ([]) h (PI P)) (hlev : lev' < lev) (hmc : k + mc' ≤ mc) (hms : n + ms' ≤ ms) (hn : 0 = np) (hst : (st.map fun v => v.category).sum ≤ 8)  (kk : ∀ r h', P r h' → wX G Γ Q (k + mc') (n + ms') h' q lv (.int r :: st)) : wX G Γ Q k n h pc lv (st) := by
  exact r_callS (As := []) C R hq d L.1 L.2.1 L.2.2.1 L.2.2.2.1 L.2.2.2.2.1 L.2.2.2.2.2 hM hlev hmc hms hn hst (fun v h' hp => by obtain ⟨r, rfl, hp⟩ := hp; exact kk r h' hp)
theorem cS0V   {P : HP → Prop} (C : Cx G Γ y cc nL rt) (R : Rm Γ lev mc ms) (hq : pc + 3 = q) (d : decode cc pc = .ok (.invokestatic i, 3)) (L : LkS y.cls i y' cc' nL' rt' np) (hM : Con G lev' mc' ms' y' cc' nL' rt' ([]) h (PV P)) (hlev : lev' < lev) (hmc : k + mc' ≤ mc) (hms : n + ms' ≤ ms) (hn : 0 = np) (hst : (st.map fun v => v.category).sum ≤ 8)  (kk : ∀ h', P h' → wX G Γ Q (k + mc') (n + ms') h' q lv st) : wX G Γ Q k n h pc lv (st) := by
  exact r_callS (As := []) C R hq d L.1 L.2.1 L.2.2.1 L.2.2.2.1 L.2.2.2.2.1 L.2.2.2.2.2 hM hlev hmc hms hn hst (fun v h' hp => by obtain ⟨rfl, hp⟩ := hp; exact kk h' hp)
theorem cS0R   {P : Nat → HP → Prop} (C : Cx G Γ y cc nL rt) (R : Rm Γ lev mc ms) (hq : pc + 3 = q) (d : decode cc pc = .ok (.invokestatic i, 3)) (L : LkS y.cls i y' cc' nL' rt' np) (hM : Con G lev' mc' ms' y' cc' nL' rt' ([]) h (PR P)) (hlev : lev' < lev) (hmc : k + mc' ≤ mc) (hms : n + ms' ≤ ms) (hn : 0 = np) (hst : (st.map fun v => v.category).sum ≤ 8)  (kk : ∀ r h', P r h' → wX G Γ Q (k + mc') (n + ms') h' q lv (rv r :: st)) : wX G Γ Q k n h pc lv (st) := by
  exact r_callS (As := []) C R hq d L.1 L.2.1 L.2.2.1 L.2.2.2.1 L.2.2.2.2.1 L.2.2.2.2.2 hM hlev hmc hms hn hst (fun v h' hp => by obtain ⟨r, rfl, hp⟩ := hp; exact kk r h' hp)
theorem cS1I  {v1 : Value} {P : Int32 → HP → Prop} (C : Cx G Γ y cc nL rt) (R : Rm Γ lev mc ms) (hq : pc + 3 = q) (d : decode cc pc = .ok (.invokestatic i, 3)) (L : LkS y.cls i y' cc' nL' rt' np) (hM : Con G lev' mc' ms' y' cc' nL' rt' ([v1]) h (PI P)) (hlev : lev' < lev) (hmc : k + mc' ≤ mc) (hms : n + ms' ≤ ms) (hn : 1 = np) (hst : (st.map fun v => v.category).sum ≤ 8)  (kk : ∀ r h', P r h' → wX G Γ Q (k + mc') (n + ms') h' q lv (.int r :: st)) : wX G Γ Q k n h pc lv (v1 :: st) := by
  exact r_callS (As := [v1]) C R hq d L.1 L.2.1 L.2.2.1 L.2.2.2.1 L.2.2.2.2.1 L.2.2.2.2.2 hM hlev hmc hms hn hst (fun v h' hp => by obtain ⟨r, rfl, hp⟩ := hp; exact kk r h' hp)
theorem cS1V  {v1 : Value} {P : HP → Prop} (C : Cx G Γ y cc nL rt) (R : Rm Γ lev mc ms) (hq : pc + 3 = q) (d : decode cc pc = .ok (.invokestatic i, 3)) (L : LkS y.cls i y' cc' nL' rt' np) (hM : Con G lev' mc' ms' y' cc' nL' rt' ([v1]) h (PV P)) (hlev : lev' < lev) (hmc : k + mc' ≤ mc) (hms : n + ms' ≤ ms) (hn : 1 = np) (hst : (st.map fun v => v.category).sum ≤ 8)  (kk : ∀ h', P h' → wX G Γ Q (k + mc') (n + ms') h' q lv st) : wX G Γ Q k n h pc lv (v1 :: st) := by
  exact r_callS (As := [v1]) C R hq d L.1 L.2.1 L.2.2.1 L.2.2.2.1 L.2.2.2.2.1 L.2.2.2.2.2 hM hlev hmc hms hn hst (fun v h' hp => by obtain ⟨rfl, hp⟩ := hp; exact kk h' hp)
theorem cS1R  {v1 : Value} {P : Nat → HP → Prop} (C : Cx G Γ y cc nL rt) (R : Rm Γ lev mc ms) (hq : pc + 3 = q) (d : decode cc pc = .ok (.invokestatic i, 3)) (L : LkS y.cls i y' cc' nL' rt' np) (hM : Con G lev' mc' ms' y' cc' nL' rt' ([v1]) h (PR P)) (hlev : lev' < lev) (hmc : k + mc' ≤ mc) (hms : n + ms' ≤ ms) (hn : 1 = np) (hst : (st.map fun v => v.category).sum ≤ 8)  (kk : ∀ r h', P r h' → wX G Γ Q (k + mc') (n + ms') h' q lv (rv r :: st)) : wX G Γ Q k n h pc lv (v1 :: st) := by
  exact r_callS (As := [v1]) C R hq d L.1 L.2.1 L.2.2.1 L.2.2.2.1 L.2.2.2.2.1 L.2.2.2.2.2 hM hlev hmc hms hn hst (fun v h' hp => by obtain ⟨r, rfl, hp⟩ := hp; exact kk r h' hp)
theorem cS2I  {v1 v2 : Value} {P : Int32 → HP → Prop} (C : Cx G Γ y cc nL rt) (R : Rm Γ lev mc ms) (hq : pc + 3 = q) (d : decode cc pc = .ok (.invokestatic i, 3)) (L : LkS y.cls i y' cc' nL' rt' np) (hM : Con G lev' mc' ms' y' cc' nL' rt' ([v1, v2]) h (PI P)) (hlev : lev' < lev) (hmc : k + mc' ≤ mc) (hms : n + ms' ≤ ms) (hn : 2 = np) (hst : (st.map fun v => v.category).sum ≤ 8)  (kk : ∀ r h', P r h' → wX G Γ Q (k + mc') (n + ms') h' q lv (.int r :: st)) : wX G Γ Q k n h pc lv (v2 :: v1 :: st) := by
  exact r_callS (As := [v1, v2]) C R hq d L.1 L.2.1 L.2.2.1 L.2.2.2.1 L.2.2.2.2.1 L.2.2.2.2.2 hM hlev hmc hms hn hst (fun v h' hp => by obtain ⟨r, rfl, hp⟩ := hp; exact kk r h' hp)
theorem cS2V  {v1 v2 : Value} {P : HP → Prop} (C : Cx G Γ y cc nL rt) (R : Rm Γ lev mc ms) (hq : pc + 3 = q) (d : decode cc pc = .ok (.invokestatic i, 3)) (L : LkS y.cls i y' cc' nL' rt' np) (hM : Con G lev' mc' ms' y' cc' nL' rt' ([v1, v2]) h (PV P)) (hlev : lev' < lev) (hmc : k + mc' ≤ mc) (hms : n + ms' ≤ ms) (hn : 2 = np) (hst : (st.map fun v => v.category).sum ≤ 8)  (kk : ∀ h', P h' → wX G Γ Q (k + mc') (n + ms') h' q lv st) : wX G Γ Q k n h pc lv (v2 :: v1 :: st) := by
  exact r_callS (As := [v1, v2]) C R hq d L.1 L.2.1 L.2.2.1 L.2.2.2.1 L.2.2.2.2.1 L.2.2.2.2.2 hM hlev hmc hms hn hst (fun v h' hp => by obtain ⟨rfl, hp⟩ := hp; exact kk h' hp)
theorem cS2R  {v1 v2 : Value} {P : Nat → HP → Prop} (C : Cx G Γ y cc nL rt) (R : Rm Γ lev mc ms) (hq : pc + 3 = q) (d : decode cc pc = .ok (.invokestatic i, 3)) (L : LkS y.cls i y' cc' nL' rt' np) (hM : Con G lev' mc' ms' y' cc' nL' rt' ([v1, v2]) h (PR P)) (hlev : lev' < lev) (hmc : k + mc' ≤ mc) (hms : n + ms' ≤ ms) (hn : 2 = np) (hst : (st.map fun v => v.category).sum ≤ 8)  (kk : ∀ r h', P r h' → wX G Γ Q (k + mc') (n + ms') h' q lv (rv r :: st)) : wX G Γ Q k n h pc lv (v2 :: v1 :: st) := by
  exact r_callS (As := [v1, v2]) C R hq d L.1 L.2.1 L.2.2.1 L.2.2.2.1 L.2.2.2.2.1 L.2.2.2.2.2 hM hlev hmc hms hn hst (fun v h' hp => by obtain ⟨r, rfl, hp⟩ := hp; exact kk r h' hp)
theorem cS3I  {v1 v2 v3 : Value} {P : Int32 → HP → Prop} (C : Cx G Γ y cc nL rt) (R : Rm Γ lev mc ms) (hq : pc + 3 = q) (d : decode cc pc = .ok (.invokestatic i, 3)) (L : LkS y.cls i y' cc' nL' rt' np) (hM : Con G lev' mc' ms' y' cc' nL' rt' ([v1, v2, v3]) h (PI P)) (hlev : lev' < lev) (hmc : k + mc' ≤ mc) (hms : n + ms' ≤ ms) (hn : 3 = np) (hst : (st.map fun v => v.category).sum ≤ 8)  (kk : ∀ r h', P r h' → wX G Γ Q (k + mc') (n + ms') h' q lv (.int r :: st)) : wX G Γ Q k n h pc lv (v3 :: v2 :: v1 :: st) := by
  exact r_callS (As := [v1, v2, v3]) C R hq d L.1 L.2.1 L.2.2.1 L.2.2.2.1 L.2.2.2.2.1 L.2.2.2.2.2 hM hlev hmc hms hn hst (fun v h' hp => by obtain ⟨r, rfl, hp⟩ := hp; exact kk r h' hp)
theorem cS3V  {v1 v2 v3 : Value} {P : HP → Prop} (C : Cx G Γ y cc nL rt) (R : Rm Γ lev mc ms) (hq : pc + 3 = q) (d : decode cc pc = .ok (.invokestatic i, 3)) (L : LkS y.cls i y' cc' nL' rt' np) (hM : Con G lev' mc' ms' y' cc' nL' rt' ([v1, v2, v3]) h (PV P)) (hlev : lev' < lev) (hmc : k + mc' ≤ mc) (hms : n + ms' ≤ ms) (hn : 3 = np) (hst : (st.map fun v => v.category).sum ≤ 8)  (kk : ∀ h', P h' → wX G Γ Q (k + mc') (n + ms') h' q lv st) : wX G Γ Q k n h pc lv (v3 :: v2 :: v1 :: st) := by
  exact r_callS (As := [v1, v2, v3]) C R hq d L.1 L.2.1 L.2.2.1 L.2.2.2.1 L.2.2.2.2.1 L.2.2.2.2.2 hM hlev hmc hms hn hst (fun v h' hp => by obtain ⟨rfl, hp⟩ := hp; exact kk h' hp)
theorem cS3R  {v1 v2 v3 : Value} {P : Nat → HP → Prop} (C : Cx G Γ y cc nL rt) (R : Rm Γ lev mc ms) (hq : pc + 3 = q) (d : decode cc pc = .ok (.invokestatic i, 3)) (L : LkS y.cls i y' cc' nL' rt' np) (hM : Con G lev' mc' ms' y' cc' nL' rt' ([v1, v2, v3]) h (PR P)) (hlev : lev' < lev) (hmc : k + mc' ≤ mc) (hms : n + ms' ≤ ms) (hn : 3 = np) (hst : (st.map fun v => v.category).sum ≤ 8)  (kk : ∀ r h', P r h' → wX G Γ Q (k + mc') (n + ms') h' q lv (rv r :: st)) : wX G Γ Q k n h pc lv (v3 :: v2 :: v1 :: st) := by
  exact r_callS (As := [v1, v2, v3]) C R hq d L.1 L.2.1 L.2.2.1 L.2.2.2.1 L.2.2.2.2.1 L.2.2.2.2.2 hM hlev hmc hms hn hst (fun v h' hp => by obtain ⟨r, rfl, hp⟩ := hp; exact kk r h' hp)
theorem cS4I  {v1 v2 v3 v4 : Value} {P : Int32 → HP → Prop} (C : Cx G Γ y cc nL rt) (R : Rm Γ lev mc ms) (hq : pc + 3 = q) (d : decode cc pc = .ok (.invokestatic i, 3)) (L : LkS y.cls i y' cc' nL' rt' np) (hM : Con G lev' mc' ms' y' cc' nL' rt' ([v1, v2, v3, v4]) h (PI P)) (hlev : lev' < lev) (hmc : k + mc' ≤ mc) (hms : n + ms' ≤ ms) (hn : 4 = np) (hst : (st.map fun v => v.category).sum ≤ 8)  (kk : ∀ r h', P r h' → wX G Γ Q (k + mc') (n + ms') h' q lv (.int r :: st)) : wX G Γ Q k n h pc lv (v4 :: v3 :: v2 :: v1 :: st) := by
  exact r_callS (As := [v1, v2, v3, v4]) C R hq d L.1 L.2.1 L.2.2.1 L.2.2.2.1 L.2.2.2.2.1 L.2.2.2.2.2 hM hlev hmc hms hn hst (fun v h' hp => by obtain ⟨r, rfl, hp⟩ := hp; exact kk r h' hp)
theorem cS4V  {v1 v2 v3 v4 : Value} {P : HP → Prop} (C : Cx G Γ y cc nL rt) (R : Rm Γ lev mc ms) (hq : pc + 3 = q) (d : decode cc pc = .ok (.invokestatic i, 3)) (L : LkS y.cls i y' cc' nL' rt' np) (hM : Con G lev' mc' ms' y' cc' nL' rt' ([v1, v2, v3, v4]) h (PV P)) (hlev : lev' < lev) (hmc : k + mc' ≤ mc) (hms : n + ms' ≤ ms) (hn : 4 = np) (hst : (st.map fun v => v.category).sum ≤ 8)  (kk : ∀ h', P h' → wX G Γ Q (k + mc') (n + ms') h' q lv st) : wX G Γ Q k n h pc lv (v4 :: v3 :: v2 :: v1 :: st) := by
  exact r_callS (As := [v1, v2, v3, v4]) C R hq d L.1 L.2.1 L.2.2.1 L.2.2.2.1 L.2.2.2.2.1 L.2.2.2.2.2 hM hlev hmc hms hn hst (fun v h' hp => by obtain ⟨rfl, hp⟩ := hp; exact kk h' hp)
theorem cS4R  {v1 v2 v3 v4 : Value} {P : Nat → HP → Prop} (C : Cx G Γ y cc nL rt) (R : Rm Γ lev mc ms) (hq : pc + 3 = q) (d : decode cc pc = .ok (.invokestatic i, 3)) (L : LkS y.cls i y' cc' nL' rt' np) (hM : Con G lev' mc' ms' y' cc' nL' rt' ([v1, v2, v3, v4]) h (PR P)) (hlev : lev' < lev) (hmc : k + mc' ≤ mc) (hms : n + ms' ≤ ms) (hn : 4 = np) (hst : (st.map fun v => v.category).sum ≤ 8)  (kk : ∀ r h', P r h' → wX G Γ Q (k + mc') (n + ms') h' q lv (rv r :: st)) : wX G Γ Q k n h pc lv (v4 :: v3 :: v2 :: v1 :: st) := by
  exact r_callS (As := [v1, v2, v3, v4]) C R hq d L.1 L.2.1 L.2.2.1 L.2.2.2.1 L.2.2.2.2.1 L.2.2.2.2.2 hM hlev hmc hms hn hst (fun v h' hp => by obtain ⟨r, rfl, hp⟩ := hp; exact kk r h' hp)
theorem cS5I  {v1 v2 v3 v4 v5 : Value} {P : Int32 → HP → Prop} (C : Cx G Γ y cc nL rt) (R : Rm Γ lev mc ms) (hq : pc + 3 = q) (d : decode cc pc = .ok (.invokestatic i, 3)) (L : LkS y.cls i y' cc' nL' rt' np) (hM : Con G lev' mc' ms' y' cc' nL' rt' ([v1, v2, v3, v4, v5]) h (PI P)) (hlev : lev' < lev) (hmc : k + mc' ≤ mc) (hms : n + ms' ≤ ms) (hn : 5 = np) (hst : (st.map fun v => v.category).sum ≤ 8)  (kk : ∀ r h', P r h' → wX G Γ Q (k + mc') (n + ms') h' q lv (.int r :: st)) : wX G Γ Q k n h pc lv (v5 :: v4 :: v3 :: v2 :: v1 :: st) := by
  exact r_callS (As := [v1, v2, v3, v4, v5]) C R hq d L.1 L.2.1 L.2.2.1 L.2.2.2.1 L.2.2.2.2.1 L.2.2.2.2.2 hM hlev hmc hms hn hst (fun v h' hp => by obtain ⟨r, rfl, hp⟩ := hp; exact kk r h' hp)
theorem cS5V  {v1 v2 v3 v4 v5 : Value} {P : HP → Prop} (C : Cx G Γ y cc nL rt) (R : Rm Γ lev mc ms) (hq : pc + 3 = q) (d : decode cc pc = .ok (.invokestatic i, 3)) (L : LkS y.cls i y' cc' nL' rt' np) (hM : Con G lev' mc' ms' y' cc' nL' rt' ([v1, v2, v3, v4, v5]) h (PV P)) (hlev : lev' < lev) (hmc : k + mc' ≤ mc) (hms : n + ms' ≤ ms) (hn : 5 = np) (hst : (st.map fun v => v.category).sum ≤ 8)  (kk : ∀ h', P h' → wX G Γ Q (k + mc') (n + ms') h' q lv st) : wX G Γ Q k n h pc lv (v5 :: v4 :: v3 :: v2 :: v1 :: st) := by
  exact r_callS (As := [v1, v2, v3, v4, v5]) C R hq d L.1 L.2.1 L.2.2.1 L.2.2.2.1 L.2.2.2.2.1 L.2.2.2.2.2 hM hlev hmc hms hn hst (fun v h' hp => by obtain ⟨rfl, hp⟩ := hp; exact kk h' hp)
theorem cS5R  {v1 v2 v3 v4 v5 : Value} {P : Nat → HP → Prop} (C : Cx G Γ y cc nL rt) (R : Rm Γ lev mc ms) (hq : pc + 3 = q) (d : decode cc pc = .ok (.invokestatic i, 3)) (L : LkS y.cls i y' cc' nL' rt' np) (hM : Con G lev' mc' ms' y' cc' nL' rt' ([v1, v2, v3, v4, v5]) h (PR P)) (hlev : lev' < lev) (hmc : k + mc' ≤ mc) (hms : n + ms' ≤ ms) (hn : 5 = np) (hst : (st.map fun v => v.category).sum ≤ 8)  (kk : ∀ r h', P r h' → wX G Γ Q (k + mc') (n + ms') h' q lv (rv r :: st)) : wX G Γ Q k n h pc lv (v5 :: v4 :: v3 :: v2 :: v1 :: st) := by
  exact r_callS (As := [v1, v2, v3, v4, v5]) C R hq d L.1 L.2.1 L.2.2.1 L.2.2.2.1 L.2.2.2.2.1 L.2.2.2.2.2 hM hlev hmc hms hn hst (fun v h' hp => by obtain ⟨r, rfl, hp⟩ := hp; exact kk r h' hp)
theorem cS6I  {v1 v2 v3 v4 v5 v6 : Value} {P : Int32 → HP → Prop} (C : Cx G Γ y cc nL rt) (R : Rm Γ lev mc ms) (hq : pc + 3 = q) (d : decode cc pc = .ok (.invokestatic i, 3)) (L : LkS y.cls i y' cc' nL' rt' np) (hM : Con G lev' mc' ms' y' cc' nL' rt' ([v1, v2, v3, v4, v5, v6]) h (PI P)) (hlev : lev' < lev) (hmc : k + mc' ≤ mc) (hms : n + ms' ≤ ms) (hn : 6 = np) (hst : (st.map fun v => v.category).sum ≤ 8)  (kk : ∀ r h', P r h' → wX G Γ Q (k + mc') (n + ms') h' q lv (.int r :: st)) : wX G Γ Q k n h pc lv (v6 :: v5 :: v4 :: v3 :: v2 :: v1 :: st) := by
  exact r_callS (As := [v1, v2, v3, v4, v5, v6]) C R hq d L.1 L.2.1 L.2.2.1 L.2.2.2.1 L.2.2.2.2.1 L.2.2.2.2.2 hM hlev hmc hms hn hst (fun v h' hp => by obtain ⟨r, rfl, hp⟩ := hp; exact kk r h' hp)
theorem cS6V  {v1 v2 v3 v4 v5 v6 : Value} {P : HP → Prop} (C : Cx G Γ y cc nL rt) (R : Rm Γ lev mc ms) (hq : pc + 3 = q) (d : decode cc pc = .ok (.invokestatic i, 3)) (L : LkS y.cls i y' cc' nL' rt' np) (hM : Con G lev' mc' ms' y' cc' nL' rt' ([v1, v2, v3, v4, v5, v6]) h (PV P)) (hlev : lev' < lev) (hmc : k + mc' ≤ mc) (hms : n + ms' ≤ ms) (hn : 6 = np) (hst : (st.map fun v => v.category).sum ≤ 8)  (kk : ∀ h', P h' → wX G Γ Q (k + mc') (n + ms') h' q lv st) : wX G Γ Q k n h pc lv (v6 :: v5 :: v4 :: v3 :: v2 :: v1 :: st) := by
  exact r_callS (As := [v1, v2, v3, v4, v5, v6]) C R hq d L.1 L.2.1 L.2.2.1 L.2.2.2.1 L.2.2.2.2.1 L.2.2.2.2.2 hM hlev hmc hms hn hst (fun v h' hp => by obtain ⟨rfl, hp⟩ := hp; exact kk h' hp)
theorem cS6R  {v1 v2 v3 v4 v5 v6 : Value} {P : Nat → HP → Prop} (C : Cx G Γ y cc nL rt) (R : Rm Γ lev mc ms) (hq : pc + 3 = q) (d : decode cc pc = .ok (.invokestatic i, 3)) (L : LkS y.cls i y' cc' nL' rt' np) (hM : Con G lev' mc' ms' y' cc' nL' rt' ([v1, v2, v3, v4, v5, v6]) h (PR P)) (hlev : lev' < lev) (hmc : k + mc' ≤ mc) (hms : n + ms' ≤ ms) (hn : 6 = np) (hst : (st.map fun v => v.category).sum ≤ 8)  (kk : ∀ r h', P r h' → wX G Γ Q (k + mc') (n + ms') h' q lv (rv r :: st)) : wX G Γ Q k n h pc lv (v6 :: v5 :: v4 :: v3 :: v2 :: v1 :: st) := by
  exact r_callS (As := [v1, v2, v3, v4, v5, v6]) C R hq d L.1 L.2.1 L.2.2.1 L.2.2.2.1 L.2.2.2.2.1 L.2.2.2.2.2 hM hlev hmc hms hn hst (fun v h' hp => by obtain ⟨r, rfl, hp⟩ := hp; exact kk r h' hp)
theorem cI0V {kd0 : Nat × Nat}  {P : HP → Prop} (C : Cx G Γ y cc nL rt) (R : Rm Γ lev mc ms) (hq : pc + 3 = q) (d : decode cc pc = .ok (.invokespecial i, 3)) (L : LkI y.cls i y' cc' nL' none np) (hM : Con G lev' mc' ms' y' cc' nL' none (rv b :: []) h (PV P)) (hlev : lev' < lev) (hmc : k + mc' ≤ mc) (hms : n + ms' ≤ ms) (hn : 0 = np) (hst : (st.map fun v => v.category).sum ≤ 8) (hk : h.kd b = kd0) (hk9 : kd0.1 ≠ 99) (kk : ∀ h', P h' → wX G Γ Q (k + mc') (n + ms') h' q lv st) : wX G Γ Q k n h pc lv (rv b :: st) := by
  exact r_callI (As := []) C R hq d L.1 L.2.1 L.2.2.1 L.2.2.2.1 L.2.2.2.2.1 L.2.2.2.2.2.1 L.2.2.2.2.2.2 hM hlev hmc hms hn hst hk hk9 (fun v h' hp => by obtain ⟨rfl, hp⟩ := hp; exact kk h' hp)
theorem cI1V {kd0 : Nat × Nat} {v1 : Value} {P : HP → Prop} (C : Cx G Γ y cc nL rt) (R : Rm Γ lev mc ms) (hq : pc + 3 = q) (d : decode cc pc = .ok (.invokespecial i, 3)) (L : LkI y.cls i y' cc' nL' none np) (hM : Con G lev' mc' ms' y' cc' nL' none (rv b :: [v1]) h (PV P)) (hlev : lev' < lev) (hmc : k + mc' ≤ mc) (hms : n + ms' ≤ ms) (hn : 1 = np) (hst : (st.map fun v => v.category).sum ≤ 8) (hk : h.kd b = kd0) (hk9 : kd0.1 ≠ 99) (kk : ∀ h', P h' → wX G Γ Q (k + mc') (n + ms') h' q lv st) : wX G Γ Q k n h pc lv (v1 :: rv b :: st) := by
  exact r_callI (As := [v1]) C R hq d L.1 L.2.1 L.2.2.1 L.2.2.2.1 L.2.2.2.2.1 L.2.2.2.2.2.1 L.2.2.2.2.2.2 hM hlev hmc hms hn hst hk hk9 (fun v h' hp => by obtain ⟨rfl, hp⟩ := hp; exact kk h' hp)
theorem cI2V {kd0 : Nat × Nat} {v1 v2 : Value} {P : HP → Prop} (C : Cx G Γ y cc nL rt) (R : Rm Γ lev mc ms) (hq : pc + 3 = q) (d : decode cc pc = .ok (.invokespecial i, 3)) (L : LkI y.cls i y' cc' nL' none np) (hM : Con G lev' mc' ms' y' cc' nL' none (rv b :: [v1, v2]) h (PV P)) (hlev : lev' < lev) (hmc : k + mc' ≤ mc) (hms : n + ms' ≤ ms) (hn : 2 = np) (hst : (st.map fun v => v.category).sum ≤ 8) (hk : h.kd b = kd0) (hk9 : kd0.1 ≠ 99) (kk : ∀ h', P h' → wX G Γ Q (k + mc') (n + ms') h' q lv st) : wX G Γ Q k n h pc lv (v2 :: v1 :: rv b :: st) := by
  exact r_callI (As := [v1, v2]) C R hq d L.1 L.2.1 L.2.2.1 L.2.2.2.1 L.2.2.2.2.1 L.2.2.2.2.2.1 L.2.2.2.2.2.2 hM hlev hmc hms hn hst hk hk9 (fun v h' hp => by obtain ⟨rfl, hp⟩ := hp; exact kk h' hp)
theorem cI3V {kd0 : Nat × Nat} {v1 v2 v3 : Value} {P : HP → Prop} (C : Cx G Γ y cc nL rt) (R : Rm Γ lev mc ms) (hq : pc + 3 = q) (d : decode cc pc = .ok (.invokespecial i, 3)) (L : LkI y.cls i y' cc' nL' none np) (hM : Con G lev' mc' ms' y' cc' nL' none (rv b :: [v1, v2, v3]) h (PV P)) (hlev : lev' < lev) (hmc : k + mc' ≤ mc) (hms : n + ms' ≤ ms) (hn : 3 = np) (hst : (st.map fun v => v.category).sum ≤ 8) (hk : h.kd b = kd0) (hk9 : kd0.1 ≠ 99) (kk : ∀ h', P h' → wX G Γ Q (k + mc') (n + ms') h' q lv st) : wX G Γ Q k n h pc lv (v3 :: v2 :: v1 :: rv b :: st) := by
  exact r_callI (As := [v1, v2, v3]) C R hq d L.1 L.2.1 L.2.2.1 L.2.2.2.1 L.2.2.2.2.1 L.2.2.2.2.2.1 L.2.2.2.2.2.2 hM hlev hmc hms hn hst hk hk9 (fun v h' hp => by obtain ⟨rfl, hp⟩ := hp; exact kk h' hp)
theorem cI4V {kd0 : Nat × Nat} {v1 v2 v3 v4 : Value} {P : HP → Prop} (C : Cx G Γ y cc nL rt) (R : Rm Γ lev mc ms) (hq : pc + 3 = q) (d : decode cc pc = .ok (.invokespecial i, 3)) (L : LkI y.cls i y' cc' nL' none np) (hM : Con G lev' mc' ms' y' cc' nL' none (rv b :: [v1, v2, v3, v4]) h (PV P)) (hlev : lev' < lev) (hmc : k + mc' ≤ mc) (hms : n + ms' ≤ ms) (hn : 4 = np) (hst : (st.map fun v => v.category).sum ≤ 8) (hk : h.kd b = kd0) (hk9 : kd0.1 ≠ 99) (kk : ∀ h', P h' → wX G Γ Q (k + mc') (n + ms') h' q lv st) : wX G Γ Q k n h pc lv (v4 :: v3 :: v2 :: v1 :: rv b :: st) := by
  exact r_callI (As := [v1, v2, v3, v4]) C R hq d L.1 L.2.1 L.2.2.1 L.2.2.2.1 L.2.2.2.2.1 L.2.2.2.2.2.1 L.2.2.2.2.2.2 hM hlev hmc hms hn hst hk hk9 (fun v h' hp => by obtain ⟨rfl, hp⟩ := hp; exact kk h' hp)
theorem cI5V {kd0 : Nat × Nat} {v1 v2 v3 v4 v5 : Value} {P : HP → Prop} (C : Cx G Γ y cc nL rt) (R : Rm Γ lev mc ms) (hq : pc + 3 = q) (d : decode cc pc = .ok (.invokespecial i, 3)) (L : LkI y.cls i y' cc' nL' none np) (hM : Con G lev' mc' ms' y' cc' nL' none (rv b :: [v1, v2, v3, v4, v5]) h (PV P)) (hlev : lev' < lev) (hmc : k + mc' ≤ mc) (hms : n + ms' ≤ ms) (hn : 5 = np) (hst : (st.map fun v => v.category).sum ≤ 8) (hk : h.kd b = kd0) (hk9 : kd0.1 ≠ 99) (kk : ∀ h', P h' → wX G Γ Q (k + mc') (n + ms') h' q lv st) : wX G Γ Q k n h pc lv (v5 :: v4 :: v3 :: v2 :: v1 :: rv b :: st) := by
  exact r_callI (As := [v1, v2, v3, v4, v5]) C R hq d L.1 L.2.1 L.2.2.1 L.2.2.2.1 L.2.2.2.2.1 L.2.2.2.2.2.1 L.2.2.2.2.2.2 hM hlev hmc hms hn hst hk hk9 (fun v h' hp => by obtain ⟨rfl, hp⟩ := hp; exact kk h' hp)
theorem cI6V {kd0 : Nat × Nat} {v1 v2 v3 v4 v5 v6 : Value} {P : HP → Prop} (C : Cx G Γ y cc nL rt) (R : Rm Γ lev mc ms) (hq : pc + 3 = q) (d : decode cc pc = .ok (.invokespecial i, 3)) (L : LkI y.cls i y' cc' nL' none np) (hM : Con G lev' mc' ms' y' cc' nL' none (rv b :: [v1, v2, v3, v4, v5, v6]) h (PV P)) (hlev : lev' < lev) (hmc : k + mc' ≤ mc) (hms : n + ms' ≤ ms) (hn : 6 = np) (hst : (st.map fun v => v.category).sum ≤ 8) (hk : h.kd b = kd0) (hk9 : kd0.1 ≠ 99) (kk : ∀ h', P h' → wX G Γ Q (k + mc') (n + ms') h' q lv st) : wX G Γ Q k n h pc lv (v6 :: v5 :: v4 :: v3 :: v2 :: v1 :: rv b :: st) := by
  exact r_callI (As := [v1, v2, v3, v4, v5, v6]) C R hq d L.1 L.2.1 L.2.2.1 L.2.2.2.1 L.2.2.2.2.1 L.2.2.2.2.2.1 L.2.2.2.2.2.2 hM hlev hmc hms hn hst hk hk9 (fun v h' hp => by obtain ⟨rfl, hp⟩ := hp; exact kk h' hp)
theorem cIN0V {kd0 : Nat × Nat}  {P : HP → Prop} (C : Cx G Γ y cc nL rt) (R : Rm Γ lev mc ms) (hq : pc + 3 = q) (d : decode cc pc = .ok (.invokespecial i, 3)) (L : LkIN y.cls i y' cc' nL' none np) (hM : Con G lev' mc' ms' y' cc' nL' none (rv b :: []) h (PV P)) (hlev : lev' < lev) (hmc : k + mc' ≤ mc) (hms : n + ms' ≤ ms) (hn : 0 = np) (hst : (st.map fun v => v.category).sum ≤ 8) (hk : h.kd b = kd0) (hk9 : kd0.1 ≠ 99) (kk : ∀ h', P h' → wX G Γ Q (k + mc') (n + ms') h' q lv st) : wX G Γ Q k n h pc lv (rv b :: st) := by
  exact r_callIN (As := []) C R hq d L.1 L.2.1 L.2.2.1 L.2.2.2.1 L.2.2.2.2.1 L.2.2.2.2.2.1 L.2.2.2.2.2.2 hM hlev hmc hms hn hst hk hk9 (fun v h' hp => by obtain ⟨rfl, hp⟩ := hp; exact kk h' hp)
theorem cSN3I  {v1 v2 v3 : Value} {P : Int32 → HP → Prop} (C : Cx G Γ y cc nL rt) (R : Rm Γ lev mc ms) (hq : pc + 3 = q) (d : decode cc pc = .ok (.invokestatic i, 3)) (L : LkSN y.cls i y' cc' nL' rt' np) (hM : Con G lev' mc' ms' y' cc' nL' rt' ([v1, v2, v3]) h (PI P)) (hlev : lev' < lev) (hmc : k + mc' ≤ mc) (hms : n + ms' ≤ ms) (hn : 3 = np) (hst : (st.map fun v => v.category).sum ≤ 8)  (kk : ∀ r h', P r h' → wX G Γ Q (k + mc') (n + ms') h' q lv (.int r :: st)) : wX G Γ Q k n h pc lv (v3 :: v2 :: v1 :: st) := by
  exact r_callSN (As := [v1, v2, v3]) C R hq d L.1 L.2.1 L.2.2.1 L.2.2.2.1 L.2.2.2.2.1 L.2.2.2.2.2 hM hlev hmc hms hn hst (fun v h' hp => by obtain ⟨r, rfl, hp⟩ := hp; exact kk r h' hp)
end ARITY
end
section
/-! ===== small rows that the walks use ===== -/
theorem lvE_r (n a : Nat) (vs : List Value) : lvE n (rv a :: vs) = some (rv a) :: lvE (n - 1) vs := by simp [lvE, rv_cat]
theorem lvE_i (n : Nat) (x : Int32) (vs : List Value) : lvE n (.int x :: vs) = some (.int x) :: lvE (n - 1) vs := by simp [lvE, Value.category]
theorem lvE_l (n : Nat) (x : Int64) (vs : List Value) : lvE n (.long x :: vs) = some (.long x) :: none :: lvE (n - 2) vs := by simp [lvE, Value.category]
theorem lvE_s (n a : Nat) (vs : List Value) : lvE n (.ref a :: vs) = some (.ref a) :: lvE (n - 1) vs := by simp [lvE, Value.category]
theorem lvE_0 (n : Nat) : lvE n [] = List.replicate n none := rfl
theorem lgl_r (a : Nat) (vs : List Value) : (lg_sl (rv a :: vs)).length = 1 + (lg_sl vs).length := by simp [lg_sl, rv_cat]; omega
theorem lgl_i (x : Int32) (vs : List Value) : (lg_sl (.int x :: vs)).length = 1 + (lg_sl vs).length := by simp [lg_sl, Value.category]; omega
theorem lgl_l (x : Int64) (vs : List Value) : (lg_sl (.long x :: vs)).length = 2 + (lg_sl vs).length := by simp [lg_sl, Value.category]; omega
theorem lgl_s (a : Nat) (vs : List Value) : (lg_sl (.ref a :: vs)).length = 1 + (lg_sl vs).length := by simp [lg_sl, Value.category]; omega
theorem lgl_0 : (lg_sl []).length = 0 := rfl
theorem rv_nar_o (c : String) (v : Nat) : narrow (.object c) (rv v) = rv v := by unfold rv; split <;> rfl
theorem rv_nar_a (t : FieldType) (v : Nat) : narrow (.array t) (rv v) = rv v := by unfold rv; split <;> rfl
theorem rv_fit_o (c : String) (v : Nat) : fits (.object c) (rv v) = true := by unfold rv; split <;> rfl
theorem rv_fit_a (t : FieldType) (v : Nat) : fits (.array t) (rv v) = true := by unfold rv; split <;> rfl
theorem b2i_fit (b : Bool) : fits .boolean (.int (b2i b)) = true := by cases b <;> decide
theorem b2i_vn (b : Bool) : vp_nar .boolean (b2i b) = b2i b := by cases b <;> decide
theorem fi_setI (h : HP) (g a : Nat) (v : Int32) (g' a' : Nat) : (h.setI g a v).fi g' a' = if g' = g ∧ a' = a then v else h.fi g' a' := rfl
theorem fr_setI (h : HP) (g a : Nat) (v : Int32) : (h.setI g a v).fr = h.fr := rfl
theorem kd_setI (h : HP) (g a : Nat) (v : Int32) : (h.setI g a v).kd = h.kd := rfl
theorem ai_setI (h : HP) (g a : Nat) (v : Int32) : (h.setI g a v).ai = h.ai := rfl
theorem al_setI (h : HP) (g a : Nat) (v : Int32) : (h.setI g a v).al = h.al := rfl
theorem ar_setI (h : HP) (g a : Nat) (v : Int32) : (h.setI g a v).ar = h.ar := rfl
theorem fr_setR (h : HP) (g a v g' a' : Nat) : (h.setR g a v).fr g' a' = if g' = g ∧ a' = a then v else h.fr g' a' := rfl
theorem fi_setR (h : HP) (g a v : Nat) : (h.setR g a v).fi = h.fi := rfl
theorem kd_setR (h : HP) (g a v : Nat) : (h.setR g a v).kd = h.kd := rfl
theorem ai_setR (h : HP) (g a v : Nat) : (h.setR g a v).ai = h.ai := rfl
theorem al_setR (h : HP) (g a v : Nat) : (h.setR g a v).al = h.al := rfl
theorem ar_setR (h : HP) (g a v : Nat) : (h.setR g a v).ar = h.ar := rfl
theorem ai_stI' (h : HP) (a i : Nat) (v : Int32) (a' i' : Nat) : (h.stI a i v).ai a' i' = if a' = a ∧ i' = i then v else h.ai a' i' := rfl
theorem fi_stI (h : HP) (a i : Nat) (v : Int32) : (h.stI a i v).fi = h.fi := rfl
theorem fr_stI (h : HP) (a i : Nat) (v : Int32) : (h.stI a i v).fr = h.fr := rfl
theorem kd_stI (h : HP) (a i : Nat) (v : Int32) : (h.stI a i v).kd = h.kd := rfl
theorem al_stI (h : HP) (a i : Nat) (v : Int32) : (h.stI a i v).al = h.al := rfl
theorem ar_stI (h : HP) (a i : Nat) (v : Int32) : (h.stI a i v).ar = h.ar := rfl
theorem al_stL' (h : HP) (a i : Nat) (v : Int64) (a' i' : Nat) : (h.stL a i v).al a' i' = if a' = a ∧ i' = i then v else h.al a' i' := rfl
theorem fi_stL (h : HP) (a i : Nat) (v : Int64) : (h.stL a i v).fi = h.fi := rfl
theorem fr_stL (h : HP) (a i : Nat) (v : Int64) : (h.stL a i v).fr = h.fr := rfl
theorem kd_stL (h : HP) (a i : Nat) (v : Int64) : (h.stL a i v).kd = h.kd := rfl
theorem ai_stL (h : HP) (a i : Nat) (v : Int64) : (h.stL a i v).ai = h.ai := rfl
theorem ar_stL (h : HP) (a i : Nat) (v : Int64) : (h.stL a i v).ar = h.ar := rfl
theorem ar_stR' (h : HP) (a i v a' i' : Nat) : (h.stR a i v).ar a' i' = if a' = a ∧ i' = i then v else h.ar a' i' := rfl
theorem fi_stR (h : HP) (a i v : Nat) : (h.stR a i v).fi = h.fi := rfl
theorem fr_stR (h : HP) (a i v : Nat) : (h.stR a i v).fr = h.fr := rfl
theorem kd_stR (h : HP) (a i v : Nat) : (h.stR a i v).kd = h.kd := rfl
theorem ai_stR (h : HP) (a i v : Nat) : (h.stR a i v).ai = h.ai := rfl
theorem al_stR (h : HP) (a i v : Nat) : (h.stR a i v).al = h.al := rfl
theorem HP.ext {h h' : HP} (h1 : h'.kd = h.kd) (h2 : ∀ g a, h'.fi g a = h.fi g a) (h3 : ∀ g a, h'.fr g a = h.fr g a) (h4 : ∀ a j, h'.ai a j = h.ai a j) (h5 : ∀ a j, h'.al a j = h.al a j) (h6 : ∀ a j, h'.ar a j = h.ar a j) (h7 : h'.gl = h.gl) : h' = h := by
  obtain ⟨a1, a2, a3, a4, a5, a6, a7⟩ := h
  obtain ⟨b1, b2, b3, b4, b5, b6, b7⟩ := h'
  have e1 : b1 = a1 := h1
  have e2 : b2 = a2 := funext fun g => funext fun a => h2 g a
  have e3 : b3 = a3 := funext fun g => funext fun a => h3 g a
  have e4 : b4 = a4 := funext fun g => funext fun a => h4 g a
  have e5 : b5 = a5 := funext fun g => funext fun a => h5 g a
  have e6 : b6 = a6 := funext fun g => funext fun a => h6 g a
  have e7 : b7 = a7 := h7
  rw [e1, e2, e3, e4, e5, e6, e7]
theorem wm_2 : Cond.static Lib.Math.max.name ∈ WS := by decide +kernel
theorem wm_3 : Cond.initialized "java/lang/Math" ∈ WS := by decide +kernel
theorem wm_4 : Cond.code Lib.Math.max.name Lib.Math.max.code 2 (some .int) ∈ WS := by decide +kernel
theorem r_mmax {G : GT} {Γ : CT} {y : MethodName} {cc : ByteArray} {nL : Nat} {rt : Option FieldType} {Q : State → Prop} {k n : Nat} {h : HP} {pc q : Nat} {lv : List (Option Value)} {st : List Value} {lev mc ms i : Nat} {x z : Int32} (C : Cx G Γ y cc nL rt) (R : Rm Γ lev mc ms) (hq : pc + 3 = q) (d : decode cc pc = .ok (.invokestatic i, 3)) (hw : Cond.methodLink y.cls i Lib.Math.max.name ∈ WS) (hl : 1 ≤ lev) (hk : k ≤ mc) (hs : n ≤ ms) (hst : (st.map fun v => v.category).sum ≤ 8)
    (kk : wX G Γ Q k n h q lv (.int (if x < z then z else x) :: st)) : wX G Γ Q k n h pc lv (.int z :: .int x :: st) := by
  subst hq
  intro H locs ls a b c
  have hts := C.2.2.2.2.1
  obtain ⟨r1, r2, r3, r4⟩ := R
  exact va_mmax C.1 C.2.1 c.1.symm C.2.2.2.1 (hts _ hw) (hts _ wm_2) (hts _ wm_3) (hts _ wm_4) (by omega) (by omega) (by omega) (by omega) d (kk H locs ls a b c)
theorem fi_ne {h : HP} {g a g' a' : Nat} {v : Int32} (hn : g' ≠ g) : (h.setI g a v).fi g' a' = h.fi g' a' := if_neg (fun e => hn e.1)
theorem fi_ne2 {h : HP} {g a g' a' : Nat} {v : Int32} (hn : a' ≠ a) : (h.setI g a v).fi g' a' = h.fi g' a' := if_neg (fun e => hn e.2)
theorem fi_eq {h : HP} {g a : Nat} {v : Int32} : (h.setI g a v).fi g a = v := if_pos ⟨rfl, rfl⟩
/-- a whole row of an array -/
def HP.row (h : HP) (a : Nat) (f : Nat → Int32) : HP := HP.of h.kd h.fi h.fr (fun b => if b = a then f else h.ai b) h.al h.ar h.gl
def HP.rowL (h : HP) (a : Nat) (f : Nat → Int64) : HP := HP.of h.kd h.fi h.fr h.ai (fun b => if b = a then f else h.al b) h.ar h.gl
theorem kd_row (h : HP) (a : Nat) (f : Nat → Int32) : (h.row a f).kd = h.kd := rfl
theorem fi_row (h : HP) (a : Nat) (f : Nat → Int32) : (h.row a f).fi = h.fi := rfl
theorem fr_row (h : HP) (a : Nat) (f : Nat → Int32) : (h.row a f).fr = h.fr := rfl
theorem al_row (h : HP) (a : Nat) (f : Nat → Int32) : (h.row a f).al = h.al := rfl
theorem ar_row (h : HP) (a : Nat) (f : Nat → Int32) : (h.row a f).ar = h.ar := rfl
theorem gl_row (h : HP) (a : Nat) (f : Nat → Int32) : (h.row a f).gl = h.gl := rfl
theorem ai_row (h : HP) (a : Nat) (f : Nat → Int32) (b : Nat) : (h.row a f).ai b = if b = a then f else h.ai b := rfl
theorem ai_row_eq {h : HP} {a : Nat} {f : Nat → Int32} : (h.row a f).ai a = f := if_pos rfl
theorem ai_row_ne {h : HP} {a b : Nat} {f : Nat → Int32} (hb : b ≠ a) : (h.row a f).ai b = h.ai b := if_neg hb
theorem al_rowL_eq {h : HP} {a : Nat} {f : Nat → Int64} : (h.rowL a f).al a = f := if_pos rfl
theorem al_rowL_ne {h : HP} {a b : Nat} {f : Nat → Int64} (hb : b ≠ a) : (h.rowL a f).al b = h.al b := if_neg hb
theorem row_self {h : HP} {a : Nat} : h.row a (h.ai a) = h := HP.ext rfl (fun _ _ => rfl) (fun _ _ => rfl) (fun b j => by rw [ai_row]; split <;> simp_all) (fun _ _ => rfl) (fun _ _ => rfl) rfl
theorem row_row {h : HP} {a : Nat} {f g : Nat → Int32} : (h.row a f).row a g = h.row a g := HP.ext rfl (fun _ _ => rfl) (fun _ _ => rfl) (fun b j => by simp only [ai_row]; split <;> rfl) (fun _ _ => rfl) (fun _ _ => rfl) rfl
theorem row_comm {h : HP} {a b : Nat} {f g : Nat → Int32} (hb : a ≠ b) : (h.row a f).row b g = (h.row b g).row a f := HP.ext rfl (fun _ _ => rfl) (fun _ _ => rfl) (fun c j => by
  simp only [ai_row]
  by_cases e : c = a
  · subst e; rw [if_neg hb, if_pos rfl, if_pos rfl]
  · rw [if_neg e, if_neg e]) (fun _ _ => rfl) (fun _ _ => rfl) rfl
theorem stI_row {h : HP} {a i : Nat} {v : Int32} : h.stI a i v = h.row a (upd (h.ai a) i v) := HP.ext rfl (fun _ _ => rfl) (fun _ _ => rfl) (fun b j => by
  simp only [ai_row, ai_stI']
  by_cases e : b = a
  · subst e
    rw [if_pos rfl]
    unfold upd
    by_cases e2 : j = i <;> simp [e2]
  · rw [if_neg e, if_neg (fun q => e q.1)]) (fun _ _ => rfl) (fun _ _ => rfl) rfl
theorem row_stI {h : HP} {a i : Nat} {f : Nat → Int32} {v : Int32} : (h.row a f).stI a i v = h.row a (upd f i v) := by
  rw [stI_row, ai_row_eq, row_row]
theorem stL_row {h : HP} {a i : Nat} {v : Int64} : h.stL a i v = h.rowL a (vp_updL (h.al a) i v) := HP.ext rfl (fun _ _ => rfl) (fun _ _ => rfl) (fun _ _ => rfl) (fun b j => by
  show (if b = a ∧ j = i then v else h.al b j) = (if b = a then vp_updL (h.al a) i v else h.al b) j
  by_cases e : b = a
  · subst e
    rw [if_pos rfl]
    unfold vp_updL
    by_cases e2 : j = i <;> simp [e2]
  · rw [if_neg e, if_neg (fun q => e q.1)]) (fun _ _ => rfl) rfl
theorem gl_setI (h : HP) (g a : Nat) (v : Int32) : (h.setI g a v).gl = h.gl := rfl
theorem gl_stI (h : HP) (a i : Nat) (v : Int32) : (h.stI a i v).gl = h.gl := rfl
theorem gl_ne {h : HP} {a b x z : Nat} (ha : h.gl a = x) (hb : h.gl b = z) (hn : x ≠ z) : a ≠ b := fun e => hn (by rw [← ha, ← hb, e])
theorem bt {P : Prop} [Decidable P] (hp : P) : b2i (decide P) = 1 := by simp [b2i, hp]
theorem bf {P : Prop} [Decidable P] (hp : ¬ P) : b2i (decide P) = 0 := by simp [b2i, hp]
theorem setI_row {h : HP} {a g b : Nat} {f : Nat → Int32} {v : Int32} : (h.row a f).setI g b v = (h.setI g b v).row a f := rfl
theorem setI_setI {h : HP} {g a : Nat} {v w : Int32} : (h.setI g a v).setI g a w = h.setI g a w := HP.ext rfl (fun g' a' => by simp only [fi_setI]; split <;> simp_all) (fun _ _ => rfl) (fun _ _ => rfl) (fun _ _ => rfl) (fun _ _ => rfl) rfl
theorem setI_self {h : HP} {g a : Nat} : h.setI g a (h.fi g a) = h := HP.ext rfl (fun g' a' => by simp only [fi_setI]; split <;> simp_all) (fun _ _ => rfl) (fun _ _ => rfl) (fun _ _ => rfl) (fun _ _ => rfl) rfl
theorem okst_rv {lv : List (Option Value)} {j a : Nat} (h : lv[j]? = some (some (rv a))) : okst lv (j + 1) = true := by
  simp only [okst, h, rv_cat]; rfl


def spPut (h : HP) (a : Nat) (w z x y : Int32) (t : Bool) : HP := ((((h.setI 256 a x).setI 257 a y).setI 258 a (if t then z else w)).setI 259 a (if t then w else z)).setI 260 a (b2i t)
def gp (x w z v : Int32) : Int32 := if z - (x + w) < x - (z + v) then x - (z + v) else z - (x + w)

theorem c_X6_isWithin {G : GT} {h : HP} {x a b : Int32} : Con G 1 0 0 yX6_isWithin cX6_isWithin 3 (some .boolean) [.int x, .int a, .int b] h (PI (fun r h' => b2i (decide (a ≤ x ∧ x ≤ b)) = r ∧ h = h')) := by
  refine Con.of (lv := [some (.int x), some (.int a), some (.int b)]) (by decide) (by simp only [lvE_r, lvE_i, lvE_l, lvE_s, lvE_0]; rfl) (by simp only [lgl_r, lgl_i, lgl_l, lgl_s, lgl_0]; decide) (fun Γ C R => ?_)
  refine r_iload_n (q := 1) (z := 0) C 0 rfl (by decide +kernel) rfl rfl ?_
  refine r_iload_n (q := 2) (z := 1) C 1 rfl (by decide +kernel) rfl rfl ?_
  refine r_icmp_lt (q := 5) (off := 12) (tgt := 14) C rfl (by decide +kernel) (by decide) (fun c2 => ?_) (fun c2 => ?_)
  · refine r_iconst (q := 15) (z := 0) (v := 0) C rfl (by decide +kernel) (by decide) ?_
    exact r_zret C (by decide +kernel) rfl (by first | decide | exact b2i_nar _) (by decide) (by decide) ⟨_, rfl, ⟨by clear C R; simp_all [b2i, ← Int32.not_lt], rfl⟩⟩
  · refine r_iload_n (q := 6) (z := 0) C 0 rfl (by decide +kernel) rfl rfl ?_
    refine r_iload_n (q := 7) (z := 2) C 2 rfl (by decide +kernel) rfl rfl ?_
    refine r_icmp_gt (q := 10) (off := 7) (tgt := 14) C rfl (by decide +kernel) (by decide) (fun c7 => ?_) (fun c7 => ?_)
    · refine r_iconst (q := 15) (z := 0) (v := 0) C rfl (by decide +kernel) (by decide) ?_
      exact r_zret C (by decide +kernel) rfl (by first | decide | exact b2i_nar _) (by decide) (by decide) ⟨_, rfl, ⟨by clear C R; simp_all [b2i, ← Int32.not_lt], rfl⟩⟩
    · refine r_iconst (q := 11) (z := 1) (v := 1) C rfl (by decide +kernel) (by decide) ?_
      refine r_goto (off := 4) (tgt := 15) C (by decide +kernel) (by decide) ?_
      exact r_zret C (by decide +kernel) rfl (by first | decide | exact b2i_nar _) (by decide) (by decide) ⟨_, rfl, ⟨by clear C R; simp_all [b2i, ← Int32.not_lt], rfl⟩⟩
theorem c_X4_doorX {G : GT} {h : HP} {a : Nat} (hk : h.kd a = (0, 4)) : Con G 1 0 0 yX4_doorX cX4_doorX 1 (some .int) [rv a] h (PI (fun r h' => h.fi 256 a + (h.fi 258 a - 1) / 2 = r ∧ h = h')) := by
  refine Con.of (lv := [some (rv a)]) (by decide) (by simp only [lvE_r, lvE_i, lvE_l, lvE_s, lvE_0]; rfl) (by simp only [lgl_r, lgl_i, lgl_l, lgl_s, lgl_0]; decide) (fun Γ C R => ?_)
  refine r_aload_n (q := 1) (z := 0) C 0 rfl (by decide +kernel) rfl rfl ?_
  refine r_getI (q := 4) C 4 0 256 rfl (by decide +kernel) rfl (by decide) rfl rfl wf_X4_9 win4 (by assumption) ?_
  refine r_aload_n (q := 5) (z := 0) C 0 rfl (by decide +kernel) rfl rfl ?_
  refine r_getI (q := 8) C 4 2 258 rfl (by decide +kernel) rfl (by decide) rfl rfl wf_X4_18 win4 (by assumption) ?_
  refine r_iconst (q := 9) (z := 1) (v := 1) C rfl (by decide +kernel) (by decide) ?_
  refine r_isub (q := 10) C rfl (by decide +kernel) ?_
  refine r_iconst (q := 11) (z := 2) (v := 2) C rfl (by decide +kernel) (by decide) ?_
  refine r_idiv (q := 12) C rfl (by decide +kernel) (by decide) ?_
  refine r_iadd (q := 13) C rfl (by decide +kernel) ?_
  exact r_iret C (by decide +kernel) rfl (by decide) (by decide) ⟨_, rfl, ⟨rfl, rfl⟩⟩
theorem c_X4_doorY {G : GT} {h : HP} {a : Nat} (hk : h.kd a = (0, 4)) : Con G 1 0 0 yX4_doorY cX4_doorY 1 (some .int) [rv a] h (PI (fun r h' => h.fi 257 a + h.fi 259 a = r ∧ h = h')) := by
  refine Con.of (lv := [some (rv a)]) (by decide) (by simp only [lvE_r, lvE_i, lvE_l, lvE_s, lvE_0]; rfl) (by simp only [lgl_r, lgl_i, lgl_l, lgl_s, lgl_0]; decide) (fun Γ C R => ?_)
  refine r_aload_n (q := 1) (z := 0) C 0 rfl (by decide +kernel) rfl rfl ?_
  refine r_getI (q := 4) C 4 1 257 rfl (by decide +kernel) rfl (by decide) rfl rfl wf_X4_15 win4 (by assumption) ?_
  refine r_aload_n (q := 5) (z := 0) C 0 rfl (by decide +kernel) rfl rfl ?_
  refine r_getI (q := 8) C 4 3 259 rfl (by decide +kernel) rfl (by decide) rfl rfl wf_X4_21 win4 (by assumption) ?_
  refine r_iadd (q := 9) C rfl (by decide +kernel) ?_
  exact r_iret C (by decide +kernel) rfl (by decide) (by decide) ⟨_, rfl, ⟨rfl, rfl⟩⟩
theorem c_X4_put {G : GT} {h : HP} {a : Nat} {w z x y : Int32} {t : Bool} (hk : h.kd a = (0, 4)) : Con G 1 0 0 yX4_put cX4_put 6 none [rv a, .int w, .int z, .int x, .int y, .int (b2i t)] h (PV (fun h' => spPut h a w z x y t = h')) := by
  refine Con.of (lv := [some (rv a), some (.int w), some (.int z), some (.int x), some (.int y), some (.int (b2i t))]) (by decide) (by simp only [lvE_r, lvE_i, lvE_l, lvE_s, lvE_0]; rfl) (by simp only [lgl_r, lgl_i, lgl_l, lgl_s, lgl_0]; decide) (fun Γ C R => ?_)
  refine r_aload_n (q := 1) (z := 0) C 0 rfl (by decide +kernel) rfl rfl ?_
  refine r_iload_n (q := 2) (z := 3) C 3 rfl (by decide +kernel) rfl rfl ?_
  refine r_putI (q := 5) C 4 0 256 rfl (by decide +kernel) rfl (by decide) rfl rfl wf_X4_9 win4 tyX4 tyX4_ok nmX4 rfl (tyX4_ok 0 (by decide)) rfl wnd4 rfl rfl (by assumption) ?_
  refine r_aload_n (q := 6) (z := 0) C 0 rfl (by decide +kernel) rfl rfl ?_
  refine r_iload (q := 8) C 4 rfl (by decide +kernel) rfl ?_
  refine r_putI (q := 11) C 4 1 257 rfl (by decide +kernel) rfl (by decide) rfl rfl wf_X4_15 win4 tyX4 tyX4_ok nmX4 rfl (tyX4_ok 1 (by decide)) rfl wnd4 rfl rfl (by assumption) ?_
  refine r_aload_n (q := 12) (z := 0) C 0 rfl (by decide +kernel) rfl rfl ?_
  refine r_iload (q := 14) C 5 rfl (by decide +kernel) rfl ?_
  refine r_if_eq (q := 17) (off := 7) (tgt := 21) C rfl (by decide +kernel) (by decide) (fun c14 => ?_) (fun c14 => ?_)
  · refine r_iload_n (q := 22) (z := 1) C 1 rfl (by decide +kernel) rfl rfl ?_
    refine r_putI (q := 25) C 4 2 258 rfl (by decide +kernel) rfl (by decide) rfl rfl wf_X4_18 win4 tyX4 tyX4_ok nmX4 rfl (tyX4_ok 2 (by decide)) rfl wnd4 rfl rfl (by assumption) ?_
    refine r_aload_n (q := 26) (z := 0) C 0 rfl (by decide +kernel) rfl rfl ?_
    refine r_iload (q := 28) C 5 rfl (by decide +kernel) rfl ?_
    refine r_if_eq (q := 31) (off := 7) (tgt := 35) C rfl (by decide +kernel) (by decide) (fun c28 => ?_) (fun c28 => ?_)
    · refine r_iload_n (q := 36) (z := 2) C 2 rfl (by decide +kernel) rfl rfl ?_
      refine r_putI (q := 39) C 4 3 259 rfl (by decide +kernel) rfl (by decide) rfl rfl wf_X4_21 win4 tyX4 tyX4_ok nmX4 rfl (tyX4_ok 3 (by decide)) rfl wnd4 rfl rfl (by assumption) ?_
      refine r_aload_n (q := 40) (z := 0) C 0 rfl (by decide +kernel) rfl rfl ?_
      refine r_iload (q := 42) C 5 rfl (by decide +kernel) rfl ?_
      refine r_putI (q := 45) C 4 4 260 rfl (by decide +kernel) rfl (by decide) rfl rfl wf_X4_24 win4 tyX4 tyX4_ok nmX4 rfl (tyX4_ok 4 (by decide)) rfl wnd4 (by first | rfl | exact b2i_nar _) (by first | rfl | exact b2i_fit _) (by assumption) ?_
      exact r_ret C (by decide +kernel) rfl (by decide) (by decide) ⟨rfl, by clear C R; cases t <;> simp_all [spPut, b2i]⟩
    · refine r_iload_n (q := 32) (z := 1) C 1 rfl (by decide +kernel) rfl rfl ?_
      refine r_goto (off := 4) (tgt := 36) C (by decide +kernel) (by decide) ?_
      refine r_putI (q := 39) C 4 3 259 rfl (by decide +kernel) rfl (by decide) rfl rfl wf_X4_21 win4 tyX4 tyX4_ok nmX4 rfl (tyX4_ok 3 (by decide)) rfl wnd4 rfl rfl (by assumption) ?_
      refine r_aload_n (q := 40) (z := 0) C 0 rfl (by decide +kernel) rfl rfl ?_
      refine r_iload (q := 42) C 5 rfl (by decide +kernel) rfl ?_
      refine r_putI (q := 45) C 4 4 260 rfl (by decide +kernel) rfl (by decide) rfl rfl wf_X4_24 win4 tyX4 tyX4_ok nmX4 rfl (tyX4_ok 4 (by decide)) rfl wnd4 (by first | rfl | exact b2i_nar _) (by first | rfl | exact b2i_fit _) (by assumption) ?_
      exact r_ret C (by decide +kernel) rfl (by decide) (by decide) ⟨rfl, by clear C R; cases t <;> simp_all [spPut, b2i]⟩
  · refine r_iload_n (q := 18) (z := 2) C 2 rfl (by decide +kernel) rfl rfl ?_
    refine r_goto (off := 4) (tgt := 22) C (by decide +kernel) (by decide) ?_
    refine r_putI (q := 25) C 4 2 258 rfl (by decide +kernel) rfl (by decide) rfl rfl wf_X4_18 win4 tyX4 tyX4_ok nmX4 rfl (tyX4_ok 2 (by decide)) rfl wnd4 rfl rfl (by assumption) ?_
    refine r_aload_n (q := 26) (z := 0) C 0 rfl (by decide +kernel) rfl rfl ?_
    refine r_iload (q := 28) C 5 rfl (by decide +kernel) rfl ?_
    refine r_if_eq (q := 31) (off := 7) (tgt := 35) C rfl (by decide +kernel) (by decide) (fun c28 => ?_) (fun c28 => ?_)
    · refine r_iload_n (q := 36) (z := 2) C 2 rfl (by decide +kernel) rfl rfl ?_
      refine r_putI (q := 39) C 4 3 259 rfl (by decide +kernel) rfl (by decide) rfl rfl wf_X4_21 win4 tyX4 tyX4_ok nmX4 rfl (tyX4_ok 3 (by decide)) rfl wnd4 rfl rfl (by assumption) ?_
      refine r_aload_n (q := 40) (z := 0) C 0 rfl (by decide +kernel) rfl rfl ?_
      refine r_iload (q := 42) C 5 rfl (by decide +kernel) rfl ?_
      refine r_putI (q := 45) C 4 4 260 rfl (by decide +kernel) rfl (by decide) rfl rfl wf_X4_24 win4 tyX4 tyX4_ok nmX4 rfl (tyX4_ok 4 (by decide)) rfl wnd4 (by first | rfl | exact b2i_nar _) (by first | rfl | exact b2i_fit _) (by assumption) ?_
      exact r_ret C (by decide +kernel) rfl (by decide) (by decide) ⟨rfl, by clear C R; cases t <;> simp_all [spPut, b2i]⟩
    · refine r_iload_n (q := 32) (z := 1) C 1 rfl (by decide +kernel) rfl rfl ?_
      refine r_goto (off := 4) (tgt := 36) C (by decide +kernel) (by decide) ?_
      refine r_putI (q := 39) C 4 3 259 rfl (by decide +kernel) rfl (by decide) rfl rfl wf_X4_21 win4 tyX4 tyX4_ok nmX4 rfl (tyX4_ok 3 (by decide)) rfl wnd4 rfl rfl (by assumption) ?_
      refine r_aload_n (q := 40) (z := 0) C 0 rfl (by decide +kernel) rfl rfl ?_
      refine r_iload (q := 42) C 5 rfl (by decide +kernel) rfl ?_
      refine r_putI (q := 45) C 4 4 260 rfl (by decide +kernel) rfl (by decide) rfl rfl wf_X4_24 win4 tyX4 tyX4_ok nmX4 rfl (tyX4_ok 4 (by decide)) rfl wnd4 (by first | rfl | exact b2i_nar _) (by first | rfl | exact b2i_fit _) (by assumption) ?_
      exact r_ret C (by decide +kernel) rfl (by decide) (by decide) ⟨rfl, by clear C R; cases t <;> simp_all [spPut, b2i]⟩
theorem c_X4_putAtPlace {G : GT} {h : HP} {a : Nat} {w z p : Int32} (hk : h.kd a = (0, 4)) : Con G 2 0 0 yX4_putAtPlace cX4_putAtPlace 5 none [rv a, .int w, .int z, .int p] h (PV (fun h' => spPut h a w z (p / 2 - p / 2 / 12 * 12) (p / 2 / 12) (decide (p - p / 2 * 2 = 1)) = h')) := by
  refine Con.of (lv := [some (rv a), some (.int w), some (.int z), some (.int p), none]) (by decide) (by simp only [lvE_r, lvE_i, lvE_l, lvE_s, lvE_0]; rfl) (by simp only [lgl_r, lgl_i, lgl_l, lgl_s, lgl_0]; decide) (fun Γ C R => ?_)
  refine r_iload_n (q := 1) (z := 3) C 3 rfl (by decide +kernel) rfl rfl ?_
  refine r_iconst (q := 2) (z := 2) (v := 2) C rfl (by decide +kernel) (by decide) ?_
  refine r_idiv (q := 3) C rfl (by decide +kernel) (by decide) ?_
  refine r_istore (q := 5) C 4 rfl (by decide +kernel) (by decide) (by first | rfl | exact okst_rv rfl) ?_
  dsimp only [List.set]
  refine r_aload_n (q := 6) (z := 0) C 0 rfl (by decide +kernel) rfl rfl ?_
  refine r_iload_n (q := 7) (z := 1) C 1 rfl (by decide +kernel) rfl rfl ?_
  refine r_iload_n (q := 8) (z := 2) C 2 rfl (by decide +kernel) rfl rfl ?_
  refine r_iload (q := 10) C 4 rfl (by decide +kernel) rfl ?_
  refine r_bipush (q := 12) (z := 12) (v := 12) C rfl (by decide +kernel) (by decide) ?_
  refine r_irem (q := 13) C rfl (by decide +kernel) (by decide) ?_
  refine r_iload (q := 15) C 4 rfl (by decide +kernel) rfl ?_
  refine r_bipush (q := 17) (z := 12) (v := 12) C rfl (by decide +kernel) (by decide) ?_
  refine r_idiv (q := 18) C rfl (by decide +kernel) (by decide) ?_
  refine r_iload_n (q := 19) (z := 3) C 3 rfl (by decide +kernel) rfl rfl ?_
  refine r_iconst (q := 20) (z := 2) (v := 2) C rfl (by decide +kernel) (by decide) ?_
  refine r_irem (q := 21) C rfl (by decide +kernel) (by decide) ?_
  refine r_iconst (q := 22) (z := 1) (v := 1) C rfl (by decide +kernel) (by decide) ?_
  refine r_icmp_ne (q := 25) (off := 7) (tgt := 29) C rfl (by decide +kernel) (by decide) (fun c22 => ?_) (fun c22 => ?_)
  · refine r_iconst (q := 30) (z := 0) (v := b2i false) C rfl (by decide +kernel) (by decide) ?_
    refine cV5V (q := 33) C R rfl (by decide +kernel) lk_X4_28 (c_X4_put (by assumption)) (by decide) (by decide) (by decide) rfl (by first | exact Nat.le_of_ble_eq_true rfl | (simp only [List.map_cons, List.map_nil, List.sum_cons, List.sum_nil, rv_cat]; exact Nat.le_of_ble_eq_true rfl)) rfl (by assumption) ?_
    rintro _ rfl
    exact r_ret C (by decide +kernel) rfl (by decide) (by decide) ⟨rfl, (by clear C R; simp_all)⟩
  · refine r_iconst (q := 26) (z := 1) (v := b2i true) C rfl (by decide +kernel) (by decide) ?_
    refine r_goto (off := 4) (tgt := 30) C (by decide +kernel) (by decide) ?_
    refine cV5V (q := 33) C R rfl (by decide +kernel) lk_X4_28 (c_X4_put (by assumption)) (by decide) (by decide) (by decide) rfl (by first | exact Nat.le_of_ble_eq_true rfl | (simp only [List.map_cons, List.map_nil, List.sum_cons, List.sum_nil, rv_cat]; exact Nat.le_of_ble_eq_true rfl)) rfl (by assumption) ?_
    rintro _ rfl
    exact r_ret C (by decide +kernel) rfl (by decide) (by decide) ⟨rfl, (by clear C R; simp_all)⟩
theorem c_X4_putLike {G : GT} {h : HP} {a b : Nat} {t : Bool} (hk : h.kd a = (0, 4)) (hkb : h.kd b = (0, 4)) (ht : h.fi 260 b = b2i t) (hab : a ≠ b) : Con G 1 0 0 yX4_putLike cX4_putLike 2 none [rv a, rv b] h (PV (fun h' => ((((h.setI 256 a (h.fi 256 b)).setI 257 a (h.fi 257 b)).setI 258 a (h.fi 258 b)).setI 259 a (h.fi 259 b)).setI 260 a (h.fi 260 b) = h')) := by
  refine Con.of (lv := [some (rv a), some (rv b)]) (by decide) (by simp only [lvE_r, lvE_i, lvE_l, lvE_s, lvE_0]; rfl) (by simp only [lgl_r, lgl_i, lgl_l, lgl_s, lgl_0]; decide) (fun Γ C R => ?_)
  refine r_aload_n (q := 1) (z := 0) C 0 rfl (by decide +kernel) rfl rfl ?_
  refine r_aload_n (q := 2) (z := 1) C 1 rfl (by decide +kernel) rfl rfl ?_
  refine r_getI (q := 5) C 4 0 256 rfl (by decide +kernel) rfl (by decide) rfl rfl wf_X4_9 win4 (by assumption) ?_
  refine r_putI (q := 8) C 4 0 256 rfl (by decide +kernel) rfl (by decide) rfl rfl wf_X4_9 win4 tyX4 tyX4_ok nmX4 rfl (tyX4_ok 0 (by decide)) rfl wnd4 rfl rfl (by assumption) ?_
  refine r_aload_n (q := 9) (z := 0) C 0 rfl (by decide +kernel) rfl rfl ?_
  refine r_aload_n (q := 10) (z := 1) C 1 rfl (by decide +kernel) rfl rfl ?_
  refine r_getI (q := 13) C 4 1 257 rfl (by decide +kernel) rfl (by decide) rfl rfl wf_X4_15 win4 (by assumption) ?_
  refine r_putI (q := 16) C 4 1 257 rfl (by decide +kernel) rfl (by decide) rfl rfl wf_X4_15 win4 tyX4 tyX4_ok nmX4 rfl (tyX4_ok 1 (by decide)) rfl wnd4 rfl rfl (by assumption) ?_
  refine r_aload_n (q := 17) (z := 0) C 0 rfl (by decide +kernel) rfl rfl ?_
  refine r_aload_n (q := 18) (z := 1) C 1 rfl (by decide +kernel) rfl rfl ?_
  refine r_getI (q := 21) C 4 2 258 rfl (by decide +kernel) rfl (by decide) rfl rfl wf_X4_18 win4 (by assumption) ?_
  refine r_putI (q := 24) C 4 2 258 rfl (by decide +kernel) rfl (by decide) rfl rfl wf_X4_18 win4 tyX4 tyX4_ok nmX4 rfl (tyX4_ok 2 (by decide)) rfl wnd4 rfl rfl (by assumption) ?_
  refine r_aload_n (q := 25) (z := 0) C 0 rfl (by decide +kernel) rfl rfl ?_
  refine r_aload_n (q := 26) (z := 1) C 1 rfl (by decide +kernel) rfl rfl ?_
  refine r_getI (q := 29) C 4 3 259 rfl (by decide +kernel) rfl (by decide) rfl rfl wf_X4_21 win4 (by assumption) ?_
  refine r_putI (q := 32) C 4 3 259 rfl (by decide +kernel) rfl (by decide) rfl rfl wf_X4_21 win4 tyX4 tyX4_ok nmX4 rfl (tyX4_ok 3 (by decide)) rfl wnd4 rfl rfl (by assumption) ?_
  refine r_aload_n (q := 33) (z := 0) C 0 rfl (by decide +kernel) rfl rfl ?_
  refine r_aload_n (q := 34) (z := 1) C 1 rfl (by decide +kernel) rfl rfl ?_
  refine r_getI (q := 37) C 4 4 260 rfl (by decide +kernel) rfl (by decide) rfl rfl wf_X4_24 win4 (by assumption) ?_
  refine r_putI (q := 40) C 4 4 260 rfl (by decide +kernel) rfl (by decide) rfl rfl wf_X4_24 win4 tyX4 tyX4_ok nmX4 rfl (tyX4_ok 4 (by decide)) rfl wnd4 (by rw [fi_ne (by decide), fi_ne (by decide), fi_ne (by decide), fi_ne (by decide), ht]; exact b2i_nar _) (by rw [fi_ne (by decide), fi_ne (by decide), fi_ne (by decide), fi_ne (by decide), ht]; exact b2i_fit _) (by assumption) ?_
  exact r_ret C (by decide +kernel) rfl (by decide) (by decide) ⟨rfl, (by rfl)⟩
theorem c_X4_place {G : GT} {h : HP} {a : Nat} (hk : h.kd a = (0, 4)) : Con G 1 0 0 yX4_place cX4_place 1 (some .int) [rv a] h (PI (fun r h' => 2 * (12 * h.fi 257 a + h.fi 256 a) + (if h.fi 260 a = 0 then 0 else 1) = r ∧ h = h')) := by
  refine Con.of (lv := [some (rv a)]) (by decide) (by simp only [lvE_r, lvE_i, lvE_l, lvE_s, lvE_0]; rfl) (by simp only [lgl_r, lgl_i, lgl_l, lgl_s, lgl_0]; decide) (fun Γ C R => ?_)
  refine r_iconst (q := 1) (z := 2) (v := 2) C rfl (by decide +kernel) (by decide) ?_
  refine r_bipush (q := 3) (z := 12) (v := 12) C rfl (by decide +kernel) (by decide) ?_
  refine r_aload_n (q := 4) (z := 0) C 0 rfl (by decide +kernel) rfl rfl ?_
  refine r_getI (q := 7) C 4 1 257 rfl (by decide +kernel) rfl (by decide) rfl rfl wf_X4_15 win4 (by assumption) ?_
  refine r_imul (q := 8) C rfl (by decide +kernel) ?_
  refine r_aload_n (q := 9) (z := 0) C 0 rfl (by decide +kernel) rfl rfl ?_
  refine r_getI (q := 12) C 4 0 256 rfl (by decide +kernel) rfl (by decide) rfl rfl wf_X4_9 win4 (by assumption) ?_
  refine r_iadd (q := 13) C rfl (by decide +kernel) ?_
  refine r_imul (q := 14) C rfl (by decide +kernel) ?_
  refine r_aload_n (q := 15) (z := 0) C 0 rfl (by decide +kernel) rfl rfl ?_
  refine r_getI (q := 18) C 4 4 260 rfl (by decide +kernel) rfl (by decide) rfl rfl wf_X4_24 win4 (by assumption) ?_
  refine r_if_eq (q := 21) (off := 7) (tgt := 25) C rfl (by decide +kernel) (by decide) (fun c18 => ?_) (fun c18 => ?_)
  · refine r_iconst (q := 26) (z := 0) (v := 0) C rfl (by decide +kernel) (by decide) ?_
    refine r_iadd (q := 27) C rfl (by decide +kernel) ?_
    exact r_iret C (by decide +kernel) rfl (by decide) (by decide) ⟨_, rfl, ⟨by clear C R; simp_all, rfl⟩⟩
  · refine r_iconst (q := 22) (z := 1) (v := 1) C rfl (by decide +kernel) (by decide) ?_
    refine r_goto (off := 4) (tgt := 26) C (by decide +kernel) (by decide) ?_
    refine r_iadd (q := 27) C rfl (by decide +kernel) ?_
    exact r_iret C (by decide +kernel) rfl (by decide) (by decide) ⟨_, rfl, ⟨by clear C R; simp_all, rfl⟩⟩
theorem c_X4_isOnGreen {G : GT} {h : HP} {a : Nat} (hk : h.kd a = (0, 4)) : Con G 1 0 0 yX4_isOnGreen cX4_isOnGreen 1 (some .boolean) [rv a] h (PI (fun r h' => b2i (decide (0 ≤ h.fi 256 a ∧ h.fi 256 a < 12 ∧ 0 ≤ h.fi 257 a ∧ h.fi 257 a < 10 ∧ h.fi 256 a + h.fi 258 a ≤ 12 ∧ h.fi 257 a + h.fi 259 a < 10)) = r ∧ h = h')) := by
  refine Con.of (lv := [some (rv a)]) (by decide) (by simp only [lvE_r, lvE_i, lvE_l, lvE_s, lvE_0]; rfl) (by simp only [lgl_r, lgl_i, lgl_l, lgl_s, lgl_0]; decide) (fun Γ C R => ?_)
  refine r_aload_n (q := 1) (z := 0) C 0 rfl (by decide +kernel) rfl rfl ?_
  refine r_getI (q := 4) C 4 0 256 rfl (by decide +kernel) rfl (by decide) rfl rfl wf_X4_9 win4 (by assumption) ?_
  refine r_if_lt (q := 7) (off := 60) (tgt := 64) C rfl (by decide +kernel) (by decide) (fun c4 => ?_) (fun c4 => ?_)
  · refine r_iconst (q := 65) (z := 0) (v := 0) C rfl (by decide +kernel) (by decide) ?_
    exact r_zret C (by decide +kernel) rfl (by first | decide | exact b2i_nar _) (by decide) (by decide) ⟨_, rfl, ⟨by clear C R; simp_all [b2i, ← Int32.not_lt], rfl⟩⟩
  · refine r_aload_n (q := 8) (z := 0) C 0 rfl (by decide +kernel) rfl rfl ?_
    refine r_getI (q := 11) C 4 0 256 rfl (by decide +kernel) rfl (by decide) rfl rfl wf_X4_9 win4 (by assumption) ?_
    refine r_bipush (q := 13) (z := 12) (v := 12) C rfl (by decide +kernel) (by decide) ?_
    refine r_icmp_ge (q := 16) (off := 51) (tgt := 64) C rfl (by decide +kernel) (by decide) (fun c13 => ?_) (fun c13 => ?_)
    · refine r_iconst (q := 65) (z := 0) (v := 0) C rfl (by decide +kernel) (by decide) ?_
      exact r_zret C (by decide +kernel) rfl (by first | decide | exact b2i_nar _) (by decide) (by decide) ⟨_, rfl, ⟨by clear C R; simp_all [b2i, ← Int32.not_lt], rfl⟩⟩
    · refine r_aload_n (q := 17) (z := 0) C 0 rfl (by decide +kernel) rfl rfl ?_
      refine r_getI (q := 20) C 4 1 257 rfl (by decide +kernel) rfl (by decide) rfl rfl wf_X4_15 win4 (by assumption) ?_
      refine r_if_lt (q := 23) (off := 44) (tgt := 64) C rfl (by decide +kernel) (by decide) (fun c20 => ?_) (fun c20 => ?_)
      · refine r_iconst (q := 65) (z := 0) (v := 0) C rfl (by decide +kernel) (by decide) ?_
        exact r_zret C (by decide +kernel) rfl (by first | decide | exact b2i_nar _) (by decide) (by decide) ⟨_, rfl, ⟨by clear C R; simp_all [b2i, ← Int32.not_lt], rfl⟩⟩
      · refine r_aload_n (q := 24) (z := 0) C 0 rfl (by decide +kernel) rfl rfl ?_
        refine r_getI (q := 27) C 4 1 257 rfl (by decide +kernel) rfl (by decide) rfl rfl wf_X4_15 win4 (by assumption) ?_
        refine r_bipush (q := 29) (z := 10) (v := 10) C rfl (by decide +kernel) (by decide) ?_
        refine r_icmp_ge (q := 32) (off := 35) (tgt := 64) C rfl (by decide +kernel) (by decide) (fun c29 => ?_) (fun c29 => ?_)
        · refine r_iconst (q := 65) (z := 0) (v := 0) C rfl (by decide +kernel) (by decide) ?_
          exact r_zret C (by decide +kernel) rfl (by first | decide | exact b2i_nar _) (by decide) (by decide) ⟨_, rfl, ⟨by clear C R; simp_all [b2i, ← Int32.not_lt], rfl⟩⟩
        · refine r_aload_n (q := 33) (z := 0) C 0 rfl (by decide +kernel) rfl rfl ?_
          refine r_getI (q := 36) C 4 0 256 rfl (by decide +kernel) rfl (by decide) rfl rfl wf_X4_9 win4 (by assumption) ?_
          refine r_aload_n (q := 37) (z := 0) C 0 rfl (by decide +kernel) rfl rfl ?_
          refine r_getI (q := 40) C 4 2 258 rfl (by decide +kernel) rfl (by decide) rfl rfl wf_X4_18 win4 (by assumption) ?_
          refine r_iadd (q := 41) C rfl (by decide +kernel) ?_
          refine r_bipush (q := 43) (z := 12) (v := 12) C rfl (by decide +kernel) (by decide) ?_
          refine r_icmp_gt (q := 46) (off := 21) (tgt := 64) C rfl (by decide +kernel) (by decide) (fun c43 => ?_) (fun c43 => ?_)
          · refine r_iconst (q := 65) (z := 0) (v := 0) C rfl (by decide +kernel) (by decide) ?_
            exact r_zret C (by decide +kernel) rfl (by first | decide | exact b2i_nar _) (by decide) (by decide) ⟨_, rfl, ⟨by clear C R; simp_all [b2i, ← Int32.not_lt], rfl⟩⟩
          · refine r_aload_n (q := 47) (z := 0) C 0 rfl (by decide +kernel) rfl rfl ?_
            refine r_getI (q := 50) C 4 1 257 rfl (by decide +kernel) rfl (by decide) rfl rfl wf_X4_15 win4 (by assumption) ?_
            refine r_aload_n (q := 51) (z := 0) C 0 rfl (by decide +kernel) rfl rfl ?_
            refine r_getI (q := 54) C 4 3 259 rfl (by decide +kernel) rfl (by decide) rfl rfl wf_X4_21 win4 (by assumption) ?_
            refine r_iadd (q := 55) C rfl (by decide +kernel) ?_
            refine r_bipush (q := 57) (z := 10) (v := 10) C rfl (by decide +kernel) (by decide) ?_
            refine r_icmp_ge (q := 60) (off := 7) (tgt := 64) C rfl (by decide +kernel) (by decide) (fun c57 => ?_) (fun c57 => ?_)
            · refine r_iconst (q := 65) (z := 0) (v := 0) C rfl (by decide +kernel) (by decide) ?_
              exact r_zret C (by decide +kernel) rfl (by first | decide | exact b2i_nar _) (by decide) (by decide) ⟨_, rfl, ⟨by clear C R; simp_all [b2i, ← Int32.not_lt], rfl⟩⟩
            · refine r_iconst (q := 61) (z := 1) (v := 1) C rfl (by decide +kernel) (by decide) ?_
              refine r_goto (off := 4) (tgt := 65) C (by decide +kernel) (by decide) ?_
              exact r_zret C (by decide +kernel) rfl (by first | decide | exact b2i_nar _) (by decide) (by decide) ⟨_, rfl, ⟨by clear C R; simp_all [b2i, ← Int32.not_lt], rfl⟩⟩
theorem c_X4_covers {G : GT} {h : HP} {a : Nat} {x y : Int32} (hk : h.kd a = (0, 4)) : Con G 1 0 0 yX4_covers cX4_covers 3 (some .boolean) [rv a, .int x, .int y] h (PI (fun r h' => b2i (decide (h.fi 256 a ≤ x ∧ x < h.fi 256 a + h.fi 258 a ∧ h.fi 257 a ≤ y ∧ y < h.fi 257 a + h.fi 259 a)) = r ∧ h = h')) := by
  refine Con.of (lv := [some (rv a), some (.int x), some (.int y)]) (by decide) (by simp only [lvE_r, lvE_i, lvE_l, lvE_s, lvE_0]; rfl) (by simp only [lgl_r, lgl_i, lgl_l, lgl_s, lgl_0]; decide) (fun Γ C R => ?_)
  refine r_iload_n (q := 1) (z := 1) C 1 rfl (by decide +kernel) rfl rfl ?_
  refine r_aload_n (q := 2) (z := 0) C 0 rfl (by decide +kernel) rfl rfl ?_
  refine r_getI (q := 5) C 4 0 256 rfl (by decide +kernel) rfl (by decide) rfl rfl wf_X4_9 win4 (by assumption) ?_
  refine r_icmp_lt (q := 8) (off := 41) (tgt := 46) C rfl (by decide +kernel) (by decide) (fun c5 => ?_) (fun c5 => ?_)
  · refine r_iconst (q := 47) (z := 0) (v := 0) C rfl (by decide +kernel) (by decide) ?_
    exact r_zret C (by decide +kernel) rfl (by first | decide | exact b2i_nar _) (by decide) (by decide) ⟨_, rfl, ⟨by clear C R; simp_all [b2i, ← Int32.not_lt], rfl⟩⟩
  · refine r_iload_n (q := 9) (z := 1) C 1 rfl (by decide +kernel) rfl rfl ?_
    refine r_aload_n (q := 10) (z := 0) C 0 rfl (by decide +kernel) rfl rfl ?_
    refine r_getI (q := 13) C 4 0 256 rfl (by decide +kernel) rfl (by decide) rfl rfl wf_X4_9 win4 (by assumption) ?_
    refine r_aload_n (q := 14) (z := 0) C 0 rfl (by decide +kernel) rfl rfl ?_
    refine r_getI (q := 17) C 4 2 258 rfl (by decide +kernel) rfl (by decide) rfl rfl wf_X4_18 win4 (by assumption) ?_
    refine r_iadd (q := 18) C rfl (by decide +kernel) ?_
    refine r_icmp_ge (q := 21) (off := 28) (tgt := 46) C rfl (by decide +kernel) (by decide) (fun c18 => ?_) (fun c18 => ?_)
    · refine r_iconst (q := 47) (z := 0) (v := 0) C rfl (by decide +kernel) (by decide) ?_
      exact r_zret C (by decide +kernel) rfl (by first | decide | exact b2i_nar _) (by decide) (by decide) ⟨_, rfl, ⟨by clear C R; simp_all [b2i, ← Int32.not_lt], rfl⟩⟩
    · refine r_iload_n (q := 22) (z := 2) C 2 rfl (by decide +kernel) rfl rfl ?_
      refine r_aload_n (q := 23) (z := 0) C 0 rfl (by decide +kernel) rfl rfl ?_
      refine r_getI (q := 26) C 4 1 257 rfl (by decide +kernel) rfl (by decide) rfl rfl wf_X4_15 win4 (by assumption) ?_
      refine r_icmp_lt (q := 29) (off := 20) (tgt := 46) C rfl (by decide +kernel) (by decide) (fun c26 => ?_) (fun c26 => ?_)
      · refine r_iconst (q := 47) (z := 0) (v := 0) C rfl (by decide +kernel) (by decide) ?_
        exact r_zret C (by decide +kernel) rfl (by first | decide | exact b2i_nar _) (by decide) (by decide) ⟨_, rfl, ⟨by clear C R; simp_all [b2i, ← Int32.not_lt], rfl⟩⟩
      · refine r_iload_n (q := 30) (z := 2) C 2 rfl (by decide +kernel) rfl rfl ?_
        refine r_aload_n (q := 31) (z := 0) C 0 rfl (by decide +kernel) rfl rfl ?_
        refine r_getI (q := 34) C 4 1 257 rfl (by decide +kernel) rfl (by decide) rfl rfl wf_X4_15 win4 (by assumption) ?_
        refine r_aload_n (q := 35) (z := 0) C 0 rfl (by decide +kernel) rfl rfl ?_
        refine r_getI (q := 38) C 4 3 259 rfl (by decide +kernel) rfl (by decide) rfl rfl wf_X4_21 win4 (by assumption) ?_
        refine r_iadd (q := 39) C rfl (by decide +kernel) ?_
        refine r_icmp_ge (q := 42) (off := 7) (tgt := 46) C rfl (by decide +kernel) (by decide) (fun c39 => ?_) (fun c39 => ?_)
        · refine r_iconst (q := 47) (z := 0) (v := 0) C rfl (by decide +kernel) (by decide) ?_
          exact r_zret C (by decide +kernel) rfl (by first | decide | exact b2i_nar _) (by decide) (by decide) ⟨_, rfl, ⟨by clear C R; simp_all [b2i, ← Int32.not_lt], rfl⟩⟩
        · refine r_iconst (q := 43) (z := 1) (v := 1) C rfl (by decide +kernel) (by decide) ?_
          refine r_goto (off := 4) (tgt := 47) C (by decide +kernel) (by decide) ?_
          exact r_zret C (by decide +kernel) rfl (by first | decide | exact b2i_nar _) (by decide) (by decide) ⟨_, rfl, ⟨by clear C R; simp_all [b2i, ← Int32.not_lt], rfl⟩⟩
theorem c_X4_coversDoorOf {G : GT} {h : HP} {a b : Nat} (hk : h.kd a = (0, 4)) (hkb : h.kd b = (0, 4)) : Con G 2 0 0 yX4_coversDoorOf cX4_coversDoorOf 2 (some .boolean) [rv a, rv b] h (PI (fun r h' => b2i (decide (h.fi 256 a ≤ h.fi 256 b + (h.fi 258 b - 1) / 2 ∧ h.fi 256 b + (h.fi 258 b - 1) / 2 < h.fi 256 a + h.fi 258 a ∧ h.fi 257 a ≤ h.fi 257 b + h.fi 259 b ∧ h.fi 257 b + h.fi 259 b < h.fi 257 a + h.fi 259 a)) = r ∧ h = h')) := by
  refine Con.of (lv := [some (rv a), some (rv b)]) (by decide) (by simp only [lvE_r, lvE_i, lvE_l, lvE_s, lvE_0]; rfl) (by simp only [lgl_r, lgl_i, lgl_l, lgl_s, lgl_0]; decide) (fun Γ C R => ?_)
  refine r_aload_n (q := 1) (z := 0) C 0 rfl (by decide +kernel) rfl rfl ?_
  refine r_aload_n (q := 2) (z := 1) C 1 rfl (by decide +kernel) rfl rfl ?_
  refine cV0I (q := 5) C R rfl (by decide +kernel) lk_X4_32 (c_X4_doorX (by assumption)) (by decide) (by decide) (by decide) rfl (by first | exact Nat.le_of_ble_eq_true rfl | (simp only [List.map_cons, List.map_nil, List.sum_cons, List.sum_nil, rv_cat]; exact Nat.le_of_ble_eq_true rfl)) rfl (by assumption) ?_
  rintro _ _ ⟨rfl, rfl⟩
  refine r_aload_n (q := 6) (z := 1) C 1 rfl (by decide +kernel) rfl rfl ?_
  refine cV0I (q := 9) C R rfl (by decide +kernel) lk_X4_36 (c_X4_doorY (by assumption)) (by decide) (by decide) (by decide) rfl (by first | exact Nat.le_of_ble_eq_true rfl | (simp only [List.map_cons, List.map_nil, List.sum_cons, List.sum_nil, rv_cat]; exact Nat.le_of_ble_eq_true rfl)) rfl (by assumption) ?_
  rintro _ _ ⟨rfl, rfl⟩
  refine cV2I (q := 12) C R rfl (by decide +kernel) lk_X4_39 (c_X4_covers (by assumption)) (by decide) (by decide) (by decide) rfl (by first | exact Nat.le_of_ble_eq_true rfl | (simp only [List.map_cons, List.map_nil, List.sum_cons, List.sum_nil, rv_cat]; exact Nat.le_of_ble_eq_true rfl)) rfl (by assumption) ?_
  rintro _ _ ⟨rfl, rfl⟩
  exact r_zret C (by decide +kernel) rfl (by first | decide | exact b2i_nar _) (by decide) (by decide) ⟨_, rfl, ⟨rfl, rfl⟩⟩
theorem c_X4_gap {G : GT} {h : HP} {x w z v : Int32} : Con G 2 0 0 yX4_gap cX4_gap 4 (some .int) [.int x, .int w, .int z, .int v] h (PI (fun r h' => gp x w z v = r ∧ h = h')) := by
  refine Con.of (lv := [some (.int x), some (.int w), some (.int z), some (.int v)]) (by decide) (by simp only [lvE_r, lvE_i, lvE_l, lvE_s, lvE_0]; rfl) (by simp only [lgl_r, lgl_i, lgl_l, lgl_s, lgl_0]; decide) (fun Γ C R => ?_)
  refine r_iload_n (q := 1) (z := 2) C 2 rfl (by decide +kernel) rfl rfl ?_
  refine r_iload_n (q := 2) (z := 0) C 0 rfl (by decide +kernel) rfl rfl ?_
  refine r_iload_n (q := 3) (z := 1) C 1 rfl (by decide +kernel) rfl rfl ?_
  refine r_iadd (q := 4) C rfl (by decide +kernel) ?_
  refine r_isub (q := 5) C rfl (by decide +kernel) ?_
  refine r_iload_n (q := 6) (z := 0) C 0 rfl (by decide +kernel) rfl rfl ?_
  refine r_iload_n (q := 7) (z := 2) C 2 rfl (by decide +kernel) rfl rfl ?_
  refine r_iload_n (q := 8) (z := 3) C 3 rfl (by decide +kernel) rfl rfl ?_
  refine r_iadd (q := 9) C rfl (by decide +kernel) ?_
  refine r_isub (q := 10) C rfl (by decide +kernel) ?_
  refine r_mmax (q := 13) (i := 47) C R rfl (by decide +kernel) (by decide +kernel) (by decide) (by decide) (by decide) (by first | exact Nat.le_of_ble_eq_true rfl | (simp only [List.map_cons, List.map_nil, List.sum_cons, List.sum_nil, rv_cat]; exact Nat.le_of_ble_eq_true rfl)) ?_
  exact r_iret C (by decide +kernel) rfl (by decide) (by decide) ⟨_, rfl, ⟨rfl, rfl⟩⟩
theorem c_X4_overlaps {G : GT} {h : HP} {a b : Nat} (hk : h.kd a = (0, 4)) (hkb : h.kd b = (0, 4)) : Con G 3 0 0 yX4_overlaps cX4_overlaps 2 (some .boolean) [rv a, rv b] h (PI (fun r h' => b2i (decide (gp (h.fi 256 a) (h.fi 258 a) (h.fi 256 b) (h.fi 258 b) < 0 ∧ gp (h.fi 257 a) (h.fi 259 a) (h.fi 257 b) (h.fi 259 b) < 0)) = r ∧ h = h')) := by
  refine Con.of (lv := [some (rv a), some (rv b)]) (by decide) (by simp only [lvE_r, lvE_i, lvE_l, lvE_s, lvE_0]; rfl) (by simp only [lgl_r, lgl_i, lgl_l, lgl_s, lgl_0]; decide) (fun Γ C R => ?_)
  refine r_aload_n (q := 1) (z := 0) C 0 rfl (by decide +kernel) rfl rfl ?_
  refine r_getI (q := 4) C 4 0 256 rfl (by decide +kernel) rfl (by decide) rfl rfl wf_X4_9 win4 (by assumption) ?_
  refine r_aload_n (q := 5) (z := 0) C 0 rfl (by decide +kernel) rfl rfl ?_
  refine r_getI (q := 8) C 4 2 258 rfl (by decide +kernel) rfl (by decide) rfl rfl wf_X4_18 win4 (by assumption) ?_
  refine r_aload_n (q := 9) (z := 1) C 1 rfl (by decide +kernel) rfl rfl ?_
  refine r_getI (q := 12) C 4 0 256 rfl (by decide +kernel) rfl (by decide) rfl rfl wf_X4_9 win4 (by assumption) ?_
  refine r_aload_n (q := 13) (z := 1) C 1 rfl (by decide +kernel) rfl rfl ?_
  refine r_getI (q := 16) C 4 2 258 rfl (by decide +kernel) rfl (by decide) rfl rfl wf_X4_18 win4 (by assumption) ?_
  refine cS4I (q := 19) C R rfl (by decide +kernel) lk_X4_43 (c_X4_gap ) (by decide) (by decide) (by decide) rfl (by first | exact Nat.le_of_ble_eq_true rfl | (simp only [List.map_cons, List.map_nil, List.sum_cons, List.sum_nil, rv_cat]; exact Nat.le_of_ble_eq_true rfl))  ?_
  rintro _ _ ⟨rfl, rfl⟩
  refine r_if_ge (q := 22) (off := 29) (tgt := 48) C rfl (by decide +kernel) (by decide) (fun c19 => ?_) (fun c19 => ?_)
  · refine r_iconst (q := 49) (z := 0) (v := 0) C rfl (by decide +kernel) (by decide) ?_
    exact r_zret C (by decide +kernel) rfl (by first | decide | exact b2i_nar _) (by decide) (by decide) ⟨_, rfl, ⟨by clear C R; simp_all [b2i, ← Int32.not_lt], rfl⟩⟩
  · refine r_aload_n (q := 23) (z := 0) C 0 rfl (by decide +kernel) rfl rfl ?_
    refine r_getI (q := 26) C 4 1 257 rfl (by decide +kernel) rfl (by decide) rfl rfl wf_X4_15 win4 (by assumption) ?_
    refine r_aload_n (q := 27) (z := 0) C 0 rfl (by decide +kernel) rfl rfl ?_
    refine r_getI (q := 30) C 4 3 259 rfl (by decide +kernel) rfl (by decide) rfl rfl wf_X4_21 win4 (by assumption) ?_
    refine r_aload_n (q := 31) (z := 1) C 1 rfl (by decide +kernel) rfl rfl ?_
    refine r_getI (q := 34) C 4 1 257 rfl (by decide +kernel) rfl (by decide) rfl rfl wf_X4_15 win4 (by assumption) ?_
    refine r_aload_n (q := 35) (z := 1) C 1 rfl (by decide +kernel) rfl rfl ?_
    refine r_getI (q := 38) C 4 3 259 rfl (by decide +kernel) rfl (by decide) rfl rfl wf_X4_21 win4 (by assumption) ?_
    refine cS4I (q := 41) C R rfl (by decide +kernel) lk_X4_43 (c_X4_gap ) (by decide) (by decide) (by decide) rfl (by first | exact Nat.le_of_ble_eq_true rfl | (simp only [List.map_cons, List.map_nil, List.sum_cons, List.sum_nil, rv_cat]; exact Nat.le_of_ble_eq_true rfl))  ?_
    rintro _ _ ⟨rfl, rfl⟩
    refine r_if_ge (q := 44) (off := 7) (tgt := 48) C rfl (by decide +kernel) (by decide) (fun c41 => ?_) (fun c41 => ?_)
    · refine r_iconst (q := 49) (z := 0) (v := 0) C rfl (by decide +kernel) (by decide) ?_
      exact r_zret C (by decide +kernel) rfl (by first | decide | exact b2i_nar _) (by decide) (by decide) ⟨_, rfl, ⟨by clear C R; simp_all [b2i, ← Int32.not_lt], rfl⟩⟩
    · refine r_iconst (q := 45) (z := 1) (v := 1) C rfl (by decide +kernel) (by decide) ?_
      refine r_goto (off := 4) (tgt := 49) C (by decide +kernel) (by decide) ?_
      exact r_zret C (by decide +kernel) rfl (by first | decide | exact b2i_nar _) (by decide) (by decide) ⟨_, rfl, ⟨by clear C R; simp_all [b2i, ← Int32.not_lt], rfl⟩⟩
theorem c_X4_isApartFrom {G : GT} {h : HP} {a b : Nat} (hk : h.kd a = (0, 4)) (hkb : h.kd b = (0, 4)) : Con G 3 0 0 yX4_isApartFrom cX4_isApartFrom 2 (some .boolean) [rv a, rv b] h (PI (fun r h' => b2i (decide (2 ≤ gp (h.fi 256 a) (h.fi 258 a) (h.fi 256 b) (h.fi 258 b) ∨ 2 ≤ gp (h.fi 257 a) (h.fi 259 a) (h.fi 257 b) (h.fi 259 b))) = r ∧ h = h')) := by
  refine Con.of (lv := [some (rv a), some (rv b)]) (by decide) (by simp only [lvE_r, lvE_i, lvE_l, lvE_s, lvE_0]; rfl) (by simp only [lgl_r, lgl_i, lgl_l, lgl_s, lgl_0]; decide) (fun Γ C R => ?_)
  refine r_aload_n (q := 1) (z := 0) C 0 rfl (by decide +kernel) rfl rfl ?_
  refine r_getI (q := 4) C 4 0 256 rfl (by decide +kernel) rfl (by decide) rfl rfl wf_X4_9 win4 (by assumption) ?_
  refine r_aload_n (q := 5) (z := 0) C 0 rfl (by decide +kernel) rfl rfl ?_
  refine r_getI (q := 8) C 4 2 258 rfl (by decide +kernel) rfl (by decide) rfl rfl wf_X4_18 win4 (by assumption) ?_
  refine r_aload_n (q := 9) (z := 1) C 1 rfl (by decide +kernel) rfl rfl ?_
  refine r_getI (q := 12) C 4 0 256 rfl (by decide +kernel) rfl (by decide) rfl rfl wf_X4_9 win4 (by assumption) ?_
  refine r_aload_n (q := 13) (z := 1) C 1 rfl (by decide +kernel) rfl rfl ?_
  refine r_getI (q := 16) C 4 2 258 rfl (by decide +kernel) rfl (by decide) rfl rfl wf_X4_18 win4 (by assumption) ?_
  refine cS4I (q := 19) C R rfl (by decide +kernel) lk_X4_43 (c_X4_gap ) (by decide) (by decide) (by decide) rfl (by first | exact Nat.le_of_ble_eq_true rfl | (simp only [List.map_cons, List.map_nil, List.sum_cons, List.sum_nil, rv_cat]; exact Nat.le_of_ble_eq_true rfl))  ?_
  rintro _ _ ⟨rfl, rfl⟩
  refine r_iconst (q := 20) (z := 2) (v := 2) C rfl (by decide +kernel) (by decide) ?_
  refine r_icmp_ge (q := 23) (off := 26) (tgt := 46) C rfl (by decide +kernel) (by decide) (fun c20 => ?_) (fun c20 => ?_)
  · refine r_iconst (q := 47) (z := 1) (v := 1) C rfl (by decide +kernel) (by decide) ?_
    refine r_goto (off := 4) (tgt := 51) C (by decide +kernel) (by decide) ?_
    exact r_zret C (by decide +kernel) rfl (by first | decide | exact b2i_nar _) (by decide) (by decide) ⟨_, rfl, ⟨by clear C R; simp_all [b2i, ← Int32.not_lt], rfl⟩⟩
  · refine r_aload_n (q := 24) (z := 0) C 0 rfl (by decide +kernel) rfl rfl ?_
    refine r_getI (q := 27) C 4 1 257 rfl (by decide +kernel) rfl (by decide) rfl rfl wf_X4_15 win4 (by assumption) ?_
    refine r_aload_n (q := 28) (z := 0) C 0 rfl (by decide +kernel) rfl rfl ?_
    refine r_getI (q := 31) C 4 3 259 rfl (by decide +kernel) rfl (by decide) rfl rfl wf_X4_21 win4 (by assumption) ?_
    refine r_aload_n (q := 32) (z := 1) C 1 rfl (by decide +kernel) rfl rfl ?_
    refine r_getI (q := 35) C 4 1 257 rfl (by decide +kernel) rfl (by decide) rfl rfl wf_X4_15 win4 (by assumption) ?_
    refine r_aload_n (q := 36) (z := 1) C 1 rfl (by decide +kernel) rfl rfl ?_
    refine r_getI (q := 39) C 4 3 259 rfl (by decide +kernel) rfl (by decide) rfl rfl wf_X4_21 win4 (by assumption) ?_
    refine cS4I (q := 42) C R rfl (by decide +kernel) lk_X4_43 (c_X4_gap ) (by decide) (by decide) (by decide) rfl (by first | exact Nat.le_of_ble_eq_true rfl | (simp only [List.map_cons, List.map_nil, List.sum_cons, List.sum_nil, rv_cat]; exact Nat.le_of_ble_eq_true rfl))  ?_
    rintro _ _ ⟨rfl, rfl⟩
    refine r_iconst (q := 43) (z := 2) (v := 2) C rfl (by decide +kernel) (by decide) ?_
    refine r_icmp_lt (q := 46) (off := 7) (tgt := 50) C rfl (by decide +kernel) (by decide) (fun c43 => ?_) (fun c43 => ?_)
    · refine r_iconst (q := 51) (z := 0) (v := 0) C rfl (by decide +kernel) (by decide) ?_
      exact r_zret C (by decide +kernel) rfl (by first | decide | exact b2i_nar _) (by decide) (by decide) ⟨_, rfl, ⟨by clear C R; simp_all [b2i, ← Int32.not_lt], rfl⟩⟩
    · refine r_iconst (q := 47) (z := 1) (v := 1) C rfl (by decide +kernel) (by decide) ?_
      refine r_goto (off := 4) (tgt := 51) C (by decide +kernel) (by decide) ?_
      exact r_zret C (by decide +kernel) rfl (by first | decide | exact b2i_nar _) (by decide) (by decide) ⟨_, rfl, ⟨by clear C R; simp_all [b2i, ← Int32.not_lt], rfl⟩⟩
end
section
/-! ===== cells, places, what is reached ===== -/
def hasC (x y : Int32) : Bool := decide (0 ≤ x ∧ x < 12 ∧ 0 ≤ y ∧ y < 10)
theorem hasC_of {x y : Int32} (h : hasC x y = true) : ∃ a b : Nat, a < 12 ∧ b < 10 ∧ x = nI a ∧ y = nI b := by
  simp only [hasC, decide_eq_true_eq] at h
  obtain ⟨h1, h2, h3, h4⟩ := h
  rw [Int32.le_iff_toInt_le] at h1 h3
  rw [Int32.lt_iff_toInt_lt] at h2 h4
  have e12 : (12 : Int32).toInt = 12 := by decide
  have e10 : (10 : Int32).toInt = 10 := by decide
  have e0 : (0 : Int32).toInt = 0 := by decide
  rw [e12] at h2; rw [e10] at h4; rw [e0] at h1 h3
  refine ⟨x.toInt.toNat, y.toInt.toNat, by omega, by omega, Int32.toInt_inj.mp ?_, Int32.toInt_inj.mp ?_⟩
  · rw [nI_toInt (by omega)]; omega
  · rw [nI_toInt (by omega)]; omega
theorem hasC_nI {a b : Nat} (ha : a < 12) (hb : b < 10) : hasC (nI a) (nI b) = true := by
  simp only [hasC, decide_eq_true_eq]
  exact ⟨nI_pos' (by omega), nI_lt ha (by decide), nI_pos' (by omega), nI_lt hb (by decide)⟩
theorem cIx {a b : Nat} : (12 : Int32) * nI b + nI a = nI (12 * b + a) := by
  rw [show (12 : Int32) = nI 12 from rfl, pk_mul, nI_add]
theorem cIn {x y : Int32} (h : hasC x y = true) : vp_in (12 * y + x) 120 := by
  obtain ⟨a, b, ha, hb, rfl, rfl⟩ := hasC_of h
  rw [cIx]
  exact vp_in_nI (by omega) (by decide)
/-- the cell c is at x, y -/
def cAt (x y : Int32) (c : Nat) : Prop := hasC x y = true ∧ 12 * y + x = nI c ∧ c < 120
theorem cAt_of {x y : Int32} (h : hasC x y = true) : ∃ c, cAt x y c ∧ (12 * y + x).toNatClampNeg = c := by
  obtain ⟨a, b, ha, hb, rfl, rfl⟩ := hasC_of h
  exact ⟨12 * b + a, ⟨h, cIx, by omega⟩, by rw [cIx]; exact nI_clamp (by omega)⟩
theorem cAt_one {x y : Int32} {c d : Nat} (h : cAt x y c) (h' : cAt x y d) : c = d := (nI_eq (by have := h.2.2; omega) (by have := h'.2.2; omega)).mp (h.2.1.symm.trans h'.2.1)
def adj (a b : Nat) : Prop := (a % 12 ≠ 0 ∧ b + 1 = a) ∨ (a % 12 ≠ 11 ∧ b = a + 1) ∨ b + 12 = a ∨ b = a + 12
theorem adj_symm {a b : Nat} (h : adj a b) : adj b a := by unfold adj at *; omega
/-- reached from g over cells that aren't barred: in every set that holds g and is closed -/
def RS (bar : Nat → Bool) (g c : Nat) : Prop := ∀ S : Nat → Prop, (bar g = false → S g) → (∀ a b, a < 120 → b < 120 → S a → adj a b → bar b = false → S b) → S c
theorem RS.gate {bar : Nat → Bool} {g : Nat} (h : bar g = false) : RS bar g g := fun S h1 _ => h1 h
theorem RS.step {bar : Nat → Bool} {g a b : Nat} (h : RS bar g a) (ha : a < 120) (hb : b < 120) (hab : adj a b) (hf : bar b = false) : RS bar g b := fun S h1 h2 => h2 a b ha hb (h S h1 h2) hab hf
theorem RS.free {bar : Nat → Bool} {g c : Nat} (h : RS bar g c) : bar c = false := h (fun c => bar c = false) (fun h => h) (fun _ _ _ _ _ _ h => h)
theorem RS.mono {bar bar' : Nat → Bool} {g c : Nat} (hm : ∀ c, bar c = false → bar' c = false) (h : RS bar g c) : RS bar' g c := fun S h1 h2 => h (fun c => S c) (fun e => h1 (hm _ e)) (fun a b ha hb hs hab he => h2 a b ha hb hs hab (hm _ he))
theorem RS.lt {bar : Nat → Bool} {g c : Nat} (hg : g < 120) (h : RS bar g c) : c < 120 := h (fun c => c < 120) (fun _ => hg) (fun _ _ _ h _ _ _ => h)
theorem RS.congr {bar bar' : Nat → Bool} {g c : Nat} (hg : g < 120) (hm : ∀ c, c < 120 → bar c = bar' c) : RS bar g c ↔ RS bar' g c := by
  constructor
  · intro h
    exact (h (fun c => RS bar' g c ∧ c < 120) (fun e => ⟨RS.gate (by rw [← hm g hg]; exact e), hg⟩) (fun a b ha hb hs hab he => ⟨hs.1.step ha hb hab (by rw [← hm b hb]; exact he), hb⟩)).1
  · intro h
    exact (h (fun c => RS bar g c ∧ c < 120) (fun e => ⟨RS.gate (by rw [hm g hg]; exact e), hg⟩) (fun a b ha hb hs hab he => ⟨hs.1.step ha hb hab (by rw [hm b hb]; exact he), hb⟩)).1
/-- how many of the first n -/
def cnt (p : Nat → Bool) : Nat → Nat
  | 0 => 0
  | n + 1 => cnt p n + (if p n then 1 else 0)
theorem cnt_le (p : Nat → Bool) : ∀ n, cnt p n ≤ n
  | 0 => Nat.le_refl 0
  | n + 1 => by have := cnt_le p n; simp only [cnt]; split <;> omega
theorem cnt_lt {p : Nat → Bool} {c : Nat} (hc : p c = false) : ∀ n, c < n → cnt p n < n
  | 0, h => absurd h (Nat.not_lt_zero _)
  | n + 1, h => by
    simp only [cnt]
    have := cnt_le p n
    by_cases e : c = n
    · subst e; rw [hc]; simp; omega
    · have := cnt_lt hc n (by omega); split <;> omega
theorem cnt_congr {p q : Nat → Bool} : ∀ n, (∀ k, k < n → p k = q k) → cnt p n = cnt q n
  | 0, _ => rfl
  | n + 1, h => by simp only [cnt]; rw [cnt_congr n (fun k hk => h k (by omega)), h n (by omega)]
theorem cnt_add {p : Nat → Bool} {c : Nat} (hc : p c = false) : ∀ n, cnt (fun k => p k || decide (k = c)) n = cnt p n + (if c < n then 1 else 0)
  | 0 => rfl
  | n + 1 => by
    simp only [cnt]
    rw [cnt_add hc n]
    by_cases e : n = c
    · subst e; simp [hc]
    · have e2 : (c < n + 1) = (c < n) := by apply propext; omega
      simp [e, e2]; omega
def inn (x y w z c : Nat) : Bool := decide (x ≤ c % 12 ∧ c % 12 < x + w ∧ y ≤ c / 12 ∧ c / 12 < y + z)
theorem inn_iff {x y w z c : Nat} : inn x y w z c = true ↔ x ≤ c % 12 ∧ c % 12 < x + w ∧ y ≤ c / 12 ∧ c / 12 < y + z := by simp [inn]
/-- the layout of Green -/
def LGn (kd : Nat → Nat × Nat) (gl : Nat → Nat) (fr : Nat → Nat → Nat) (a : Nat) : Prop := kd a = (0, 0) ∧ kd (fr 0 a) = (9, 120) ∧ kd (fr 1 a) = (9, 120) ∧ kd (fr 2 a) = (9, 120) ∧ gl (fr 0 a) = 1 ∧ gl (fr 1 a) = 2 ∧ gl (fr 2 a) = 3
/-- a spot that lies on the green: x, y, wide, high -/
def SpN (kd : Nat → Nat × Nat) (fi : Nat → Nat → Int32) (b x y w z : Nat) : Prop := kd b = (0, 4) ∧ fi 256 b = nI x ∧ fi 257 b = nI y ∧ fi 258 b = nI w ∧ fi 259 b = nI z ∧ x + w ≤ 12 ∧ y + z ≤ 10
/-- the search's state: reached f, the row q of its first k -/
def BI (bar : Nat → Bool) (g : Nat) (f q : Nat → Int32) (k : Nat) : Prop := (∀ c, c < 120 → f c = 0 ∨ f c = 1) ∧ k = cnt (fun c => decide (f c = 1)) 120 ∧ (∀ c, c < 120 → f c = 1 → RS bar g c ∧ ∃ j, j < k ∧ q j = nI c) ∧ (∀ j, j < k → ∃ c, c < 120 ∧ q j = nI c ∧ f c = 1)
def BS (f q : Nat → Int32) (k : Nat) (f' q' : Nat → Int32) (k' : Nat) : Prop := k ≤ k' ∧ (∀ j, j < k → q' j = q j) ∧ (∀ c, c < 120 → f c = 1 → f' c = 1)
theorem BI.le {bar : Nat → Bool} {g : Nat} {f q : Nat → Int32} {k : Nat} (h : BI bar g f q k) : k ≤ 120 := by rw [h.2.1]; exact cnt_le _ _
theorem BI.room {bar : Nat → Bool} {g : Nat} {f q : Nat → Int32} {k c : Nat} (h : BI bar g f q k) (hc : c < 120) (h0 : f c = 0) : k < 120 := by
  rw [h.2.1]
  exact cnt_lt (c := c) (by rw [h0]; decide) 120 hc
theorem BI.add {bar : Nat → Bool} {g : Nat} {f q : Nat → Int32} {k c : Nat} (h : BI bar g f q k) (hc : c < 120) (h0 : f c = 0) (hr : RS bar g c) : BI bar g (upd f c 1) (upd q k (nI c)) (k + 1) ∧ BS f q k (upd f c 1) (upd q k (nI c)) (k + 1) := by
  obtain ⟨h1, h2, h3, h4⟩ := h
  have u1 : ∀ d, upd f c 1 d = if d = c then 1 else f d := fun d => rfl
  have u2 : ∀ j, upd q k (nI c) j = if j = k then nI c else q j := fun d => rfl
  refine ⟨⟨fun d hd => ?_, ?_, fun d hd e => ?_, fun j hj => ?_⟩, by omega, fun j hj => ?_, fun d hd e => ?_⟩
  · rw [u1]; split
    · exact Or.inr rfl
    · exact h1 d hd
  · have e := cnt_add (p := fun c => decide (f c = 1)) (c := c) (by rw [h0]; decide) 120
    rw [if_pos hc, ← h2] at e
    rw [← e]
    refine cnt_congr 120 (fun d hd => ?_)
    show _ = decide (upd f c 1 d = 1)
    rw [u1]
    by_cases e2 : d = c <;> simp [e2]
  · rw [u1] at e
    by_cases e2 : d = c
    · subst e2
      exact ⟨hr, k, by omega, by rw [u2, if_pos rfl]⟩
    · rw [if_neg e2] at e
      obtain ⟨g1, j, g2, g3⟩ := h3 d hd e
      exact ⟨g1, j, by omega, by rw [u2, if_neg (by omega)]; exact g3⟩
  · rw [u2]
    by_cases e2 : j = k
    · exact ⟨c, hc, by rw [if_pos e2], by rw [u1, if_pos rfl]⟩
    · obtain ⟨d, g1, g2, g3⟩ := h4 j (by omega)
      exact ⟨d, g1, by rw [if_neg e2]; exact g2, by rw [u1]; split; rfl; exact g3⟩
  · rw [u2, if_neg (by omega)]
  · rw [u1]; split
    · rfl
    · exact e
theorem BS.rf {f q : Nat → Int32} {k : Nat} : BS f q k f q k := ⟨Nat.le_refl _, fun _ _ => rfl, fun _ _ h => h⟩
theorem BS.tr {f q f1 q1 f2 q2 : Nat → Int32} {k k1 k2 : Nat} (h : BS f q k f1 q1 k1) (h' : BS f1 q1 k1 f2 q2 k2) : BS f q k f2 q2 k2 := ⟨Nat.le_trans h.1 h'.1, fun j hj => (h'.2.1 j (Nat.lt_of_lt_of_le hj h.1)).trans (h.2.1 j hj), fun c hc e => h'.2.2 c hc (h.2.2 c hc e)⟩
/-- f on the first i, behind that g -/
def mix {α : Type} (f g : Nat → α) (i : Nat) : Nat → α := fun c => if c < i then f c else g c
theorem mix_0 {α : Type} (f g : Nat → α) : mix f g 0 = g := funext fun c => if_neg (Nat.not_lt_zero c)
theorem mix_s (f g : Nat → Int32) (i : Nat) : upd (mix f g i) i (f i) = mix f g (i + 1) := by
  funext c
  unfold upd mix
  by_cases e : c = i
  · subst e; simp
  · have e1 : (c < i + 1) = (c < i) := by apply propext; omega
    simp [e, e1]
theorem mix_in {α : Type} {f g : Nat → α} {i c : Nat} (h : c < i) : mix f g i c = f c := if_pos h
theorem mix_out {α : Type} {f g : Nat → α} {i c : Nat} (h : i ≤ c) : mix f g i c = g c := if_neg (by omega)

theorem c_X0_hasCell {G : GT} {h : HP} {x y : Int32} : Con G 1 0 0 yX0_hasCell cX0_hasCell 2 (some .boolean) [.int x, .int y] h (PI (fun r h' => b2i (hasC x y) = r ∧ h = h')) := by
  refine Con.of (lv := [some (.int x), some (.int y)]) (by decide) (by simp only [lvE_r, lvE_i, lvE_l, lvE_s, lvE_0]; rfl) (by simp only [lgl_r, lgl_i, lgl_l, lgl_s, lgl_0]; decide) (fun Γ C R => ?_)
  refine r_iload_n (q := 1) (z := 0) C 0 rfl (by decide +kernel) rfl rfl ?_
  refine r_if_lt (q := 4) (off := 23) (tgt := 24) C rfl (by decide +kernel) (by decide) (fun c1 => ?_) (fun c1 => ?_)
  · refine r_iconst (q := 25) (z := 0) (v := 0) C rfl (by decide +kernel) (by decide) ?_
    exact r_zret C (by decide +kernel) rfl (by first | decide | exact b2i_nar _) (by decide) (by decide) ⟨_, rfl, ⟨by clear C R; simp_all [b2i, hasC, ← Int32.not_lt], rfl⟩⟩
  · refine r_iload_n (q := 5) (z := 0) C 0 rfl (by decide +kernel) rfl rfl ?_
    refine r_bipush (q := 7) (z := 12) (v := 12) C rfl (by decide +kernel) (by decide) ?_
    refine r_icmp_ge (q := 10) (off := 17) (tgt := 24) C rfl (by decide +kernel) (by decide) (fun c7 => ?_) (fun c7 => ?_)
    · refine r_iconst (q := 25) (z := 0) (v := 0) C rfl (by decide +kernel) (by decide) ?_
      exact r_zret C (by decide +kernel) rfl (by first | decide | exact b2i_nar _) (by decide) (by decide) ⟨_, rfl, ⟨by clear C R; simp_all [b2i, hasC, ← Int32.not_lt], rfl⟩⟩
    · refine r_iload_n (q := 11) (z := 1) C 1 rfl (by decide +kernel) rfl rfl ?_
      refine r_if_lt (q := 14) (off := 13) (tgt := 24) C rfl (by decide +kernel) (by decide) (fun c11 => ?_) (fun c11 => ?_)
      · refine r_iconst (q := 25) (z := 0) (v := 0) C rfl (by decide +kernel) (by decide) ?_
        exact r_zret C (by decide +kernel) rfl (by first | decide | exact b2i_nar _) (by decide) (by decide) ⟨_, rfl, ⟨by clear C R; simp_all [b2i, hasC, ← Int32.not_lt], rfl⟩⟩
      · refine r_iload_n (q := 15) (z := 1) C 1 rfl (by decide +kernel) rfl rfl ?_
        refine r_bipush (q := 17) (z := 10) (v := 10) C rfl (by decide +kernel) (by decide) ?_
        refine r_icmp_ge (q := 20) (off := 7) (tgt := 24) C rfl (by decide +kernel) (by decide) (fun c17 => ?_) (fun c17 => ?_)
        · refine r_iconst (q := 25) (z := 0) (v := 0) C rfl (by decide +kernel) (by decide) ?_
          exact r_zret C (by decide +kernel) rfl (by first | decide | exact b2i_nar _) (by decide) (by decide) ⟨_, rfl, ⟨by clear C R; simp_all [b2i, hasC, ← Int32.not_lt], rfl⟩⟩
        · refine r_iconst (q := 21) (z := 1) (v := 1) C rfl (by decide +kernel) (by decide) ?_
          refine r_goto (off := 4) (tgt := 25) C (by decide +kernel) (by decide) ?_
          exact r_zret C (by decide +kernel) rfl (by first | decide | exact b2i_nar _) (by decide) (by decide) ⟨_, rfl, ⟨by clear C R; simp_all [b2i, hasC, ← Int32.not_lt], rfl⟩⟩
theorem c_X0_at {G : GT} {h : HP} {a : Nat} {x y : Int32} (g1 : h.kd a = (0, 0)) (g2 : h.kd (h.fr 0 a) = (9, 120)) : Con G 2 0 0 yX0_at cX0_at 3 (some .int) [rv a, .int x, .int y] h (PI (fun r h' => (if hasC x y then h.ai (h.fr 0 a) (12 * y + x).toNatClampNeg else -3) = r ∧ h = h')) := by
  refine Con.of (lv := [some (rv a), some (.int x), some (.int y)]) (by decide) (by simp only [lvE_r, lvE_i, lvE_l, lvE_s, lvE_0]; rfl) (by simp only [lgl_r, lgl_i, lgl_l, lgl_s, lgl_0]; decide) (fun Γ C R => ?_)
  refine r_iload_n (q := 1) (z := 1) C 1 rfl (by decide +kernel) rfl rfl ?_
  refine r_iload_n (q := 2) (z := 2) C 2 rfl (by decide +kernel) rfl rfl ?_
  refine cS2I (q := 5) C R rfl (by decide +kernel) lk_X0_34 (c_X0_hasCell ) (by decide) (by decide) (by decide) rfl (by first | exact Nat.le_of_ble_eq_true rfl | (simp only [List.map_cons, List.map_nil, List.sum_cons, List.sum_nil, rv_cat]; exact Nat.le_of_ble_eq_true rfl))  ?_
  rintro _ _ ⟨rfl, rfl⟩
  refine r_if_eq (q := 8) (off := 17) (tgt := 22) C rfl (by decide +kernel) (by decide) (fun c5 => ?_) (fun c5 => ?_)
  · refine r_bipush (q := 24) (z := (-3)) (v := (-3)) C rfl (by decide +kernel) (by decide) ?_
    exact r_iret C (by decide +kernel) rfl (by decide) (by decide) ⟨_, rfl, ⟨by clear C R; simp_all [b2i_0, b2i_n0], rfl⟩⟩
  · refine r_aload_n (q := 9) (z := 0) C 0 rfl (by decide +kernel) rfl rfl ?_
    refine r_getR (q := 12) C 0 0 0 rfl (by decide +kernel) rfl (by decide) rfl rfl wf_X0_9 win0 (by assumption) ?_
    refine r_bipush (q := 14) (z := 12) (v := 12) C rfl (by decide +kernel) (by decide) ?_
    refine r_iload_n (q := 15) (z := 2) C 2 rfl (by decide +kernel) rfl rfl ?_
    refine r_imul (q := 16) C rfl (by decide +kernel) ?_
    refine r_iload_n (q := 17) (z := 1) C 1 rfl (by decide +kernel) rfl rfl ?_
    refine r_iadd (q := 18) C rfl (by decide +kernel) ?_
    refine r_iald (q := 19) C rfl (by decide +kernel) (by assumption) (cIn ((b2i_n0 _).mp c5)) ?_
    refine r_goto (off := 5) (tgt := 24) C (by decide +kernel) (by decide) ?_
    exact r_iret C (by decide +kernel) rfl (by decide) (by decide) ⟨_, rfl, ⟨by clear C R; simp_all [b2i_0, b2i_n0], rfl⟩⟩
theorem c_X0_put {G : GT} {h : HP} {a : Nat} {x y v : Int32} (g1 : h.kd a = (0, 0)) (g2 : h.kd (h.fr 0 a) = (9, 120)) : Con G 2 0 0 yX0_put cX0_put 4 none [rv a, .int x, .int y, .int v] h (PV (fun h' => (if hasC x y then h.stI (h.fr 0 a) (12 * y + x).toNatClampNeg v else h) = h')) := by
  refine Con.of (lv := [some (rv a), some (.int x), some (.int y), some (.int v)]) (by decide) (by simp only [lvE_r, lvE_i, lvE_l, lvE_s, lvE_0]; rfl) (by simp only [lgl_r, lgl_i, lgl_l, lgl_s, lgl_0]; decide) (fun Γ C R => ?_)
  refine r_iload_n (q := 1) (z := 1) C 1 rfl (by decide +kernel) rfl rfl ?_
  refine r_iload_n (q := 2) (z := 2) C 2 rfl (by decide +kernel) rfl rfl ?_
  refine cS2I (q := 5) C R rfl (by decide +kernel) lk_X0_34 (c_X0_hasCell ) (by decide) (by decide) (by decide) rfl (by first | exact Nat.le_of_ble_eq_true rfl | (simp only [List.map_cons, List.map_nil, List.sum_cons, List.sum_nil, rv_cat]; exact Nat.le_of_ble_eq_true rfl))  ?_
  rintro _ _ ⟨rfl, rfl⟩
  refine r_if_eq (q := 8) (off := 15) (tgt := 20) C rfl (by decide +kernel) (by decide) (fun c5 => ?_) (fun c5 => ?_)
  · exact r_ret C (by decide +kernel) rfl (by decide) (by decide) ⟨rfl, (by clear C R; simp_all [b2i_0, b2i_n0])⟩
  · refine r_aload_n (q := 9) (z := 0) C 0 rfl (by decide +kernel) rfl rfl ?_
    refine r_getR (q := 12) C 0 0 0 rfl (by decide +kernel) rfl (by decide) rfl rfl wf_X0_9 win0 (by assumption) ?_
    refine r_bipush (q := 14) (z := 12) (v := 12) C rfl (by decide +kernel) (by decide) ?_
    refine r_iload_n (q := 15) (z := 2) C 2 rfl (by decide +kernel) rfl rfl ?_
    refine r_imul (q := 16) C rfl (by decide +kernel) ?_
    refine r_iload_n (q := 17) (z := 1) C 1 rfl (by decide +kernel) rfl rfl ?_
    refine r_iadd (q := 18) C rfl (by decide +kernel) ?_
    refine r_iload_n (q := 19) (z := 3) C 3 rfl (by decide +kernel) rfl rfl ?_
    refine r_iast (q := 20) C rfl (by decide +kernel) rfl (by assumption) (cIn ((b2i_n0 _).mp c5)) ?_
    exact r_ret C (by decide +kernel) rfl (by decide) (by decide) ⟨rfl, (by clear C R; simp_all [b2i_0, b2i_n0])⟩
theorem c_X0_isGate {G : GT} {h : HP} {a : Nat} {x y : Int32} (g1 : h.kd a = (0, 0)) : Con G 1 0 0 yX0_isGate cX0_isGate 3 (some .boolean) [rv a, .int x, .int y] h (PI (fun r h' => b2i (decide (x = 0 ∧ y = h.fi 4 a)) = r ∧ h = h')) := by
  refine Con.of (lv := [some (rv a), some (.int x), some (.int y)]) (by decide) (by simp only [lvE_r, lvE_i, lvE_l, lvE_s, lvE_0]; rfl) (by simp only [lgl_r, lgl_i, lgl_l, lgl_s, lgl_0]; decide) (fun Γ C R => ?_)
  refine r_iload_n (q := 1) (z := 1) C 1 rfl (by decide +kernel) rfl rfl ?_
  refine r_if_ne (q := 4) (off := 15) (tgt := 16) C rfl (by decide +kernel) (by decide) (fun c1 => ?_) (fun c1 => ?_)
  · refine r_iconst (q := 17) (z := 0) (v := 0) C rfl (by decide +kernel) (by decide) ?_
    exact r_zret C (by decide +kernel) rfl (by first | decide | exact b2i_nar _) (by decide) (by decide) ⟨_, rfl, ⟨by clear C R; simp_all [b2i], rfl⟩⟩
  · refine r_iload_n (q := 5) (z := 2) C 2 rfl (by decide +kernel) rfl rfl ?_
    refine r_aload_n (q := 6) (z := 0) C 0 rfl (by decide +kernel) rfl rfl ?_
    refine r_getI (q := 9) C 0 4 4 rfl (by decide +kernel) rfl (by decide) rfl rfl wf_X0_25 win0 (by assumption) ?_
    refine r_icmp_ne (q := 12) (off := 7) (tgt := 16) C rfl (by decide +kernel) (by decide) (fun c9 => ?_) (fun c9 => ?_)
    · refine r_iconst (q := 17) (z := 0) (v := 0) C rfl (by decide +kernel) (by decide) ?_
      exact r_zret C (by decide +kernel) rfl (by first | decide | exact b2i_nar _) (by decide) (by decide) ⟨_, rfl, ⟨by clear C R; simp_all [b2i], rfl⟩⟩
    · refine r_iconst (q := 13) (z := 1) (v := 1) C rfl (by decide +kernel) (by decide) ?_
      refine r_goto (off := 4) (tgt := 17) C (by decide +kernel) (by decide) ?_
      exact r_zret C (by decide +kernel) rfl (by first | decide | exact b2i_nar _) (by decide) (by decide) ⟨_, rfl, ⟨by clear C R; simp_all [b2i], rfl⟩⟩
theorem c_X0_isReached {G : GT} {h : HP} {a : Nat} {x y : Int32} (g1 : h.kd a = (0, 0)) (g3 : h.kd (h.fr 1 a) = (9, 120)) : Con G 2 0 0 yX0_isReached cX0_isReached 3 (some .boolean) [rv a, .int x, .int y] h (PI (fun r h' => b2i (hasC x y && decide (h.ai (h.fr 1 a) (12 * y + x).toNatClampNeg = 1)) = r ∧ h = h')) := by
  refine Con.of (lv := [some (rv a), some (.int x), some (.int y)]) (by decide) (by simp only [lvE_r, lvE_i, lvE_l, lvE_s, lvE_0]; rfl) (by simp only [lgl_r, lgl_i, lgl_l, lgl_s, lgl_0]; decide) (fun Γ C R => ?_)
  refine r_iload_n (q := 1) (z := 1) C 1 rfl (by decide +kernel) rfl rfl ?_
  refine r_iload_n (q := 2) (z := 2) C 2 rfl (by decide +kernel) rfl rfl ?_
  refine cS2I (q := 5) C R rfl (by decide +kernel) lk_X0_34 (c_X0_hasCell ) (by decide) (by decide) (by decide) rfl (by first | exact Nat.le_of_ble_eq_true rfl | (simp only [List.map_cons, List.map_nil, List.sum_cons, List.sum_nil, rv_cat]; exact Nat.le_of_ble_eq_true rfl))  ?_
  rintro _ _ ⟨rfl, rfl⟩
  refine r_if_eq (q := 8) (off := 22) (tgt := 27) C rfl (by decide +kernel) (by decide) (fun c5 => ?_) (fun c5 => ?_)
  · refine r_iconst (q := 28) (z := 0) (v := 0) C rfl (by decide +kernel) (by decide) ?_
    exact r_zret C (by decide +kernel) rfl (by first | decide | exact b2i_nar _) (by decide) (by decide) ⟨_, rfl, ⟨by clear C R; simp_all [b2i_0, b2i_n0, b2i], rfl⟩⟩
  · refine r_aload_n (q := 9) (z := 0) C 0 rfl (by decide +kernel) rfl rfl ?_
    refine r_getR (q := 12) C 0 1 1 rfl (by decide +kernel) rfl (by decide) rfl rfl wf_X0_15 win0 (by assumption) ?_
    refine r_bipush (q := 14) (z := 12) (v := 12) C rfl (by decide +kernel) (by decide) ?_
    refine r_iload_n (q := 15) (z := 2) C 2 rfl (by decide +kernel) rfl rfl ?_
    refine r_imul (q := 16) C rfl (by decide +kernel) ?_
    refine r_iload_n (q := 17) (z := 1) C 1 rfl (by decide +kernel) rfl rfl ?_
    refine r_iadd (q := 18) C rfl (by decide +kernel) ?_
    refine r_iald (q := 19) C rfl (by decide +kernel) (by assumption) (cIn ((b2i_n0 _).mp c5)) ?_
    refine r_iconst (q := 20) (z := 1) (v := 1) C rfl (by decide +kernel) (by decide) ?_
    refine r_icmp_ne (q := 23) (off := 7) (tgt := 27) C rfl (by decide +kernel) (by decide) (fun c20 => ?_) (fun c20 => ?_)
    · refine r_iconst (q := 28) (z := 0) (v := 0) C rfl (by decide +kernel) (by decide) ?_
      exact r_zret C (by decide +kernel) rfl (by first | decide | exact b2i_nar _) (by decide) (by decide) ⟨_, rfl, ⟨by clear C R; simp_all [b2i_0, b2i_n0, b2i], rfl⟩⟩
    · refine r_iconst (q := 24) (z := 1) (v := 1) C rfl (by decide +kernel) (by decide) ?_
      refine r_goto (off := 4) (tgt := 28) C (by decide +kernel) (by decide) ?_
      exact r_zret C (by decide +kernel) rfl (by first | decide | exact b2i_nar _) (by decide) (by decide) ⟨_, rfl, ⟨by clear C R; simp_all [b2i_0, b2i_n0, b2i], rfl⟩⟩
theorem c_J7_fill_53178 {G : GT} {h : HP} {a z : Nat} {v : Int32} (hk : h.kd a = (9, z)) (hz : z < 1000) : Con G 1 0 0 yJ7_fill_53178 cJ7_fill_53178 4 none [rv a, .int v] h (PV (fun h' => h.row a (mix (fun _ => v) (h.ai a) z) = h')) := by
  refine Con.of (lv := [some (rv a), some (.int v), none, none]) (by decide) (by simp only [lvE_r, lvE_i, lvE_l, lvE_s, lvE_0]; rfl) (by simp only [lgl_r, lgl_i, lgl_l, lgl_s, lgl_0]; decide) (fun Γ C R => ?_)
  refine r_iconst (q := 1) (z := 0) (v := 0) C rfl (by decide +kernel) (by decide) ?_
  refine r_istore_n (q := 2) (z := 2) C 2 rfl (by decide +kernel) rfl (by decide) (by first | rfl | exact okst_rv rfl) ?_
  dsimp only [List.set]
  refine r_aload_n (q := 3) (z := 0) C 0 rfl (by decide +kernel) rfl rfl ?_
  refine r_alen (q := 4) C rfl (by decide +kernel) (by exact hk) (by first | exact Or.inl rfl | exact Or.inr rfl) ?_
  refine r_istore_n (q := 5) (z := 3) C 3 rfl (by decide +kernel) rfl (by decide) (by first | rfl | exact okst_rv rfl) ?_
  dsimp only [List.set]
  have L5 : ∀ (fuel5 : Nat) (i : Nat), z - i < fuel5 → (i ≤ z) → wX G Γ (qM G Γ (PV (fun h' => h.row a (mix (fun _ => v) (h.ai a) z) = h')) 0 0) 0 0 (h.row a (mix (fun _ => v) (h.ai a) i)) 5 [some (rv a), some (.int v), some (.int (nI i)), some (.int (nI z))] [] := by
    intro fuel5
    induction fuel5 with
    | zero =>
      intro i hm5
      exact absurd hm5 (Nat.not_lt_zero _)
    | succ fuel5 ih5 =>
      intro i hm5 hi
      refine r_iload_n (q := 6) (z := 2) C 2 rfl (by decide +kernel) rfl rfl ?_
      refine r_iload_n (q := 7) (z := 3) C 3 rfl (by decide +kernel) rfl rfl ?_
      refine r_icmp_ge (q := 10) (off := 13) (tgt := 20) C rfl (by decide +kernel) (by decide) (fun c7 => ?_) (fun c7 => ?_)
      · have ez : i = z := by have := (nI_leI (by omega) (by omega)).mp c7; omega
        subst ez
        exact r_ret C (by decide +kernel) rfl (by decide) (by decide) ⟨rfl, rfl⟩
      · have hlt : i < z := Nat.lt_of_not_le (fun e => c7 (nI_le e (by omega)))
        refine r_aload_n (q := 11) (z := 0) C 0 rfl (by decide +kernel) rfl rfl ?_
        refine r_iload_n (q := 12) (z := 2) C 2 rfl (by decide +kernel) rfl rfl ?_
        refine r_iload_n (q := 13) (z := 1) C 1 rfl (by decide +kernel) rfl rfl ?_
        refine r_iast (q := 14) C rfl (by decide +kernel) rfl (by exact hk) (vp_in_nI hlt (by omega)) ?_
        rw [row_stI, nI_clamp (by omega), mix_s (fun _ => v)]
        refine r_iinc (q := 17) (z := 1) (v := 1) C 2 rfl (by decide +kernel) rfl (by decide) (by decide) (by first | rfl | exact okst_rv rfl) ?_
        dsimp only [List.set]
        rw [nI_1]
        refine r_goto (off := -12) (tgt := 5) C (by decide +kernel) (by decide) ?_
        exact ih5 (i + 1) (by omega) (by omega)
  have z0 := L5 (z + 1) 0 (by omega) (by omega)
  rw [mix_0, row_self] at z0
  exact z0
end
section
theorem LGn.row {h : HP} {a b : Nat} {f : Nat → Int32} (hg : LGn h.kd h.gl h.fr a) : LGn (h.row b f).kd (h.row b f).gl (h.row b f).fr a := hg
def cvr (v : Int32) (old : Nat → Int32) (x y w j i : Nat) : Nat → Int32 := fun c => if inn x y w j c || inn x (y + j) i 1 c then v else old c
theorem inn_z0 {x y w c : Nat} : inn x y w 0 c = false := by simp only [inn, decide_eq_false_iff_not]; omega
theorem inn_w0 {x y z c : Nat} : inn x y 0 z c = false := by simp only [inn, decide_eq_false_iff_not]; omega
theorem cvr_0 {v : Int32} {old : Nat → Int32} {x y w : Nat} : cvr v old x y w 0 0 = old := by
  funext c; unfold cvr; rw [inn_z0, inn_w0]; rfl
theorem cvr_end {v : Int32} {old : Nat → Int32} {x y w z : Nat} : cvr v old x y w z 0 = fun c => if inn x y w z c then v else old c := by
  funext c; unfold cvr; rw [inn_w0, Bool.or_false]
theorem inn_row {x y w j c : Nat} : (inn x y w j c || inn x (y + j) w 1 c) = inn x y w (j + 1) c := by
  rw [Bool.eq_iff_iff]; simp only [Bool.or_eq_true, inn_iff]; omega
theorem cvr_row {v : Int32} {old : Nat → Int32} {x y w j : Nat} : cvr v old x y w j w = cvr v old x y w (j + 1) 0 := by
  funext c; unfold cvr; rw [inn_row, inn_w0, Bool.or_false]
theorem inn_cell {x y i j c : Nat} (hx : x + i < 12) : (inn x (y + j) i 1 c || decide (c = 12 * (y + j) + (x + i))) = inn x (y + j) (i + 1) 1 c := by
  rw [Bool.eq_iff_iff]; simp only [Bool.or_eq_true, inn_iff, decide_eq_true_eq]; omega
theorem cvr_s {v : Int32} {old : Nat → Int32} {x y w j i : Nat} (hx : x + i < 12) : upd (cvr v old x y w j i) (12 * (y + j) + (x + i)) v = cvr v old x y w j (i + 1) := by
  funext c
  unfold upd cvr
  rw [← inn_cell hx]
  by_cases e : c = 12 * (y + j) + (x + i)
  · simp [e]
  · simp [e]
/-- the content of a cell lets a spot lie, and where wanted nobody else -/
def okc (unc : Bool) (v : Int32) : Prop := ¬ v < -1 ∧ (unc = true → v = -1)

theorem c_X0_cover {G : GT} {h : HP} {a b x y w z : Nat} {v : Int32} (hg : LGn h.kd h.gl h.fr a) (hs : SpN h.kd h.fi b x y w z) : Con G 3 0 0 yX0_cover cX0_cover 5 none [rv a, rv b, .int v] h (PV (fun h' => h.row (h.fr 0 a) (fun c => if inn x y w z c then v else h.ai (h.fr 0 a) c) = h')) := by
  refine Con.of (lv := [some (rv a), some (rv b), some (.int v), none, none]) (by decide) (by simp only [lvE_r, lvE_i, lvE_l, lvE_s, lvE_0]; rfl) (by simp only [lgl_r, lgl_i, lgl_l, lgl_s, lgl_0]; decide) (fun Γ C R => ?_)
  obtain ⟨g1, g2, g3, g4, g5, g6, g7⟩ := id hg
  obtain ⟨s1, s2, s3, s4, s5, s6, s7⟩ := id hs
  refine r_aload_n (q := 1) (z := 1) C 1 rfl (by decide +kernel) rfl rfl ?_
  refine r_getI (q := 4) C 4 1 257 rfl (by decide +kernel) rfl (by decide) rfl rfl wf_X0_38 win4 (by assumption) ?_
  try simp only [fi_row, fr_row, s2, s3, s4, s5]
  refine r_istore_n (q := 5) (z := 3) C 3 rfl (by decide +kernel) rfl (by decide) (by first | rfl | exact okst_rv rfl) ?_
  dsimp only [List.set]
  have L5 : ∀ (fuel5 : Nat) (j : Nat), z - j < fuel5 → (j ≤ z) → wX G Γ (qM G Γ (PV (fun h' => h.row (h.fr 0 a) (fun c => if inn x y w z c then v else h.ai (h.fr 0 a) c) = h')) 0 0) 0 0 (h.row (h.fr 0 a) (cvr v (h.ai (h.fr 0 a)) x y w j 0)) 5 [some (rv a), some (rv b), some (.int v), some (.int (nI (y + j))), none] [] := by
    intro fuel5
    induction fuel5 with
    | zero =>
      intro j hm5
      exact absurd hm5 (Nat.not_lt_zero _)
    | succ fuel5 ih5 =>
      intro j hm5 hj
      refine r_iload_n (q := 6) (z := 3) C 3 rfl (by decide +kernel) rfl rfl ?_
      refine r_aload_n (q := 7) (z := 1) C 1 rfl (by decide +kernel) rfl rfl ?_
      refine r_getI (q := 10) C 4 1 257 rfl (by decide +kernel) rfl (by decide) rfl rfl wf_X0_38 win4 (by assumption) ?_
      try simp only [fi_row, fr_row, s2, s3, s4, s5]
      refine r_aload_n (q := 11) (z := 1) C 1 rfl (by decide +kernel) rfl rfl ?_
      refine r_getI (q := 14) C 4 3 259 rfl (by decide +kernel) rfl (by decide) rfl rfl wf_X0_43 win4 (by assumption) ?_
      try simp only [fi_row, fr_row, s2, s3, s4, s5]
      refine r_iadd (q := 15) C rfl (by decide +kernel) ?_
      rw [nI_add]
      refine r_icmp_ge (q := 18) (off := 43) (tgt := 58) C rfl (by decide +kernel) (by decide) (fun c15 => ?_) (fun c15 => ?_)
      · have ez : j = z := by have := (nI_leI (by omega) (by omega)).mp c15; omega
        subst ez
        exact r_ret C (by decide +kernel) rfl (by decide) (by decide) ⟨rfl, (by rw [cvr_end])⟩
      · have hjz : j < z := Nat.lt_of_not_le (fun e => c15 (nI_le (by omega) (by omega)))
        refine r_aload_n (q := 19) (z := 1) C 1 rfl (by decide +kernel) rfl rfl ?_
        refine r_getI (q := 22) C 4 0 256 rfl (by decide +kernel) rfl (by decide) rfl rfl wf_X0_46 win4 (by assumption) ?_
        try simp only [fi_row, fr_row, s2, s3, s4, s5]
        refine r_istore (q := 24) C 4 rfl (by decide +kernel) (by decide) (by first | rfl | exact okst_rv rfl) ?_
        dsimp only [List.set]
        have L24 : ∀ (fuel24 : Nat) (i : Nat), w - i < fuel24 → (i ≤ w) → wX G Γ (qM G Γ (PV (fun h' => h.row (h.fr 0 a) (fun c => if inn x y w z c then v else h.ai (h.fr 0 a) c) = h')) 0 0) 0 0 (h.row (h.fr 0 a) (cvr v (h.ai (h.fr 0 a)) x y w j i)) 24 [some (rv a), some (rv b), some (.int v), some (.int (nI (y + j))), some (.int (nI (x + i)))] [] := by
          intro fuel24
          induction fuel24 with
          | zero =>
            intro i hm24
            exact absurd hm24 (Nat.not_lt_zero _)
          | succ fuel24 ih24 =>
            intro i hm24 hi
            refine r_iload (q := 26) C 4 rfl (by decide +kernel) rfl ?_
            refine r_aload_n (q := 27) (z := 1) C 1 rfl (by decide +kernel) rfl rfl ?_
            refine r_getI (q := 30) C 4 0 256 rfl (by decide +kernel) rfl (by decide) rfl rfl wf_X0_46 win4 (by assumption) ?_
            try simp only [fi_row, fr_row, s2, s3, s4, s5]
            refine r_aload_n (q := 31) (z := 1) C 1 rfl (by decide +kernel) rfl rfl ?_
            refine r_getI (q := 34) C 4 2 258 rfl (by decide +kernel) rfl (by decide) rfl rfl wf_X0_49 win4 (by assumption) ?_
            try simp only [fi_row, fr_row, s2, s3, s4, s5]
            refine r_iadd (q := 35) C rfl (by decide +kernel) ?_
            rw [nI_add]
            refine r_icmp_ge (q := 38) (off := 17) (tgt := 52) C rfl (by decide +kernel) (by decide) (fun c35 => ?_) (fun c35 => ?_)
            · have ew : i = w := by have := (nI_leI (by omega) (by omega)).mp c35; omega
              subst ew
              rw [cvr_row]
              refine r_iinc (q := 55) (z := 1) (v := 1) C 3 rfl (by decide +kernel) rfl (by decide) (by decide) (by first | rfl | exact okst_rv rfl) ?_
              dsimp only [List.set]
              rw [nI_1]
              refine r_goto (off := -50) (tgt := 5) C (by decide +kernel) (by decide) ?_
              exact wX.sub (lsub_s (lsub_s (lsub_s (lsub_s (lsub_n (lsub_nil)))))) (ih5 (j + 1) (by omega) (by omega))
            · have hiw : i < w := Nat.lt_of_not_le (fun e => c35 (nI_le (by omega) (by omega)))
              refine r_aload_n (q := 39) (z := 0) C 0 rfl (by decide +kernel) rfl rfl ?_
              refine r_iload (q := 41) C 4 rfl (by decide +kernel) rfl ?_
              refine r_iload_n (q := 42) (z := 3) C 3 rfl (by decide +kernel) rfl rfl ?_
              refine r_iload_n (q := 43) (z := 2) C 2 rfl (by decide +kernel) rfl rfl ?_
              refine cV3V (q := 46) C R rfl (by decide +kernel) lk_X0_52 (c_X0_put (by assumption) (by assumption)) (by decide) (by decide) (by decide) rfl (by first | exact Nat.le_of_ble_eq_true rfl | (simp only [List.map_cons, List.map_nil, List.sum_cons, List.sum_nil, rv_cat]; exact Nat.le_of_ble_eq_true rfl)) rfl (by assumption) ?_
              rintro _ rfl
              rw [if_pos (hasC_nI (by omega) (by omega)), cIx, nI_clamp (by omega)]
              simp only [fr_row]
              rw [row_stI, cvr_s (by omega)]
              refine r_iinc (q := 49) (z := 1) (v := 1) C 4 rfl (by decide +kernel) rfl (by decide) (by decide) (by first | rfl | exact okst_rv rfl) ?_
              dsimp only [List.set]
              rw [nI_1]
              refine r_goto (off := -25) (tgt := 24) C (by decide +kernel) (by decide) ?_
              exact ih24 (i + 1) (by omega) (by omega)
        exact L24 (w + 1) 0 (by omega) (by omega)
  have z0 := L5 (z + 1) 0 (by omega) (by omega)
  rw [cvr_0, row_self] at z0
  exact z0
theorem c_X0_isOpen {G : GT} {h : HP} {a b x y w z : Nat} {u : Bool} (hg : LGn h.kd h.gl h.fr a) (hs : SpN h.kd h.fi b x y w z) : Con G 3 0 0 yX0_isOpen cX0_isOpen 6 (some .boolean) [rv a, rv b, .int (b2i u)] h (PI (fun r h' => ∃ t : Bool, b2i t = r ∧ (t = true ↔ ∀ c, c < 120 → inn x y w z c = true → okc u (h.ai (h.fr 0 a) c)) ∧ h = h')) := by
  refine Con.of (lv := [some (rv a), some (rv b), some (.int (b2i u)), none, none, none]) (by decide) (by simp only [lvE_r, lvE_i, lvE_l, lvE_s, lvE_0]; rfl) (by simp only [lgl_r, lgl_i, lgl_l, lgl_s, lgl_0]; decide) (fun Γ C R => ?_)
  obtain ⟨g1, g2, g3, g4, g5, g6, g7⟩ := id hg
  obtain ⟨s1, s2, s3, s4, s5, s6, s7⟩ := id hs
  refine r_aload_n (q := 1) (z := 1) C 1 rfl (by decide +kernel) rfl rfl ?_
  refine r_getI (q := 4) C 4 1 257 rfl (by decide +kernel) rfl (by decide) rfl rfl wf_X0_38 win4 (by assumption) ?_
  try simp only [fi_row, fr_row, s2, s3, s4, s5]
  refine r_istore_n (q := 5) (z := 3) C 3 rfl (by decide +kernel) rfl (by decide) (by first | rfl | exact okst_rv rfl) ?_
  dsimp only [List.set]
  have L5 : ∀ (fuel5 : Nat) (j : Nat), z - j < fuel5 → (j ≤ z) → (∀ c, c < 120 → inn x y w j c = true → okc u (h.ai (h.fr 0 a) c)) → wX G Γ (qM G Γ (PI (fun r h' => ∃ t : Bool, b2i t = r ∧ (t = true ↔ ∀ c, c < 120 → inn x y w z c = true → okc u (h.ai (h.fr 0 a) c)) ∧ h = h')) 0 0) 0 0 (h) 5 [some (rv a), some (rv b), some (.int (b2i u)), some (.int (nI (y + j))), none, none] [] := by
    intro fuel5
    induction fuel5 with
    | zero =>
      intro j hm5
      exact absurd hm5 (Nat.not_lt_zero _)
    | succ fuel5 ih5 =>
      intro j hm5 hj ho
      refine r_iload_n (q := 6) (z := 3) C 3 rfl (by decide +kernel) rfl rfl ?_
      refine r_aload_n (q := 7) (z := 1) C 1 rfl (by decide +kernel) rfl rfl ?_
      refine r_getI (q := 10) C 4 1 257 rfl (by decide +kernel) rfl (by decide) rfl rfl wf_X0_38 win4 (by assumption) ?_
      try simp only [fi_row, fr_row, s2, s3, s4, s5]
      refine r_aload_n (q := 11) (z := 1) C 1 rfl (by decide +kernel) rfl rfl ?_
      refine r_getI (q := 14) C 4 3 259 rfl (by decide +kernel) rfl (by decide) rfl rfl wf_X0_43 win4 (by assumption) ?_
      try simp only [fi_row, fr_row, s2, s3, s4, s5]
      refine r_iadd (q := 15) C rfl (by decide +kernel) ?_
      rw [nI_add]
      refine r_icmp_ge (q := 18) (off := 62) (tgt := 77) C rfl (by decide +kernel) (by decide) (fun c15 => ?_) (fun c15 => ?_)
      · have ez : j = z := by have := (nI_leI (by omega) (by omega)).mp c15; omega
        subst ez
        refine r_iconst (q := 78) (z := 1) (v := 1) C rfl (by decide +kernel) (by decide) ?_
        exact r_zret C (by decide +kernel) rfl (by first | decide | exact b2i_nar _) (by decide) (by decide) ⟨_, rfl, ⟨true, rfl, ⟨fun _ => ho, fun _ => rfl⟩, rfl⟩⟩
      · have hjz : j < z := Nat.lt_of_not_le (fun e => c15 (nI_le (by omega) (by omega)))
        refine r_aload_n (q := 19) (z := 1) C 1 rfl (by decide +kernel) rfl rfl ?_
        refine r_getI (q := 22) C 4 0 256 rfl (by decide +kernel) rfl (by decide) rfl rfl wf_X0_46 win4 (by assumption) ?_
        try simp only [fi_row, fr_row, s2, s3, s4, s5]
        refine r_istore (q := 24) C 4 rfl (by decide +kernel) (by decide) (by first | rfl | exact okst_rv rfl) ?_
        dsimp only [List.set]
        have L24 : ∀ (fuel24 : Nat) (i : Nat), w - i < fuel24 → (i ≤ w) → (∀ c, c < 120 → inn x (y + j) i 1 c = true → okc u (h.ai (h.fr 0 a) c)) → wX G Γ (qM G Γ (PI (fun r h' => ∃ t : Bool, b2i t = r ∧ (t = true ↔ ∀ c, c < 120 → inn x y w z c = true → okc u (h.ai (h.fr 0 a) c)) ∧ h = h')) 0 0) 0 0 (h) 24 [some (rv a), some (rv b), some (.int (b2i u)), some (.int (nI (y + j))), some (.int (nI (x + i))), none] [] := by
          intro fuel24
          induction fuel24 with
          | zero =>
            intro i hm24
            exact absurd hm24 (Nat.not_lt_zero _)
          | succ fuel24 ih24 =>
            intro i hm24 hi ho2
            refine r_iload (q := 26) C 4 rfl (by decide +kernel) rfl ?_
            refine r_aload_n (q := 27) (z := 1) C 1 rfl (by decide +kernel) rfl rfl ?_
            refine r_getI (q := 30) C 4 0 256 rfl (by decide +kernel) rfl (by decide) rfl rfl wf_X0_46 win4 (by assumption) ?_
            try simp only [fi_row, fr_row, s2, s3, s4, s5]
            refine r_aload_n (q := 31) (z := 1) C 1 rfl (by decide +kernel) rfl rfl ?_
            refine r_getI (q := 34) C 4 2 258 rfl (by decide +kernel) rfl (by decide) rfl rfl wf_X0_49 win4 (by assumption) ?_
            try simp only [fi_row, fr_row, s2, s3, s4, s5]
            refine r_iadd (q := 35) C rfl (by decide +kernel) ?_
            rw [nI_add]
            refine r_icmp_ge (q := 38) (off := 36) (tgt := 71) C rfl (by decide +kernel) (by decide) (fun c35 => ?_) (fun c35 => ?_)
            · have ew : i = w := by have := (nI_leI (by omega) (by omega)).mp c35; omega
              subst ew
              refine r_iinc (q := 74) (z := 1) (v := 1) C 3 rfl (by decide +kernel) rfl (by decide) (by decide) (by first | rfl | exact okst_rv rfl) ?_
              dsimp only [List.set]
              rw [nI_1]
              refine r_goto (off := -69) (tgt := 5) C (by decide +kernel) (by decide) ?_
              exact wX.sub (lsub_s (lsub_s (lsub_s (lsub_s (lsub_n (lsub_n (lsub_nil))))))) (ih5 (j + 1) (by omega) (by omega) (fun c hc hi => (Bool.or_eq_true _ _ ▸ inn_row ▸ hi).elim (ho c hc) (ho2 c hc)))
            · have hiw : i < w := Nat.lt_of_not_le (fun e => c35 (nI_le (by omega) (by omega)))
              refine r_aload_n (q := 39) (z := 0) C 0 rfl (by decide +kernel) rfl rfl ?_
              refine r_iload (q := 41) C 4 rfl (by decide +kernel) rfl ?_
              refine r_iload_n (q := 42) (z := 3) C 3 rfl (by decide +kernel) rfl rfl ?_
              refine cV2I (q := 45) C R rfl (by decide +kernel) lk_X0_56 (c_X0_at (by assumption) (by assumption)) (by decide) (by decide) (by decide) rfl (by first | exact Nat.le_of_ble_eq_true rfl | (simp only [List.map_cons, List.map_nil, List.sum_cons, List.sum_nil, rv_cat]; exact Nat.le_of_ble_eq_true rfl)) rfl (by assumption) ?_
              rintro _ _ ⟨rfl, rfl⟩
              rw [if_pos (hasC_nI (by omega) (by omega)), cIx, nI_clamp (by omega)]
              refine r_istore (q := 47) C 5 rfl (by decide +kernel) (by decide) (by first | rfl | exact okst_rv rfl) ?_
              dsimp only [List.set]
              refine r_iload (q := 49) C 5 rfl (by decide +kernel) rfl ?_
              refine r_iconst (q := 50) (z := (-1)) (v := (-1)) C rfl (by decide +kernel) (by decide) ?_
              refine r_icmp_lt (q := 53) (off := 13) (tgt := 63) C rfl (by decide +kernel) (by decide) (fun c50 => ?_) (fun c50 => ?_)
              · refine r_iconst (q := 64) (z := 0) (v := 0) C rfl (by decide +kernel) (by decide) ?_
                exact r_zret C (by decide +kernel) rfl (by first | decide | exact b2i_nar _) (by decide) (by decide) ⟨_, rfl, ⟨false, rfl, ⟨(fun e => nomatch e), fun hall => absurd (hall (12 * (y + j) + (x + i)) (by omega) (by rw [inn_iff]; omega)) (fun k => by first | exact k.1 c50 | exact c60 (k.2 ((b2i_n0 _).mp c54)))⟩, rfl⟩⟩
              · refine r_iload_n (q := 54) (z := 2) C 2 rfl (by decide +kernel) rfl rfl ?_
                refine r_if_eq (q := 57) (off := 11) (tgt := 65) C rfl (by decide +kernel) (by decide) (fun c54 => ?_) (fun c54 => ?_)
                · have hok : okc u (h.ai (h.fr 0 a) (12 * (y + j) + (x + i))) := ⟨c50, fun e => absurd e (by rw [(b2i_0 _).mp c54]; decide)⟩
                  have hn3 : ∀ c, c < 120 → inn x (y + j) (i + 1) 1 c = true → okc u (h.ai (h.fr 0 a) c) := fun c hc hi => by
                    rw [← inn_cell (by omega), Bool.or_eq_true, decide_eq_true_eq] at hi
                    rcases hi with hi | rfl
                    · exact ho2 c hc hi
                    · exact hok
                  refine r_iinc (q := 68) (z := 1) (v := 1) C 4 rfl (by decide +kernel) rfl (by decide) (by decide) (by first | rfl | exact okst_rv rfl) ?_
                  dsimp only [List.set]
                  rw [nI_1]
                  refine r_goto (off := -44) (tgt := 24) C (by decide +kernel) (by decide) ?_
                  exact wX.sub (lsub_s (lsub_s (lsub_s (lsub_s (lsub_s (lsub_n (lsub_nil))))))) (ih24 (i + 1) (by omega) (by omega) hn3)
                · refine r_iload (q := 59) C 5 rfl (by decide +kernel) rfl ?_
                  refine r_iconst (q := 60) (z := (-1)) (v := (-1)) C rfl (by decide +kernel) (by decide) ?_
                  refine r_icmp_eq (q := 63) (off := 5) (tgt := 65) C rfl (by decide +kernel) (by decide) (fun c60 => ?_) (fun c60 => ?_)
                  · have hok : okc u (h.ai (h.fr 0 a) (12 * (y + j) + (x + i))) := ⟨c50, fun _ => c60⟩
                    have hn3 : ∀ c, c < 120 → inn x (y + j) (i + 1) 1 c = true → okc u (h.ai (h.fr 0 a) c) := fun c hc hi => by
                      rw [← inn_cell (by omega), Bool.or_eq_true, decide_eq_true_eq] at hi
                      rcases hi with hi | rfl
                      · exact ho2 c hc hi
                      · exact hok
                    refine r_iinc (q := 68) (z := 1) (v := 1) C 4 rfl (by decide +kernel) rfl (by decide) (by decide) (by first | rfl | exact okst_rv rfl) ?_
                    dsimp only [List.set]
                    rw [nI_1]
                    refine r_goto (off := -44) (tgt := 24) C (by decide +kernel) (by decide) ?_
                    exact wX.sub (lsub_s (lsub_s (lsub_s (lsub_s (lsub_s (lsub_n (lsub_nil))))))) (ih24 (i + 1) (by omega) (by omega) hn3)
                  · refine r_iconst (q := 64) (z := 0) (v := 0) C rfl (by decide +kernel) (by decide) ?_
                    exact r_zret C (by decide +kernel) rfl (by first | decide | exact b2i_nar _) (by decide) (by decide) ⟨_, rfl, ⟨false, rfl, ⟨(fun e => nomatch e), fun hall => absurd (hall (12 * (y + j) + (x + i)) (by omega) (by rw [inn_iff]; omega)) (fun k => by first | exact k.1 c50 | exact c60 (k.2 ((b2i_n0 _).mp c54)))⟩, rfl⟩⟩
        exact wX.sub (lsub_s (lsub_s (lsub_s (lsub_s (lsub_s (lsub_n (lsub_nil))))))) (L24 (w + 1) 0 (by omega) (by omega) (fun c _ hc => by rw [inn_w0] at hc; cases hc))
  exact wX.sub (lsub_s (lsub_s (lsub_s (lsub_s (lsub_n (lsub_n (lsub_nil))))))) (L5 (z + 1) 0 (by omega) (by omega) (fun c _ hc => by rw [inn_z0] at hc; cases hc))
end
section
def frees (f : Nat → Int32) (n : Nat) : Nat := cnt (fun c => decide (f c = -1)) n
theorem frees_y {f : Nat → Int32} {i : Nat} (h : f i = -1) : frees f (i + 1) = frees f i + 1 := by simp [frees, cnt, h]
theorem frees_n {f : Nat → Int32} {i : Nat} (h : ¬ f i = -1) : frees f (i + 1) = frees f i := by simp [frees, cnt, h]
/-- the heap while the search runs -/
def bst (h : HP) (a : Nat) (f q : Nat → Int32) (k : Nat) : HP := ((h.row (h.fr 1 a) f).row (h.fr 2 a) q).setI 3 a (nI k)
section BST
variable {h : HP} {a : Nat} {f q f' q' : Nat → Int32} {k k' : Nat}
theorem bst_bst (hn : h.fr 1 a ≠ h.fr 2 a) : bst (bst h a f q k) a f' q' k' = bst h a f' q' k' := by
  show ((((((h.row (h.fr 1 a) f).row (h.fr 2 a) q).setI 3 a (nI k)).row (h.fr 1 a) f').row (h.fr 2 a) q').setI 3 a (nI k')) = _
  rw [← setI_row, ← setI_row, setI_setI, row_comm (Ne.symm hn), row_row, row_row]
  rfl
theorem bst_self (hk : h.fi 3 a = nI k) : bst h a (h.ai (h.fr 1 a)) (h.ai (h.fr 2 a)) k = h := by
  unfold bst
  rw [row_self, row_self, ← hk, setI_self]
theorem bst_ai1 (hn : h.fr 1 a ≠ h.fr 2 a) : (bst h a f q k).ai (h.fr 1 a) = f := by
  show ((h.row (h.fr 1 a) f).row (h.fr 2 a) q).ai (h.fr 1 a) = f
  rw [ai_row_ne hn, ai_row_eq]
theorem bst_ai2 : (bst h a f q k).ai (h.fr 2 a) = q := by
  show ((h.row (h.fr 1 a) f).row (h.fr 2 a) q).ai (h.fr 2 a) = q
  rw [ai_row_eq]
theorem bst_ai {b : Nat} (h1 : b ≠ h.fr 1 a) (h2 : b ≠ h.fr 2 a) : (bst h a f q k).ai b = h.ai b := by
  show ((h.row (h.fr 1 a) f).row (h.fr 2 a) q).ai b = h.ai b
  rw [ai_row_ne h2, ai_row_ne h1]
theorem bst_fi3 : (bst h a f q k).fi 3 a = nI k := fi_eq
theorem bst_fi {g b : Nat} (hg : g ≠ 3) : (bst h a f q k).fi g b = h.fi g b := fi_ne hg
theorem bst_fr : (bst h a f q k).fr = h.fr := rfl
theorem bst_kd : (bst h a f q k).kd = h.kd := rfl
theorem bst_gl : (bst h a f q k).gl = h.gl := rfl
theorem bst_al : (bst h a f q k).al = h.al := rfl
theorem bst_ar : (bst h a f q k).ar = h.ar := rfl
end BST
theorem m1x (n : Nat) (h : 0 < n) : nI n - 1 = nI (n - 1) := by
  obtain ⟨m, rfl⟩ : ∃ m, n = m + 1 := ⟨n - 1, by omega⟩
  exact nI_pred m
theorem hasC_iff {x y : Int32} : hasC x y = true ↔ 0 ≤ x.toInt ∧ x.toInt < 12 ∧ 0 ≤ y.toInt ∧ y.toInt < 10 := by
  simp only [hasC, decide_eq_true_eq, Int32.le_iff_toInt_le, Int32.lt_iff_toInt_lt]
  exact Iff.rfl
theorem toInt_m1 {n : Nat} (h : n < 1000) : (nI n - 1).toInt = (n : Int) - 1 := by
  rw [show (1 : Int32) = nI 1 from rfl]
  exact pk_sub_toInt (by omega) (by omega)
theorem toInt_p1 {n : Nat} (h : n < 1000) : (nI n + 1).toInt = (n : Int) + 1 := by
  rw [nI_1, nI_toInt (by omega)]; omega
/-- the four neighbours of the cell c -/
theorem nb_up {c d : Nat} (hc : c < 120) : cAt (nI (c % 12)) (nI (c / 12) - 1) d ↔ d + 12 = c := by
  constructor
  · rintro ⟨h1, h2, h3⟩
    rw [hasC_iff, toInt_m1 (by omega)] at h1
    rw [m1x _ (by omega), cIx] at h2
    have := (nI_eq (by omega) (by omega)).mp h2
    omega
  · intro h
    refine ⟨?_, ?_, by omega⟩
    · rw [hasC_iff, toInt_m1 (by omega), nI_toInt (by omega)]; omega
    · rw [m1x _ (by omega), cIx]; congr 1; omega
theorem nb_left {c d : Nat} (hc : c < 120) : cAt (nI (c % 12) - 1) (nI (c / 12)) d ↔ c % 12 ≠ 0 ∧ d + 1 = c := by
  constructor
  · rintro ⟨h1, h2, h3⟩
    rw [hasC_iff, toInt_m1 (by omega)] at h1
    rw [m1x _ (by omega), cIx] at h2
    have := (nI_eq (by omega) (by omega)).mp h2
    omega
  · rintro ⟨h0, h⟩
    refine ⟨?_, ?_, by omega⟩
    · rw [hasC_iff, toInt_m1 (by omega), nI_toInt (by omega)]; omega
    · rw [m1x _ (by omega), cIx]; congr 1; omega
theorem nb_right {c d : Nat} (hc : c < 120) : cAt (nI (c % 12) + 1) (nI (c / 12)) d ↔ c % 12 ≠ 11 ∧ d = c + 1 := by
  constructor
  · rintro ⟨h1, h2, h3⟩
    rw [hasC_iff, toInt_p1 (by omega)] at h1
    rw [nI_1, cIx] at h2
    have := (nI_eq (by omega) (by omega)).mp h2
    omega
  · rintro ⟨h0, h⟩
    refine ⟨?_, ?_, by omega⟩
    · rw [hasC_iff, toInt_p1 (by omega), nI_toInt (by omega)]; omega
    · rw [nI_1, cIx]; congr 1; omega
theorem nb_down {c d : Nat} (hc : c < 120) : cAt (nI (c % 12)) (nI (c / 12) + 1) d ↔ d = c + 12 ∧ d < 120 := by
  constructor
  · rintro ⟨h1, h2, h3⟩
    rw [hasC_iff, toInt_p1 (by omega)] at h1
    rw [nI_1, cIx] at h2
    have := (nI_eq (by omega) (by omega)).mp h2
    omega
  · rintro ⟨h0, h⟩
    refine ⟨?_, ?_, by omega⟩
    · rw [hasC_iff, toInt_p1 (by omega), nI_toInt (by omega)]; omega
    · rw [nI_1, cIx]; congr 1; omega
theorem cAt_gate {g c : Nat} (hg : g < 10) : cAt 0 (nI g) c ↔ c = 12 * g := by
  rw [show (0 : Int32) = nI 0 from rfl]
  constructor
  · rintro ⟨h1, h2, h3⟩
    rw [cIx] at h2
    have := (nI_eq (by omega) (by omega)).mp h2
    omega
  · rintro rfl
    exact ⟨hasC_nI (by omega) hg, cIx, by omega⟩
theorem rem12 {c : Nat} (hc : c < 120) : nI c - nI c / 12 * 12 = nI (c % 12) := pk_rem (d := 12) (by omega) (by decide) (by decide)
theorem div12 {c : Nat} (hc : c < 120) : nI c / 12 = nI (c / 12) := pk_div (d := 12) (by omega) (by decide) (by decide)
/-- the search has ended: it is closed -/
theorem BI.done {bar : Nat → Bool} {g : Nat} {f q : Nat → Int32} {k : Nat} (hg : g < 120) (h : BI bar g f q k) (hp : ∀ j, j < k → ∀ c, c < 120 → q j = nI c → ∀ b, b < 120 → adj c b → bar b = false → f b = 1) (h0 : bar g = false → f g = 1) : ∀ c, c < 120 → (f c = 1 ↔ RS bar g c) := by
  intro c hc
  constructor
  · intro e
    exact (h.2.2.1 c hc e).1
  · intro e
    have := e (fun c => c < 120 ∧ f c = 1) (fun e => ⟨hg, h0 e⟩) (fun a b ha hb hs hab he => by
      obtain ⟨-, j, hj, hq⟩ := h.2.2.1 a ha hs.2
      exact ⟨hb, hp j hj a ha hq b hb hab he⟩)
    exact this.2
theorem BI.zero {bar : Nat → Bool} {g : Nat} {f q : Nat → Int32} (hf : ∀ c, c < 120 → f c = 0) : BI bar g f q 0 := by
  refine ⟨fun c hc => Or.inl (hf c hc), ?_, fun c hc e => ?_, fun j hj => absurd hj (Nat.not_lt_zero _)⟩
  · have : ∀ n, n ≤ 120 → cnt (fun c => decide (f c = 1)) n = 0 := by
      intro n
      induction n with
      | zero => intro _; rfl
      | succ n ih => intro hn; simp [cnt, ih (by omega), hf n (by omega)]
    exact (this 120 (Nat.le_refl _)).symm
  · rw [hf c hc] at e; exact absurd e (by decide)

theorem c_X0_countFree {G : GT} {h : HP} {a : Nat} (hg : LGn h.kd h.gl h.fr a) : Con G 1 0 0 yX0_countFree cX0_countFree 6 (some .int) [rv a] h (PI (fun r h' => nI (frees (h.ai (h.fr 0 a)) 120) = r ∧ h = h')) := by
  refine Con.of (lv := [some (rv a), none, none, none, none, none]) (by decide) (by simp only [lvE_r, lvE_i, lvE_l, lvE_s, lvE_0]; rfl) (by simp only [lgl_r, lgl_i, lgl_l, lgl_s, lgl_0]; decide) (fun Γ C R => ?_)
  obtain ⟨g1, g2, g3, g4, g5, g6, g7⟩ := id hg
  refine r_iconst (q := 1) (z := 0) (v := 0) C rfl (by decide +kernel) (by decide) ?_
  refine r_istore_n (q := 2) (z := 1) C 1 rfl (by decide +kernel) rfl (by decide) (by first | rfl | exact okst_rv rfl) ?_
  dsimp only [List.set]
  refine r_aload_n (q := 3) (z := 0) C 0 rfl (by decide +kernel) rfl rfl ?_
  refine r_getR (q := 6) C 0 0 0 rfl (by decide +kernel) rfl (by decide) rfl rfl wf_X0_9 win0 (by assumption) ?_
  refine r_astore_n (q := 7) (z := 2) C 2 rfl (by decide +kernel) rfl (by decide) (by first | rfl | exact okst_rv rfl) ?_
  dsimp only [List.set]
  refine r_aload_n (q := 8) (z := 2) C 2 rfl (by decide +kernel) rfl rfl ?_
  refine r_alen (q := 9) C rfl (by decide +kernel) (by assumption) (by first | exact Or.inl rfl | exact Or.inr rfl) ?_
  refine r_istore_n (q := 10) (z := 3) C 3 rfl (by decide +kernel) rfl (by decide) (by first | rfl | exact okst_rv rfl) ?_
  dsimp only [List.set]
  refine r_iconst (q := 11) (z := 0) (v := 0) C rfl (by decide +kernel) (by decide) ?_
  refine r_istore (q := 13) C 4 rfl (by decide +kernel) (by decide) (by first | rfl | exact okst_rv rfl) ?_
  dsimp only [List.set]
  have L13 : ∀ (fuel13 : Nat) (i : Nat), 120 - i < fuel13 → (i ≤ 120) → wX G Γ (qM G Γ (PI (fun r h' => nI (frees (h.ai (h.fr 0 a)) 120) = r ∧ h = h')) 0 0) 0 0 (h) 13 [some (rv a), some (.int (nI (frees (h.ai (h.fr 0 a)) i))), some (rv (h.fr 0 a)), some (.int (nI 120)), some (.int (nI i)), none] [] := by
    intro fuel13
    induction fuel13 with
    | zero =>
      intro i hm13
      exact absurd hm13 (Nat.not_lt_zero _)
    | succ fuel13 ih13 =>
      intro i hm13 hi
      refine r_iload (q := 15) C 4 rfl (by decide +kernel) rfl ?_
      refine r_iload_n (q := 16) (z := 3) C 3 rfl (by decide +kernel) rfl rfl ?_
      refine r_icmp_ge (q := 19) (off := 24) (tgt := 40) C rfl (by decide +kernel) (by decide) (fun c16 => ?_) (fun c16 => ?_)
      · have ez : i = 120 := by have := (nI_leI (by omega) (by omega)).mp c16; omega
        subst ez
        refine r_iload_n (q := 41) (z := 1) C 1 rfl (by decide +kernel) rfl rfl ?_
        exact r_iret C (by decide +kernel) rfl (by decide) (by decide) ⟨_, rfl, ⟨rfl, rfl⟩⟩
      · have hlt : i < 120 := Nat.lt_of_not_le (fun e => c16 (nI_le e (by omega)))
        refine r_aload_n (q := 20) (z := 2) C 2 rfl (by decide +kernel) rfl rfl ?_
        refine r_iload (q := 22) C 4 rfl (by decide +kernel) rfl ?_
        refine r_iald (q := 23) C rfl (by decide +kernel) (by assumption) (vp_in_nI hlt (by omega)) ?_
        rw [nI_clamp (by omega)]
        refine r_istore (q := 25) C 5 rfl (by decide +kernel) (by decide) (by first | rfl | exact okst_rv rfl) ?_
        dsimp only [List.set]
        refine r_iload (q := 27) C 5 rfl (by decide +kernel) rfl ?_
        refine r_iconst (q := 28) (z := (-1)) (v := (-1)) C rfl (by decide +kernel) (by decide) ?_
        refine r_icmp_ne (q := 31) (off := 6) (tgt := 34) C rfl (by decide +kernel) (by decide) (fun c28 => ?_) (fun c28 => ?_)
        · rw [← frees_n c28]
          refine r_iinc (q := 37) (z := 1) (v := 1) C 4 rfl (by decide +kernel) rfl (by decide) (by decide) (by first | rfl | exact okst_rv rfl) ?_
          dsimp only [List.set]
          rw [nI_1]
          refine r_goto (off := -24) (tgt := 13) C (by decide +kernel) (by decide) ?_
          exact wX.sub (lsub_s (lsub_s (lsub_s (lsub_s (lsub_s (lsub_n (lsub_nil))))))) (ih13 (i + 1) (by omega) (by omega))
        · refine r_iinc (q := 34) (z := 1) (v := 1) C 1 rfl (by decide +kernel) rfl (by decide) (by decide) (by first | rfl | exact okst_rv rfl) ?_
          dsimp only [List.set]
          rw [nI_1, ← frees_y c28]
          refine r_iinc (q := 37) (z := 1) (v := 1) C 4 rfl (by decide +kernel) rfl (by decide) (by decide) (by first | rfl | exact okst_rv rfl) ?_
          dsimp only [List.set]
          rw [nI_1]
          refine r_goto (off := -24) (tgt := 13) C (by decide +kernel) (by decide) ?_
          exact wX.sub (lsub_s (lsub_s (lsub_s (lsub_s (lsub_s (lsub_n (lsub_nil))))))) (ih13 (i + 1) (by omega) (by omega))
  exact wX.sub (lsub_s (lsub_s (lsub_s (lsub_s (lsub_s (lsub_n (lsub_nil))))))) (L13 121 0 (by omega) (by omega))
theorem c_X0_reach {G : GT} {h : HP} {a k g : Nat} {x y : Int32} {bar : Nat → Bool} (hg : LGn h.kd h.gl h.fr a) (hB : BI bar g (h.ai (h.fr 1 a)) (h.ai (h.fr 2 a)) k) (hk : h.fi 3 a = nI k) (hc : ∀ c, c < 120 → (h.ai (h.fr 0 a) c = -1 ↔ bar c = false)) (hr : ∀ c, cAt x y c → bar c = false → RS bar g c) : Con G 3 0 0 yX0_reach cX0_reach 3 none [rv a, .int x, .int y] h (PV (fun h' => ∃ f' q' k', bst h a f' q' k' = h' ∧ BI bar g f' q' k' ∧ BS (h.ai (h.fr 1 a)) (h.ai (h.fr 2 a)) k f' q' k' ∧ ∀ c, cAt x y c → bar c = false → f' c = 1)) := by
  refine Con.of (lv := [some (rv a), some (.int x), some (.int y)]) (by decide) (by simp only [lvE_r, lvE_i, lvE_l, lvE_s, lvE_0]; rfl) (by simp only [lgl_r, lgl_i, lgl_l, lgl_s, lgl_0]; decide) (fun Γ C R => ?_)
  obtain ⟨g1, g2, g3, g4, g5, g6, g7⟩ := id hg
  have hk1 := hB.le
  refine r_aload_n (q := 1) (z := 0) C 0 rfl (by decide +kernel) rfl rfl ?_
  refine r_iload_n (q := 2) (z := 1) C 1 rfl (by decide +kernel) rfl rfl ?_
  refine r_iload_n (q := 3) (z := 2) C 2 rfl (by decide +kernel) rfl rfl ?_
  refine cV2I (q := 6) C R rfl (by decide +kernel) lk_X0_56 (c_X0_at (by assumption) (by assumption)) (by decide) (by decide) (by decide) rfl (by first | exact Nat.le_of_ble_eq_true rfl | (simp only [List.map_cons, List.map_nil, List.sum_cons, List.sum_nil, rv_cat]; exact Nat.le_of_ble_eq_true rfl)) rfl (by assumption) ?_
  rintro _ _ ⟨rfl, rfl⟩
  refine r_iconst (q := 7) (z := (-1)) (v := (-1)) C rfl (by decide +kernel) (by decide) ?_
  refine r_icmp_ne (q := 10) (off := 63) (tgt := 70) C rfl (by decide +kernel) (by decide) (fun c7 => ?_) (fun c7 => ?_)
  · exact r_ret C (by decide +kernel) rfl (by decide) (by decide) ⟨rfl, ⟨_, _, k, bst_self hk, hB, BS.rf, fun c hcA hb => absurd (by rw [if_pos hcA.1, show (12 * y + x).toNatClampNeg = c by rw [hcA.2.1]; exact nI_clamp (by have := hcA.2.2; omega)]; exact (hc c hcA.2.2).mpr hb) c7⟩⟩
  · have hC : hasC x y = true := by
      cases e : hasC x y with
      | true => rfl
      | false => rw [e] at c7; exact absurd (show (-3 : Int32) = -1 from c7) (by decide)
    obtain ⟨c0, hc0, hcl⟩ := cAt_of hC
    rw [if_pos hC, hcl] at c7
    have hb0 := (hc c0 hc0.2.2).mp c7
    refine r_aload_n (q := 11) (z := 0) C 0 rfl (by decide +kernel) rfl rfl ?_
    refine r_getR (q := 14) C 0 1 1 rfl (by decide +kernel) rfl (by decide) rfl rfl wf_X0_15 win0 (by assumption) ?_
    refine r_bipush (q := 16) (z := 12) (v := 12) C rfl (by decide +kernel) (by decide) ?_
    refine r_iload_n (q := 17) (z := 2) C 2 rfl (by decide +kernel) rfl rfl ?_
    refine r_imul (q := 18) C rfl (by decide +kernel) ?_
    refine r_iload_n (q := 19) (z := 1) C 1 rfl (by decide +kernel) rfl rfl ?_
    refine r_iadd (q := 20) C rfl (by decide +kernel) ?_
    refine r_iald (q := 21) C rfl (by decide +kernel) (by assumption) (cIn hC) ?_
    rw [hcl]
    refine r_if_ne (q := 24) (off := 49) (tgt := 70) C rfl (by decide +kernel) (by decide) (fun c21 => ?_) (fun c21 => ?_)
    · exact r_ret C (by decide +kernel) rfl (by decide) (by decide) ⟨rfl, ⟨_, _, k, bst_self hk, hB, BS.rf, fun c hcA hb => by rw [cAt_one hcA hc0]; exact (hB.1 c0 hc0.2.2).resolve_left c21⟩⟩
    · have hlt := hB.room hc0.2.2 c21
      refine r_aload_n (q := 25) (z := 0) C 0 rfl (by decide +kernel) rfl rfl ?_
      refine r_getI (q := 28) C 0 3 3 rfl (by decide +kernel) rfl (by decide) rfl rfl wf_X0_21 win0 (by assumption) ?_
      rw [hk]
      refine r_bipush (q := 30) (z := 120) (v := 120) C rfl (by decide +kernel) (by decide) ?_
      refine r_icmp_ge (q := 33) (off := 40) (tgt := 70) C rfl (by decide +kernel) (by decide) (fun c30 => ?_) (fun c30 => ?_)
      · exact absurd ((nI_leI (a := 120) (by omega) (by omega)).mp c30) (by omega)
      · refine r_aload_n (q := 34) (z := 0) C 0 rfl (by decide +kernel) rfl rfl ?_
        refine r_getR (q := 37) C 0 1 1 rfl (by decide +kernel) rfl (by decide) rfl rfl wf_X0_15 win0 (by assumption) ?_
        refine r_bipush (q := 39) (z := 12) (v := 12) C rfl (by decide +kernel) (by decide) ?_
        refine r_iload_n (q := 40) (z := 2) C 2 rfl (by decide +kernel) rfl rfl ?_
        refine r_imul (q := 41) C rfl (by decide +kernel) ?_
        refine r_iload_n (q := 42) (z := 1) C 1 rfl (by decide +kernel) rfl rfl ?_
        refine r_iadd (q := 43) C rfl (by decide +kernel) ?_
        refine r_iconst (q := 44) (z := 1) (v := 1) C rfl (by decide +kernel) (by decide) ?_
        refine r_iast (q := 45) C rfl (by decide +kernel) rfl (by assumption) (cIn hC) ?_
        rw [hcl, stI_row]
        refine r_aload_n (q := 46) (z := 0) C 0 rfl (by decide +kernel) rfl rfl ?_
        refine r_getR (q := 49) C 0 2 2 rfl (by decide +kernel) rfl (by decide) rfl rfl wf_X0_18 win0 (by assumption) ?_
        refine r_aload_n (q := 50) (z := 0) C 0 rfl (by decide +kernel) rfl rfl ?_
        refine r_getI (q := 53) C 0 3 3 rfl (by decide +kernel) rfl (by decide) rfl rfl wf_X0_21 win0 (by assumption) ?_
        rw [fi_row, hk]
        refine r_bipush (q := 55) (z := 12) (v := 12) C rfl (by decide +kernel) (by decide) ?_
        refine r_iload_n (q := 56) (z := 2) C 2 rfl (by decide +kernel) rfl rfl ?_
        refine r_imul (q := 57) C rfl (by decide +kernel) ?_
        refine r_iload_n (q := 58) (z := 1) C 1 rfl (by decide +kernel) rfl rfl ?_
        refine r_iadd (q := 59) C rfl (by decide +kernel) ?_
        refine r_iast (q := 60) C rfl (by decide +kernel) rfl (by assumption) (vp_in_nI hlt (by omega)) ?_
        simp only [fr_row]
        rw [nI_clamp (by omega), hc0.2.1, stI_row, ai_row_ne (gl_ne g7 g6 (by decide))]
        refine r_aload_n (q := 61) (z := 0) C 0 rfl (by decide +kernel) rfl rfl ?_
        refine r_dup (q := 62) C rfl (by decide +kernel) (by first | rfl | exact rv_cat _) ?_
        refine r_getI (q := 65) C 0 3 3 rfl (by decide +kernel) rfl (by decide) rfl rfl wf_X0_21 win0 (by assumption) ?_
        simp only [fi_row]
        rw [hk]
        refine r_iconst (q := 66) (z := 1) (v := 1) C rfl (by decide +kernel) (by decide) ?_
        refine r_iadd (q := 67) C rfl (by decide +kernel) ?_
        rw [nI_1]
        refine r_putI (q := 70) C 0 3 3 rfl (by decide +kernel) rfl (by decide) rfl rfl wf_X0_21 win0 tyX0 tyX0_ok nmX0 rfl (tyX0_ok 3 (by decide)) rfl wnd0 rfl rfl (by assumption) ?_
        exact r_ret C (by decide +kernel) rfl (by decide) (by decide) ⟨rfl, ⟨_, _, _, rfl, (hB.add hc0.2.2 c21 (hr c0 hc0 hb0)).1, (hB.add hc0.2.2 c21 (hr c0 hc0 hb0)).2, fun c hcA hb => by rw [cAt_one hcA hc0]; exact if_pos rfl⟩⟩
theorem c_X0_spreadFromGate {G : GT} {h : HP} {a g : Nat} {bar : Nat → Bool} (hg : LGn h.kd h.gl h.fr a) (hgt : h.fi 4 a = nI g) (hg10 : g < 10) (hc : ∀ c, c < 120 → (h.ai (h.fr 0 a) c = -1 ↔ bar c = false)) : Con G 4 0 0 yX0_spreadFromGate cX0_spreadFromGate 4 none [rv a] h (PV (fun h' => ∃ f' q' k', bst h a f' q' k' = h' ∧ (∀ c, c < 120 → f' c = 0 ∨ f' c = 1) ∧ ∀ c, c < 120 → (f' c = 1 ↔ RS bar (12 * g) c))) := by
  refine Con.of (lv := [some (rv a), none, none, none]) (by decide) (by simp only [lvE_r, lvE_i, lvE_l, lvE_s, lvE_0]; rfl) (by simp only [lgl_r, lgl_i, lgl_l, lgl_s, lgl_0]; decide) (fun Γ C R => ?_)
  obtain ⟨g1, g2, g3, g4, g5, g6, g7⟩ := id hg
  have hn12 : h.fr 1 a ≠ h.fr 2 a := gl_ne g6 g7 (by decide)
  have hn01 : h.fr 0 a ≠ h.fr 1 a := gl_ne g5 g6 (by decide)
  have hn02 : h.fr 0 a ≠ h.fr 2 a := gl_ne g5 g7 (by decide)
  refine r_aload_n (q := 1) (z := 0) C 0 rfl (by decide +kernel) rfl rfl ?_
  refine r_getR (q := 4) C 0 1 1 rfl (by decide +kernel) rfl (by decide) rfl rfl wf_X0_15 win0 (by assumption) ?_
  refine r_iconst (q := 5) (z := 0) (v := 0) C rfl (by decide +kernel) (by decide) ?_
  refine cS2V (q := 8) C R rfl (by decide +kernel) lk_X0_28 (c_J7_fill_53178 (by assumption) (by decide)) (by decide) (by decide) (by decide) rfl (by first | exact Nat.le_of_ble_eq_true rfl | (simp only [List.map_cons, List.map_nil, List.sum_cons, List.sum_nil, rv_cat]; exact Nat.le_of_ble_eq_true rfl))  ?_
  rintro _ rfl
  have e10 : (h.row (h.fr 1 a) (mix (fun _ => 0) (h.ai (h.fr 1 a)) 120)).setI 3 a 0 = bst h a (mix (fun _ => 0) (h.ai (h.fr 1 a)) 120) (h.ai (h.fr 2 a)) 0 := by
    unfold bst
    rw [show (h.row (h.fr 1 a) (mix (fun _ => 0) (h.ai (h.fr 1 a)) 120)).row (h.fr 2 a) (h.ai (h.fr 2 a)) = h.row (h.fr 1 a) (mix (fun _ => 0) (h.ai (h.fr 1 a)) 120) from by rw [show h.ai (h.fr 2 a) = (h.row (h.fr 1 a) (mix (fun _ => 0) (h.ai (h.fr 1 a)) 120)).ai (h.fr 2 a) from (ai_row_ne (Ne.symm hn12)).symm, row_self]]
    rfl
  refine r_aload_n (q := 9) (z := 0) C 0 rfl (by decide +kernel) rfl rfl ?_
  refine r_iconst (q := 10) (z := 0) (v := 0) C rfl (by decide +kernel) (by decide) ?_
  refine r_putI (q := 13) C 0 3 3 rfl (by decide +kernel) rfl (by decide) rfl rfl wf_X0_21 win0 tyX0 tyX0_ok nmX0 rfl (tyX0_ok 3 (by decide)) rfl wnd0 rfl rfl (by assumption) ?_
  rw [e10]
  refine r_aload_n (q := 14) (z := 0) C 0 rfl (by decide +kernel) rfl rfl ?_
  refine r_iconst (q := 15) (z := 0) (v := 0) C rfl (by decide +kernel) (by decide) ?_
  refine r_aload_n (q := 16) (z := 0) C 0 rfl (by decide +kernel) rfl rfl ?_
  refine r_getI (q := 19) C 0 4 4 rfl (by decide +kernel) rfl (by decide) rfl rfl wf_X0_25 win0 (by assumption) ?_
  rw [bst_fi (by decide), hgt]
  refine cV2V (q := 22) C R rfl (by decide +kernel) lk_X0_60 (c_X0_reach (bar := bar) (g := 12 * g) (by assumption) (by rw [bst_fr, bst_ai1 hn12, bst_ai2]; exact BI.zero (fun c hc => mix_in hc)) bst_fi3 (by rw [bst_fr, bst_ai hn01 hn02]; exact hc) (fun d hd hb => by rw [(cAt_gate hg10).mp hd] at hb ⊢; exact RS.gate hb)) (by decide) (by decide) (by decide) rfl (by first | exact Nat.le_of_ble_eq_true rfl | (simp only [List.map_cons, List.map_nil, List.sum_cons, List.sum_nil, rv_cat]; exact Nat.le_of_ble_eq_true rfl)) rfl (by assumption) ?_
  rintro _ ⟨f19, q19, k19, rfl, hB19, hS19, hN19⟩
  rw [bst_bst hn12]
  refine r_iconst (q := 23) (z := 0) (v := 0) C rfl (by decide +kernel) (by decide) ?_
  refine r_istore_n (q := 24) (z := 1) C 1 rfl (by decide +kernel) rfl (by decide) (by first | rfl | exact okst_rv rfl) ?_
  dsimp only [List.set]
  have L24 : ∀ (fuel24 : Nat) (i : Nat) (f q : Nat → Int32) (k : Nat), 120 - i < fuel24 → (i ≤ k) → (BI bar (12 * g) f q k) → (∀ j, j < i → ∀ c, c < 120 → q j = nI c → ∀ b, b < 120 → adj c b → bar b = false → f b = 1) → (bar (12 * g) = false → f (12 * g) = 1) → wX G Γ (qM G Γ (PV (fun h' => ∃ f' q' k', bst h a f' q' k' = h' ∧ (∀ c, c < 120 → f' c = 0 ∨ f' c = 1) ∧ ∀ c, c < 120 → (f' c = 1 ↔ RS bar (12 * g) c))) 0 0) 0 0 (bst h a f q k) 24 [some (rv a), some (.int (nI i)), none, none] [] := by
    intro fuel24
    induction fuel24 with
    | zero =>
      intro i f q k hm24
      exact absurd hm24 (Nat.not_lt_zero _)
    | succ fuel24 ih24 =>
      intro i f q k hm24 hi hB hP hG
      have hk1 := hB.le
      refine r_iload_n (q := 25) (z := 1) C 1 rfl (by decide +kernel) rfl rfl ?_
      refine r_aload_n (q := 26) (z := 0) C 0 rfl (by decide +kernel) rfl rfl ?_
      refine r_getI (q := 29) C 0 3 3 rfl (by decide +kernel) rfl (by decide) rfl rfl wf_X0_21 win0 (by assumption) ?_
      rw [bst_fi3]
      refine r_icmp_ge (q := 32) (off := 67) (tgt := 96) C rfl (by decide +kernel) (by decide) (fun c29 => ?_) (fun c29 => ?_)
      · have ek : i = k := by have := (nI_leI (by omega) (by omega)).mp c29; omega
        subst ek
        exact r_ret C (by decide +kernel) rfl (by decide) (by decide) ⟨rfl, ⟨f, q, i, rfl, hB.1, hB.done (by omega) hP hG⟩⟩
      · have hik : i < k := Nat.lt_of_not_le (fun e => c29 (nI_le e (by omega)))
        refine r_iload_n (q := 33) (z := 1) C 1 rfl (by decide +kernel) rfl rfl ?_
        refine r_bipush (q := 35) (z := 120) (v := 120) C rfl (by decide +kernel) (by decide) ?_
        refine r_icmp_ge (q := 38) (off := 61) (tgt := 96) C rfl (by decide +kernel) (by decide) (fun c35 => ?_) (fun c35 => ?_)
        · exact absurd ((nI_leI (a := 120) (by omega) (by omega)).mp c35) (by omega)
        · refine r_aload_n (q := 39) (z := 0) C 0 rfl (by decide +kernel) rfl rfl ?_
          refine r_getR (q := 42) C 0 2 2 rfl (by decide +kernel) rfl (by decide) rfl rfl wf_X0_18 win0 (by assumption) ?_
          refine r_iload_n (q := 43) (z := 1) C 1 rfl (by decide +kernel) rfl rfl ?_
          refine r_iald (q := 44) C rfl (by decide +kernel) (by assumption) (vp_in_nI (by omega) (by omega)) ?_
          rw [nI_clamp (by omega), bst_fr, bst_ai2]
          obtain ⟨c0, hcc, hqc, hfc⟩ := hB.2.2.2 i hik
          rw [hqc]
          refine r_bipush (q := 46) (z := 12) (v := 12) C rfl (by decide +kernel) (by decide) ?_
          refine r_irem (q := 47) C rfl (by decide +kernel) (by decide) ?_
          rw [rem12 hcc]
          refine r_istore_n (q := 48) (z := 2) C 2 rfl (by decide +kernel) rfl (by decide) (by first | rfl | exact okst_rv rfl) ?_
          dsimp only [List.set]
          refine r_aload_n (q := 49) (z := 0) C 0 rfl (by decide +kernel) rfl rfl ?_
          refine r_getR (q := 52) C 0 2 2 rfl (by decide +kernel) rfl (by decide) rfl rfl wf_X0_18 win0 (by assumption) ?_
          refine r_iload_n (q := 53) (z := 1) C 1 rfl (by decide +kernel) rfl rfl ?_
          refine r_iald (q := 54) C rfl (by decide +kernel) (by assumption) (vp_in_nI (by omega) (by omega)) ?_
          rw [nI_clamp (by omega), bst_fr, bst_ai2, hqc]
          refine r_bipush (q := 56) (z := 12) (v := 12) C rfl (by decide +kernel) (by decide) ?_
          refine r_idiv (q := 57) C rfl (by decide +kernel) (by decide) ?_
          rw [div12 hcc]
          have hRc := (hB.2.2.1 c0 hcc hfc).1
          have hSS : BS f q k f q k := BS.rf
          have hBB := hB
          refine r_istore_n (q := 58) (z := 3) C 3 rfl (by decide +kernel) rfl (by decide) (by first | rfl | exact okst_rv rfl) ?_
          dsimp only [List.set]
          refine r_aload_n (q := 59) (z := 0) C 0 rfl (by decide +kernel) rfl rfl ?_
          refine r_iload_n (q := 60) (z := 2) C 2 rfl (by decide +kernel) rfl rfl ?_
          refine r_iload_n (q := 61) (z := 3) C 3 rfl (by decide +kernel) rfl rfl ?_
          refine r_iconst (q := 62) (z := 1) (v := 1) C rfl (by decide +kernel) (by decide) ?_
          refine r_isub (q := 63) C rfl (by decide +kernel) ?_
          refine cV2V (q := 66) C R rfl (by decide +kernel) lk_X0_60 (c_X0_reach (bar := bar) (g := 12 * g) (by assumption) (by rw [bst_fr, bst_ai1 hn12, bst_ai2]; exact hBB) bst_fi3 (by rw [bst_fr, bst_ai hn01 hn02]; exact hc) (fun d hd hb => hRc.step hcc hd.2.2 (by have := (nb_up hcc).mp hd; unfold adj; omega) hb)) (by decide) (by decide) (by decide) rfl (by first | exact Nat.le_of_ble_eq_true rfl | (simp only [List.map_cons, List.map_nil, List.sum_cons, List.sum_nil, rv_cat]; exact Nat.le_of_ble_eq_true rfl)) rfl (by assumption) ?_
          rintro _ ⟨f63, q63, k63, rfl, hB63, hS63, hN63⟩
          rw [bst_fr, bst_ai1 hn12, bst_ai2] at hS63
          rw [bst_bst hn12]
          replace hSS := hSS.tr hS63
          clear hBB
          have hBB := hB63
          refine r_aload_n (q := 67) (z := 0) C 0 rfl (by decide +kernel) rfl rfl ?_
          refine r_iload_n (q := 68) (z := 2) C 2 rfl (by decide +kernel) rfl rfl ?_
          refine r_iconst (q := 69) (z := 1) (v := 1) C rfl (by decide +kernel) (by decide) ?_
          refine r_isub (q := 70) C rfl (by decide +kernel) ?_
          refine r_iload_n (q := 71) (z := 3) C 3 rfl (by decide +kernel) rfl rfl ?_
          refine cV2V (q := 74) C R rfl (by decide +kernel) lk_X0_60 (c_X0_reach (bar := bar) (g := 12 * g) (by assumption) (by rw [bst_fr, bst_ai1 hn12, bst_ai2]; exact hBB) bst_fi3 (by rw [bst_fr, bst_ai hn01 hn02]; exact hc) (fun d hd hb => hRc.step hcc hd.2.2 (by have := (nb_left hcc).mp hd; unfold adj; omega) hb)) (by decide) (by decide) (by decide) rfl (by first | exact Nat.le_of_ble_eq_true rfl | (simp only [List.map_cons, List.map_nil, List.sum_cons, List.sum_nil, rv_cat]; exact Nat.le_of_ble_eq_true rfl)) rfl (by assumption) ?_
          rintro _ ⟨f71, q71, k71, rfl, hB71, hS71, hN71⟩
          rw [bst_fr, bst_ai1 hn12, bst_ai2] at hS71
          rw [bst_bst hn12]
          replace hSS := hSS.tr hS71
          clear hBB
          have hBB := hB71
          refine r_aload_n (q := 75) (z := 0) C 0 rfl (by decide +kernel) rfl rfl ?_
          refine r_iload_n (q := 76) (z := 2) C 2 rfl (by decide +kernel) rfl rfl ?_
          refine r_iconst (q := 77) (z := 1) (v := 1) C rfl (by decide +kernel) (by decide) ?_
          refine r_iadd (q := 78) C rfl (by decide +kernel) ?_
          refine r_iload_n (q := 79) (z := 3) C 3 rfl (by decide +kernel) rfl rfl ?_
          refine cV2V (q := 82) C R rfl (by decide +kernel) lk_X0_60 (c_X0_reach (bar := bar) (g := 12 * g) (by assumption) (by rw [bst_fr, bst_ai1 hn12, bst_ai2]; exact hBB) bst_fi3 (by rw [bst_fr, bst_ai hn01 hn02]; exact hc) (fun d hd hb => hRc.step hcc hd.2.2 (by have := (nb_right hcc).mp hd; unfold adj; omega) hb)) (by decide) (by decide) (by decide) rfl (by first | exact Nat.le_of_ble_eq_true rfl | (simp only [List.map_cons, List.map_nil, List.sum_cons, List.sum_nil, rv_cat]; exact Nat.le_of_ble_eq_true rfl)) rfl (by assumption) ?_
          rintro _ ⟨f79, q79, k79, rfl, hB79, hS79, hN79⟩
          rw [bst_fr, bst_ai1 hn12, bst_ai2] at hS79
          rw [bst_bst hn12]
          replace hSS := hSS.tr hS79
          clear hBB
          have hBB := hB79
          refine r_aload_n (q := 83) (z := 0) C 0 rfl (by decide +kernel) rfl rfl ?_
          refine r_iload_n (q := 84) (z := 2) C 2 rfl (by decide +kernel) rfl rfl ?_
          refine r_iload_n (q := 85) (z := 3) C 3 rfl (by decide +kernel) rfl rfl ?_
          refine r_iconst (q := 86) (z := 1) (v := 1) C rfl (by decide +kernel) (by decide) ?_
          refine r_iadd (q := 87) C rfl (by decide +kernel) ?_
          refine cV2V (q := 90) C R rfl (by decide +kernel) lk_X0_60 (c_X0_reach (bar := bar) (g := 12 * g) (by assumption) (by rw [bst_fr, bst_ai1 hn12, bst_ai2]; exact hBB) bst_fi3 (by rw [bst_fr, bst_ai hn01 hn02]; exact hc) (fun d hd hb => hRc.step hcc hd.2.2 (by have := (nb_down hcc).mp hd; unfold adj; omega) hb)) (by decide) (by decide) (by decide) rfl (by first | exact Nat.le_of_ble_eq_true rfl | (simp only [List.map_cons, List.map_nil, List.sum_cons, List.sum_nil, rv_cat]; exact Nat.le_of_ble_eq_true rfl)) rfl (by assumption) ?_
          rintro _ ⟨f87, q87, k87, rfl, hB87, hS87, hN87⟩
          rw [bst_fr, bst_ai1 hn12, bst_ai2] at hS87
          rw [bst_bst hn12]
          replace hSS := hSS.tr hS87
          clear hBB
          have hBB := hB87
          refine r_iinc (q := 93) (z := 1) (v := 1) C 1 rfl (by decide +kernel) rfl (by decide) (by decide) (by first | rfl | exact okst_rv rfl) ?_
          dsimp only [List.set]
          rw [nI_1]
          have hP2 : ∀ j, j < i + 1 → ∀ c, c < 120 → q87 j = nI c → ∀ b, b < 120 → adj c b → bar b = false → f87 b = 1 := by
            intro j hj c hc1 hq b hb hab hf
            rw [hSS.2.1 j (by omega)] at hq
            by_cases e : j = i
            · subst e
              have : c = c0 := (nI_eq (by omega) (by omega)).mp (hq.symm.trans hqc)
              subst this
              rcases hab with e1 | e1 | e1 | e1
              · exact hS87.2.2 b hb (hS79.2.2 b hb (hN71 b ((nb_left hcc).mpr e1) hf))
              · exact hS87.2.2 b hb (hN79 b ((nb_right hcc).mpr e1) hf)
              · exact hS87.2.2 b hb (hS79.2.2 b hb (hS71.2.2 b hb (hN63 b ((nb_up hcc).mpr e1) hf)))
              · exact hN87 b ((nb_down hcc).mpr ⟨e1, hb⟩) hf
            · exact hSS.2.2 b hb (hP j (by omega) c hc1 hq b hb hab hf)
          refine r_goto (off := -69) (tgt := 24) C (by decide +kernel) (by decide) ?_
          exact wX.sub (lsub_s (lsub_s (lsub_n (lsub_n (lsub_nil))))) (ih24 (i + 1) f87 q87 k87 (by omega) (by have := hSS.1; omega) hB87 hP2 (fun e => hSS.2.2 _ (by omega) (hG e)))
  exact wX.sub (lsub_s (lsub_s (lsub_n (lsub_n (lsub_nil))))) (L24 121 0 f19 q19 k19 (by omega) (Nat.zero_le _) hB19 (fun j hj => absurd hj (Nat.not_lt_zero _)) (fun e => hN19 _ ((cAt_gate hg10).mpr rfl) e))
end
section
/-! ===== the state of green and rides; a place is below 240, 240 is none ===== -/
def SG : Type := (Nat) × (Nat → Nat) × (Nat → Nat) × (Nat → Nat) × (Nat → Nat) × (Nat → Nat) × (Nat → Nat) × (Nat → Nat) × (Nat → Nat) × (Nat → Nat) × (Nat → Bool) × (Nat → Bool) × (Nat) × (Nat)
def SG.n (σ : SG) : Nat := Prod.fst σ
def SG.wd (σ : SG) : Nat → Nat := Prod.fst (Prod.snd σ)
def SG.hg (σ : SG) : Nat → Nat := Prod.fst (Prod.snd (Prod.snd σ))
def SG.pw (σ : SG) : Nat → Nat := Prod.fst (Prod.snd (Prod.snd (Prod.snd σ)))
def SG.ns (σ : SG) : Nat → Nat := Prod.fst (Prod.snd (Prod.snd (Prod.snd (Prod.snd σ))))
def SG.rk (σ : SG) : Nat → Nat := Prod.fst (Prod.snd (Prod.snd (Prod.snd (Prod.snd (Prod.snd σ)))))
def SG.li (σ : SG) : Nat → Nat := Prod.fst (Prod.snd (Prod.snd (Prod.snd (Prod.snd (Prod.snd (Prod.snd σ))))))
def SG.rt (σ : SG) : Nat → Nat := Prod.fst (Prod.snd (Prod.snd (Prod.snd (Prod.snd (Prod.snd (Prod.snd (Prod.snd σ)))))))
def SG.hd (σ : SG) : Nat → Nat := Prod.fst (Prod.snd (Prod.snd (Prod.snd (Prod.snd (Prod.snd (Prod.snd (Prod.snd (Prod.snd σ))))))))
def SG.ms (σ : SG) : Nat → Nat := Prod.fst (Prod.snd (Prod.snd (Prod.snd (Prod.snd (Prod.snd (Prod.snd (Prod.snd (Prod.snd (Prod.snd σ)))))))))
def SG.sk (σ : SG) : Nat → Bool := Prod.fst (Prod.snd (Prod.snd (Prod.snd (Prod.snd (Prod.snd (Prod.snd (Prod.snd (Prod.snd (Prod.snd (Prod.snd σ))))))))))
def SG.cl (σ : SG) : Nat → Bool := Prod.fst (Prod.snd (Prod.snd (Prod.snd (Prod.snd (Prod.snd (Prod.snd (Prod.snd (Prod.snd (Prod.snd (Prod.snd (Prod.snd σ)))))))))))
def SG.gr (σ : SG) : Nat := Prod.fst (Prod.snd (Prod.snd (Prod.snd (Prod.snd (Prod.snd (Prod.snd (Prod.snd (Prod.snd (Prod.snd (Prod.snd (Prod.snd (Prod.snd σ))))))))))))
def SG.yr (σ : SG) : Nat := Prod.snd (Prod.snd (Prod.snd (Prod.snd (Prod.snd (Prod.snd (Prod.snd (Prod.snd (Prod.snd (Prod.snd (Prod.snd (Prod.snd (Prod.snd σ))))))))))))
def SG.of (n : Nat) (wd : Nat → Nat) (hg : Nat → Nat) (pw : Nat → Nat) (ns : Nat → Nat) (rk : Nat → Nat) (li : Nat → Nat) (rt : Nat → Nat) (hd : Nat → Nat) (ms : Nat → Nat) (sk : Nat → Bool) (cl : Nat → Bool) (gr : Nat) (yr : Nat) : SG := (n, wd, hg, pw, ns, rk, li, rt, hd, ms, sk, cl, gr, yr)
def SG.n_ (σ : SG) (v : Nat) : SG := SG.of v σ.wd σ.hg σ.pw σ.ns σ.rk σ.li σ.rt σ.hd σ.ms σ.sk σ.cl σ.gr σ.yr
def SG.wd_ (σ : SG) (v : Nat → Nat) : SG := SG.of σ.n v σ.hg σ.pw σ.ns σ.rk σ.li σ.rt σ.hd σ.ms σ.sk σ.cl σ.gr σ.yr
def SG.hg_ (σ : SG) (v : Nat → Nat) : SG := SG.of σ.n σ.wd v σ.pw σ.ns σ.rk σ.li σ.rt σ.hd σ.ms σ.sk σ.cl σ.gr σ.yr
def SG.pw_ (σ : SG) (v : Nat → Nat) : SG := SG.of σ.n σ.wd σ.hg v σ.ns σ.rk σ.li σ.rt σ.hd σ.ms σ.sk σ.cl σ.gr σ.yr
def SG.ns_ (σ : SG) (v : Nat → Nat) : SG := SG.of σ.n σ.wd σ.hg σ.pw v σ.rk σ.li σ.rt σ.hd σ.ms σ.sk σ.cl σ.gr σ.yr
def SG.rk_ (σ : SG) (v : Nat → Nat) : SG := SG.of σ.n σ.wd σ.hg σ.pw σ.ns v σ.li σ.rt σ.hd σ.ms σ.sk σ.cl σ.gr σ.yr
def SG.li_ (σ : SG) (v : Nat → Nat) : SG := SG.of σ.n σ.wd σ.hg σ.pw σ.ns σ.rk v σ.rt σ.hd σ.ms σ.sk σ.cl σ.gr σ.yr
def SG.rt_ (σ : SG) (v : Nat → Nat) : SG := SG.of σ.n σ.wd σ.hg σ.pw σ.ns σ.rk σ.li v σ.hd σ.ms σ.sk σ.cl σ.gr σ.yr
def SG.hd_ (σ : SG) (v : Nat → Nat) : SG := SG.of σ.n σ.wd σ.hg σ.pw σ.ns σ.rk σ.li σ.rt v σ.ms σ.sk σ.cl σ.gr σ.yr
def SG.ms_ (σ : SG) (v : Nat → Nat) : SG := SG.of σ.n σ.wd σ.hg σ.pw σ.ns σ.rk σ.li σ.rt σ.hd v σ.sk σ.cl σ.gr σ.yr
def SG.sk_ (σ : SG) (v : Nat → Bool) : SG := SG.of σ.n σ.wd σ.hg σ.pw σ.ns σ.rk σ.li σ.rt σ.hd σ.ms v σ.cl σ.gr σ.yr
def SG.cl_ (σ : SG) (v : Nat → Bool) : SG := SG.of σ.n σ.wd σ.hg σ.pw σ.ns σ.rk σ.li σ.rt σ.hd σ.ms σ.sk v σ.gr σ.yr
def SG.gr_ (σ : SG) (v : Nat) : SG := SG.of σ.n σ.wd σ.hg σ.pw σ.ns σ.rk σ.li σ.rt σ.hd σ.ms σ.sk σ.cl v σ.yr
def SG.yr_ (σ : SG) (v : Nat) : SG := SG.of σ.n σ.wd σ.hg σ.pw σ.ns σ.rk σ.li σ.rt σ.hd σ.ms σ.sk σ.cl σ.gr v
/-- a place as an int -/
def pl (x : Nat) : Int32 := if x < 240 then nI x else -1
theorem pl_in {x : Nat} (h : x < 240) : pl x = nI x := if_pos h
theorem pl_out {x : Nat} (h : ¬ x < 240) : pl x = -1 := if_neg h
theorem pl_neg {x : Nat} : pl x < 0 ↔ ¬ x < 240 := by
  unfold pl; split
  · rename_i h; exact ⟨fun e => absurd e (nI_pos (by omega)), fun e => absurd h e⟩
  · rename_i h; exact ⟨fun _ => h, fun _ => by decide⟩
theorem pl_nn {x : Nat} : ¬ pl x < 0 ↔ x < 240 := by rw [pl_neg, Classical.not_not]
theorem pl_le {x : Nat} : 0 ≤ pl x ↔ x < 240 := by rw [← Int32.not_lt]; exact pl_nn
def wAt (w z p : Nat) : Nat := if p % 2 = 1 then z else w
def px (p : Nat) : Nat := p / 2 % 12
def py (p : Nat) : Nat := p / 2 / 12
theorem px_lt {p : Nat} : px p < 12 := by unfold px; omega
theorem py_lt {p : Nat} (h : p < 240) : py p < 10 := by unfold py; omega
def SG.wA (σ : SG) (r p : Nat) : Nat := wAt (σ.wd r) (σ.hg r) p
def SG.hA (σ : SG) (r p : Nat) : Nat := wAt (σ.hg r) (σ.wd r) p
/-- r at the place p covers the cell c -/
def SG.cA (σ : SG) (r p c : Nat) : Bool := inn (px p) (py p) (σ.wA r p) (σ.hA r p) c
def SG.cv (σ : SG) (r c : Nat) : Bool := decide (σ.li r < 240) && σ.cA r (σ.li r) c
def anyb (p : Nat → Bool) : Nat → Bool
  | 0 => false
  | k + 1 => anyb p k || p k
theorem anyb_iff {p : Nat → Bool} : ∀ {k : Nat}, anyb p k = true ↔ ∃ r, r < k ∧ p r = true
  | 0 => by simp [anyb]
  | k + 1 => by
    simp only [anyb, Bool.or_eq_true, anyb_iff]
    constructor
    · rintro (⟨r, h1, h2⟩ | h)
      · exact ⟨r, by omega, h2⟩
      · exact ⟨k, by omega, h⟩
    · rintro ⟨r, h1, h2⟩
      by_cases e : r = k
      · exact Or.inr (e ▸ h2)
      · exact Or.inl ⟨r, by omega, h2⟩
theorem anyb_f {p : Nat → Bool} {k : Nat} : anyb p k = false ↔ ∀ r, r < k → p r = false := by
  rw [← Bool.not_eq_true, anyb_iff]
  constructor
  · intro h r hr
    cases e : p r with
    | false => rfl
    | true => exact absurd ⟨r, hr, e⟩ h
  · rintro h ⟨r, h1, h2⟩
    rw [h r h1] at h2; cases h2
def SG.fre (σ : SG) (c : Nat) : Bool := !σ.cl c && !anyb (fun r => σ.cv r c) σ.n
/-- the last of the first k that covers c -/
def covN (σ : SG) (c : Nat) : Nat → Int32
  | 0 => -1
  | k + 1 => if σ.cv k c then nI k else covN σ c k
theorem covN_neg {σ : SG} {c : Nat} : ∀ {k : Nat}, k ≤ 10 → (covN σ c k < 0 ↔ anyb (fun r => σ.cv r c) k = false)
  | 0, _ => by simp only [covN, anyb]; decide
  | k + 1, hk => by
    simp only [covN, anyb]
    cases e : σ.cv k c with
    | true => simp; exact nI_pos' (by omega)
    | false => simp; exact covN_neg (by omega)
def SG.dA (σ : SG) (r p : Nat) : Nat := 12 * (py p + σ.hA r p) + px p + (σ.wA r p - 1) / 2
def SG.dr (σ : SG) (r : Nat) : Nat := σ.dA r (σ.li r)
/-- r at the place p is on the green -/
def SG.onG (σ : SG) (r p : Nat) : Prop := px p + σ.wA r p ≤ 12 ∧ py p + σ.hA r p < 10
/-- the state is well formed -/
def WF (σ : SG) : Prop := σ.n ≤ 10 ∧ σ.gr < 10 ∧ (∀ r, r < σ.n → 1 ≤ σ.wd r ∧ σ.wd r ≤ 4 ∧ 1 ≤ σ.hg r ∧ σ.hg r ≤ 4 ∧ σ.pw r ≤ 100 ∧ σ.ns r ≤ 9 ∧ σ.rk r ≤ 99) ∧ (∀ r, r < 10 → σ.li r ≤ 240 ∧ σ.rt r ≤ 240 ∧ (σ.n ≤ r → σ.li r = 240 ∧ σ.rt r = 240)) ∧ (∀ r, r < σ.n → σ.li r < 240 → σ.onG r (σ.li r)) ∧ (∀ r, r < σ.n → σ.rt r < 240 → σ.onG r (σ.rt r))
theorem WF.wA {σ : SG} (h : WF σ) {r : Nat} (hr : r < σ.n) (p : Nat) : 1 ≤ σ.wA r p ∧ σ.wA r p ≤ 4 := by
  have := h.2.2.1 r hr
  unfold SG.wA wAt; split <;> omega
theorem WF.hA {σ : SG} (h : WF σ) {r : Nat} (hr : r < σ.n) (p : Nat) : 1 ≤ σ.hA r p ∧ σ.hA r p ≤ 4 := by
  have := h.2.2.1 r hr
  unfold SG.hA wAt; split <;> omega
theorem WF.n10 {σ : SG} (h : WF σ) : σ.n ≤ 10 := h.1
theorem WF.gr10 {σ : SG} (h : WF σ) : σ.gr < 10 := h.2.1
theorem SG.onG.door {σ : SG} {r p : Nat} (hw : WF σ) (hr : r < σ.n) (h : σ.onG r p) : σ.dA r p < 120 := by
  have := hw.wA hr p
  unfold SG.onG at h
  unfold SG.dA
  omega
theorem WF.dr {σ : SG} (h : WF σ) {r : Nat} (hr : r < σ.n) (hl : σ.li r < 240) : σ.dr r < 120 := SG.onG.door h hr (h.2.2.2.2.1 r hr hl)
/-! the model's layout -/
def mK : List (Nat × Nat × Nat) := [(449, 9, 600), (452, 9, 602), (453, 9, 602), (454, 10, 602), (457, 10, 10), (458, 9, 2), (459, 11, 32), (460, 9, 32), (461, 9, 1320), (462, 9, 1320), (467, 9, 7), (468, 9, 7), (469, 9, 7), (470, 9, 6), (471, 9, 660), (473, 9, 10), (474, 9, 10), (475, 9, 10), (476, 9, 10), (477, 9, 10), (478, 9, 10), (479, 9, 10), (480, 9, 10), (481, 9, 10), (482, 11, 10), (484, 11, 120), (486, 11, 120), (487, 11, 120), (488, 11, 10), (489, 9, 1024), (490, 9, 1024), (491, 9, 120), (492, 9, 3), (494, 9, 3), (495, 11, 10), (496, 9, 3), (497, 9, 3)]
def LM (kd : Nat → Nat × Nat) (gl : Nat → Nat) (fr : Nat → Nat → Nat) (m : Nat) : Prop := kd m = (0, 7) ∧ ∀ q ∈ mK, kd (fr q.1 m) = (q.2.1, q.2.2) ∧ gl (fr q.1 m) = q.1
theorem LM.k449 {kd : Nat → Nat × Nat} {gl : Nat → Nat} {fr : Nat → Nat → Nat} {m : Nat} (h : LM kd gl fr m) : kd (fr 449 m) = (9, 600) := (h.2 (449, 9, 600) (by decide)).1
theorem LM.g449 {kd : Nat → Nat × Nat} {gl : Nat → Nat} {fr : Nat → Nat → Nat} {m : Nat} (h : LM kd gl fr m) : gl (fr 449 m) = 449 := (h.2 (449, 9, 600) (by decide)).2
theorem LM.k452 {kd : Nat → Nat × Nat} {gl : Nat → Nat} {fr : Nat → Nat → Nat} {m : Nat} (h : LM kd gl fr m) : kd (fr 452 m) = (9, 602) := (h.2 (452, 9, 602) (by decide)).1
theorem LM.g452 {kd : Nat → Nat × Nat} {gl : Nat → Nat} {fr : Nat → Nat → Nat} {m : Nat} (h : LM kd gl fr m) : gl (fr 452 m) = 452 := (h.2 (452, 9, 602) (by decide)).2
theorem LM.k453 {kd : Nat → Nat × Nat} {gl : Nat → Nat} {fr : Nat → Nat → Nat} {m : Nat} (h : LM kd gl fr m) : kd (fr 453 m) = (9, 602) := (h.2 (453, 9, 602) (by decide)).1
theorem LM.g453 {kd : Nat → Nat × Nat} {gl : Nat → Nat} {fr : Nat → Nat → Nat} {m : Nat} (h : LM kd gl fr m) : gl (fr 453 m) = 453 := (h.2 (453, 9, 602) (by decide)).2
theorem LM.k454 {kd : Nat → Nat × Nat} {gl : Nat → Nat} {fr : Nat → Nat → Nat} {m : Nat} (h : LM kd gl fr m) : kd (fr 454 m) = (10, 602) := (h.2 (454, 10, 602) (by decide)).1
theorem LM.g454 {kd : Nat → Nat × Nat} {gl : Nat → Nat} {fr : Nat → Nat → Nat} {m : Nat} (h : LM kd gl fr m) : gl (fr 454 m) = 454 := (h.2 (454, 10, 602) (by decide)).2
theorem LM.k457 {kd : Nat → Nat × Nat} {gl : Nat → Nat} {fr : Nat → Nat → Nat} {m : Nat} (h : LM kd gl fr m) : kd (fr 457 m) = (10, 10) := (h.2 (457, 10, 10) (by decide)).1
theorem LM.g457 {kd : Nat → Nat × Nat} {gl : Nat → Nat} {fr : Nat → Nat → Nat} {m : Nat} (h : LM kd gl fr m) : gl (fr 457 m) = 457 := (h.2 (457, 10, 10) (by decide)).2
theorem LM.k458 {kd : Nat → Nat × Nat} {gl : Nat → Nat} {fr : Nat → Nat → Nat} {m : Nat} (h : LM kd gl fr m) : kd (fr 458 m) = (9, 2) := (h.2 (458, 9, 2) (by decide)).1
theorem LM.g458 {kd : Nat → Nat × Nat} {gl : Nat → Nat} {fr : Nat → Nat → Nat} {m : Nat} (h : LM kd gl fr m) : gl (fr 458 m) = 458 := (h.2 (458, 9, 2) (by decide)).2
theorem LM.k459 {kd : Nat → Nat × Nat} {gl : Nat → Nat} {fr : Nat → Nat → Nat} {m : Nat} (h : LM kd gl fr m) : kd (fr 459 m) = (11, 32) := (h.2 (459, 11, 32) (by decide)).1
theorem LM.g459 {kd : Nat → Nat × Nat} {gl : Nat → Nat} {fr : Nat → Nat → Nat} {m : Nat} (h : LM kd gl fr m) : gl (fr 459 m) = 459 := (h.2 (459, 11, 32) (by decide)).2
theorem LM.k460 {kd : Nat → Nat × Nat} {gl : Nat → Nat} {fr : Nat → Nat → Nat} {m : Nat} (h : LM kd gl fr m) : kd (fr 460 m) = (9, 32) := (h.2 (460, 9, 32) (by decide)).1
theorem LM.g460 {kd : Nat → Nat × Nat} {gl : Nat → Nat} {fr : Nat → Nat → Nat} {m : Nat} (h : LM kd gl fr m) : gl (fr 460 m) = 460 := (h.2 (460, 9, 32) (by decide)).2
theorem LM.k461 {kd : Nat → Nat × Nat} {gl : Nat → Nat} {fr : Nat → Nat → Nat} {m : Nat} (h : LM kd gl fr m) : kd (fr 461 m) = (9, 1320) := (h.2 (461, 9, 1320) (by decide)).1
theorem LM.g461 {kd : Nat → Nat × Nat} {gl : Nat → Nat} {fr : Nat → Nat → Nat} {m : Nat} (h : LM kd gl fr m) : gl (fr 461 m) = 461 := (h.2 (461, 9, 1320) (by decide)).2
theorem LM.k462 {kd : Nat → Nat × Nat} {gl : Nat → Nat} {fr : Nat → Nat → Nat} {m : Nat} (h : LM kd gl fr m) : kd (fr 462 m) = (9, 1320) := (h.2 (462, 9, 1320) (by decide)).1
theorem LM.g462 {kd : Nat → Nat × Nat} {gl : Nat → Nat} {fr : Nat → Nat → Nat} {m : Nat} (h : LM kd gl fr m) : gl (fr 462 m) = 462 := (h.2 (462, 9, 1320) (by decide)).2
theorem LM.k467 {kd : Nat → Nat × Nat} {gl : Nat → Nat} {fr : Nat → Nat → Nat} {m : Nat} (h : LM kd gl fr m) : kd (fr 467 m) = (9, 7) := (h.2 (467, 9, 7) (by decide)).1
theorem LM.g467 {kd : Nat → Nat × Nat} {gl : Nat → Nat} {fr : Nat → Nat → Nat} {m : Nat} (h : LM kd gl fr m) : gl (fr 467 m) = 467 := (h.2 (467, 9, 7) (by decide)).2
theorem LM.k468 {kd : Nat → Nat × Nat} {gl : Nat → Nat} {fr : Nat → Nat → Nat} {m : Nat} (h : LM kd gl fr m) : kd (fr 468 m) = (9, 7) := (h.2 (468, 9, 7) (by decide)).1
theorem LM.g468 {kd : Nat → Nat × Nat} {gl : Nat → Nat} {fr : Nat → Nat → Nat} {m : Nat} (h : LM kd gl fr m) : gl (fr 468 m) = 468 := (h.2 (468, 9, 7) (by decide)).2
theorem LM.k469 {kd : Nat → Nat × Nat} {gl : Nat → Nat} {fr : Nat → Nat → Nat} {m : Nat} (h : LM kd gl fr m) : kd (fr 469 m) = (9, 7) := (h.2 (469, 9, 7) (by decide)).1
theorem LM.g469 {kd : Nat → Nat × Nat} {gl : Nat → Nat} {fr : Nat → Nat → Nat} {m : Nat} (h : LM kd gl fr m) : gl (fr 469 m) = 469 := (h.2 (469, 9, 7) (by decide)).2
theorem LM.k470 {kd : Nat → Nat × Nat} {gl : Nat → Nat} {fr : Nat → Nat → Nat} {m : Nat} (h : LM kd gl fr m) : kd (fr 470 m) = (9, 6) := (h.2 (470, 9, 6) (by decide)).1
theorem LM.g470 {kd : Nat → Nat × Nat} {gl : Nat → Nat} {fr : Nat → Nat → Nat} {m : Nat} (h : LM kd gl fr m) : gl (fr 470 m) = 470 := (h.2 (470, 9, 6) (by decide)).2
theorem LM.k471 {kd : Nat → Nat × Nat} {gl : Nat → Nat} {fr : Nat → Nat → Nat} {m : Nat} (h : LM kd gl fr m) : kd (fr 471 m) = (9, 660) := (h.2 (471, 9, 660) (by decide)).1
theorem LM.g471 {kd : Nat → Nat × Nat} {gl : Nat → Nat} {fr : Nat → Nat → Nat} {m : Nat} (h : LM kd gl fr m) : gl (fr 471 m) = 471 := (h.2 (471, 9, 660) (by decide)).2
theorem LM.k473 {kd : Nat → Nat × Nat} {gl : Nat → Nat} {fr : Nat → Nat → Nat} {m : Nat} (h : LM kd gl fr m) : kd (fr 473 m) = (9, 10) := (h.2 (473, 9, 10) (by decide)).1
theorem LM.g473 {kd : Nat → Nat × Nat} {gl : Nat → Nat} {fr : Nat → Nat → Nat} {m : Nat} (h : LM kd gl fr m) : gl (fr 473 m) = 473 := (h.2 (473, 9, 10) (by decide)).2
theorem LM.k474 {kd : Nat → Nat × Nat} {gl : Nat → Nat} {fr : Nat → Nat → Nat} {m : Nat} (h : LM kd gl fr m) : kd (fr 474 m) = (9, 10) := (h.2 (474, 9, 10) (by decide)).1
theorem LM.g474 {kd : Nat → Nat × Nat} {gl : Nat → Nat} {fr : Nat → Nat → Nat} {m : Nat} (h : LM kd gl fr m) : gl (fr 474 m) = 474 := (h.2 (474, 9, 10) (by decide)).2
theorem LM.k475 {kd : Nat → Nat × Nat} {gl : Nat → Nat} {fr : Nat → Nat → Nat} {m : Nat} (h : LM kd gl fr m) : kd (fr 475 m) = (9, 10) := (h.2 (475, 9, 10) (by decide)).1
theorem LM.g475 {kd : Nat → Nat × Nat} {gl : Nat → Nat} {fr : Nat → Nat → Nat} {m : Nat} (h : LM kd gl fr m) : gl (fr 475 m) = 475 := (h.2 (475, 9, 10) (by decide)).2
theorem LM.k476 {kd : Nat → Nat × Nat} {gl : Nat → Nat} {fr : Nat → Nat → Nat} {m : Nat} (h : LM kd gl fr m) : kd (fr 476 m) = (9, 10) := (h.2 (476, 9, 10) (by decide)).1
theorem LM.g476 {kd : Nat → Nat × Nat} {gl : Nat → Nat} {fr : Nat → Nat → Nat} {m : Nat} (h : LM kd gl fr m) : gl (fr 476 m) = 476 := (h.2 (476, 9, 10) (by decide)).2
theorem LM.k477 {kd : Nat → Nat × Nat} {gl : Nat → Nat} {fr : Nat → Nat → Nat} {m : Nat} (h : LM kd gl fr m) : kd (fr 477 m) = (9, 10) := (h.2 (477, 9, 10) (by decide)).1
theorem LM.g477 {kd : Nat → Nat × Nat} {gl : Nat → Nat} {fr : Nat → Nat → Nat} {m : Nat} (h : LM kd gl fr m) : gl (fr 477 m) = 477 := (h.2 (477, 9, 10) (by decide)).2
theorem LM.k478 {kd : Nat → Nat × Nat} {gl : Nat → Nat} {fr : Nat → Nat → Nat} {m : Nat} (h : LM kd gl fr m) : kd (fr 478 m) = (9, 10) := (h.2 (478, 9, 10) (by decide)).1
theorem LM.g478 {kd : Nat → Nat × Nat} {gl : Nat → Nat} {fr : Nat → Nat → Nat} {m : Nat} (h : LM kd gl fr m) : gl (fr 478 m) = 478 := (h.2 (478, 9, 10) (by decide)).2
theorem LM.k479 {kd : Nat → Nat × Nat} {gl : Nat → Nat} {fr : Nat → Nat → Nat} {m : Nat} (h : LM kd gl fr m) : kd (fr 479 m) = (9, 10) := (h.2 (479, 9, 10) (by decide)).1
theorem LM.g479 {kd : Nat → Nat × Nat} {gl : Nat → Nat} {fr : Nat → Nat → Nat} {m : Nat} (h : LM kd gl fr m) : gl (fr 479 m) = 479 := (h.2 (479, 9, 10) (by decide)).2
theorem LM.k480 {kd : Nat → Nat × Nat} {gl : Nat → Nat} {fr : Nat → Nat → Nat} {m : Nat} (h : LM kd gl fr m) : kd (fr 480 m) = (9, 10) := (h.2 (480, 9, 10) (by decide)).1
theorem LM.g480 {kd : Nat → Nat × Nat} {gl : Nat → Nat} {fr : Nat → Nat → Nat} {m : Nat} (h : LM kd gl fr m) : gl (fr 480 m) = 480 := (h.2 (480, 9, 10) (by decide)).2
theorem LM.k481 {kd : Nat → Nat × Nat} {gl : Nat → Nat} {fr : Nat → Nat → Nat} {m : Nat} (h : LM kd gl fr m) : kd (fr 481 m) = (9, 10) := (h.2 (481, 9, 10) (by decide)).1
theorem LM.g481 {kd : Nat → Nat × Nat} {gl : Nat → Nat} {fr : Nat → Nat → Nat} {m : Nat} (h : LM kd gl fr m) : gl (fr 481 m) = 481 := (h.2 (481, 9, 10) (by decide)).2
theorem LM.k482 {kd : Nat → Nat × Nat} {gl : Nat → Nat} {fr : Nat → Nat → Nat} {m : Nat} (h : LM kd gl fr m) : kd (fr 482 m) = (11, 10) := (h.2 (482, 11, 10) (by decide)).1
theorem LM.g482 {kd : Nat → Nat × Nat} {gl : Nat → Nat} {fr : Nat → Nat → Nat} {m : Nat} (h : LM kd gl fr m) : gl (fr 482 m) = 482 := (h.2 (482, 11, 10) (by decide)).2
theorem LM.k484 {kd : Nat → Nat × Nat} {gl : Nat → Nat} {fr : Nat → Nat → Nat} {m : Nat} (h : LM kd gl fr m) : kd (fr 484 m) = (11, 120) := (h.2 (484, 11, 120) (by decide)).1
theorem LM.g484 {kd : Nat → Nat × Nat} {gl : Nat → Nat} {fr : Nat → Nat → Nat} {m : Nat} (h : LM kd gl fr m) : gl (fr 484 m) = 484 := (h.2 (484, 11, 120) (by decide)).2
theorem LM.k486 {kd : Nat → Nat × Nat} {gl : Nat → Nat} {fr : Nat → Nat → Nat} {m : Nat} (h : LM kd gl fr m) : kd (fr 486 m) = (11, 120) := (h.2 (486, 11, 120) (by decide)).1
theorem LM.g486 {kd : Nat → Nat × Nat} {gl : Nat → Nat} {fr : Nat → Nat → Nat} {m : Nat} (h : LM kd gl fr m) : gl (fr 486 m) = 486 := (h.2 (486, 11, 120) (by decide)).2
theorem LM.k487 {kd : Nat → Nat × Nat} {gl : Nat → Nat} {fr : Nat → Nat → Nat} {m : Nat} (h : LM kd gl fr m) : kd (fr 487 m) = (11, 120) := (h.2 (487, 11, 120) (by decide)).1
theorem LM.g487 {kd : Nat → Nat × Nat} {gl : Nat → Nat} {fr : Nat → Nat → Nat} {m : Nat} (h : LM kd gl fr m) : gl (fr 487 m) = 487 := (h.2 (487, 11, 120) (by decide)).2
theorem LM.k488 {kd : Nat → Nat × Nat} {gl : Nat → Nat} {fr : Nat → Nat → Nat} {m : Nat} (h : LM kd gl fr m) : kd (fr 488 m) = (11, 10) := (h.2 (488, 11, 10) (by decide)).1
theorem LM.g488 {kd : Nat → Nat × Nat} {gl : Nat → Nat} {fr : Nat → Nat → Nat} {m : Nat} (h : LM kd gl fr m) : gl (fr 488 m) = 488 := (h.2 (488, 11, 10) (by decide)).2
theorem LM.k489 {kd : Nat → Nat × Nat} {gl : Nat → Nat} {fr : Nat → Nat → Nat} {m : Nat} (h : LM kd gl fr m) : kd (fr 489 m) = (9, 1024) := (h.2 (489, 9, 1024) (by decide)).1
theorem LM.g489 {kd : Nat → Nat × Nat} {gl : Nat → Nat} {fr : Nat → Nat → Nat} {m : Nat} (h : LM kd gl fr m) : gl (fr 489 m) = 489 := (h.2 (489, 9, 1024) (by decide)).2
theorem LM.k490 {kd : Nat → Nat × Nat} {gl : Nat → Nat} {fr : Nat → Nat → Nat} {m : Nat} (h : LM kd gl fr m) : kd (fr 490 m) = (9, 1024) := (h.2 (490, 9, 1024) (by decide)).1
theorem LM.g490 {kd : Nat → Nat × Nat} {gl : Nat → Nat} {fr : Nat → Nat → Nat} {m : Nat} (h : LM kd gl fr m) : gl (fr 490 m) = 490 := (h.2 (490, 9, 1024) (by decide)).2
theorem LM.k491 {kd : Nat → Nat × Nat} {gl : Nat → Nat} {fr : Nat → Nat → Nat} {m : Nat} (h : LM kd gl fr m) : kd (fr 491 m) = (9, 120) := (h.2 (491, 9, 120) (by decide)).1
theorem LM.g491 {kd : Nat → Nat × Nat} {gl : Nat → Nat} {fr : Nat → Nat → Nat} {m : Nat} (h : LM kd gl fr m) : gl (fr 491 m) = 491 := (h.2 (491, 9, 120) (by decide)).2
theorem LM.k492 {kd : Nat → Nat × Nat} {gl : Nat → Nat} {fr : Nat → Nat → Nat} {m : Nat} (h : LM kd gl fr m) : kd (fr 492 m) = (9, 3) := (h.2 (492, 9, 3) (by decide)).1
theorem LM.g492 {kd : Nat → Nat × Nat} {gl : Nat → Nat} {fr : Nat → Nat → Nat} {m : Nat} (h : LM kd gl fr m) : gl (fr 492 m) = 492 := (h.2 (492, 9, 3) (by decide)).2
theorem LM.k494 {kd : Nat → Nat × Nat} {gl : Nat → Nat} {fr : Nat → Nat → Nat} {m : Nat} (h : LM kd gl fr m) : kd (fr 494 m) = (9, 3) := (h.2 (494, 9, 3) (by decide)).1
theorem LM.g494 {kd : Nat → Nat × Nat} {gl : Nat → Nat} {fr : Nat → Nat → Nat} {m : Nat} (h : LM kd gl fr m) : gl (fr 494 m) = 494 := (h.2 (494, 9, 3) (by decide)).2
theorem LM.k495 {kd : Nat → Nat × Nat} {gl : Nat → Nat} {fr : Nat → Nat → Nat} {m : Nat} (h : LM kd gl fr m) : kd (fr 495 m) = (11, 10) := (h.2 (495, 11, 10) (by decide)).1
theorem LM.g495 {kd : Nat → Nat × Nat} {gl : Nat → Nat} {fr : Nat → Nat → Nat} {m : Nat} (h : LM kd gl fr m) : gl (fr 495 m) = 495 := (h.2 (495, 11, 10) (by decide)).2
theorem LM.k496 {kd : Nat → Nat × Nat} {gl : Nat → Nat} {fr : Nat → Nat → Nat} {m : Nat} (h : LM kd gl fr m) : kd (fr 496 m) = (9, 3) := (h.2 (496, 9, 3) (by decide)).1
theorem LM.g496 {kd : Nat → Nat × Nat} {gl : Nat → Nat} {fr : Nat → Nat → Nat} {m : Nat} (h : LM kd gl fr m) : gl (fr 496 m) = 496 := (h.2 (496, 9, 3) (by decide)).2
theorem LM.k497 {kd : Nat → Nat × Nat} {gl : Nat → Nat} {fr : Nat → Nat → Nat} {m : Nat} (h : LM kd gl fr m) : kd (fr 497 m) = (9, 3) := (h.2 (497, 9, 3) (by decide)).1
theorem LM.g497 {kd : Nat → Nat × Nat} {gl : Nat → Nat} {fr : Nat → Nat → Nat} {m : Nat} (h : LM kd gl fr m) : gl (fr 497 m) = 497 := (h.2 (497, 9, 3) (by decide)).2
/-- what the model holds of the state -/
def MR (σ : SG) (h : HP) (m : Nat) : Prop := h.fi 472 m = nI σ.n ∧ h.fi 485 m = nI σ.gr ∧ h.fi 483 m = nI σ.yr ∧ (∀ r, r < 10 → h.ai (h.fr 473 m) r = nI (σ.wd r)) ∧ (∀ r, r < 10 → h.ai (h.fr 474 m) r = nI (σ.hg r)) ∧ (∀ r, r < 10 → h.ai (h.fr 475 m) r = nI (σ.pw r)) ∧ (∀ r, r < 10 → h.ai (h.fr 476 m) r = nI (σ.ns r)) ∧ (∀ r, r < 10 → h.ai (h.fr 477 m) r = nI (σ.rk r)) ∧ (∀ r, r < 10 → h.ai (h.fr 478 m) r = pl (σ.li r)) ∧ (∀ r, r < 10 → h.ai (h.fr 479 m) r = pl (σ.rt r)) ∧ (∀ r, r < 10 → h.ai (h.fr 480 m) r = nI (σ.hd r)) ∧ (∀ r, r < 10 → h.ai (h.fr 481 m) r = nI (σ.ms r)) ∧ (∀ r, r < 10 → h.ai (h.fr 482 m) r = b2i (σ.sk r)) ∧ (∀ r, r < 120 → h.ai (h.fr 484 m) r = b2i (σ.cl r))
theorem MR.fn {σ : SG} {h : HP} {m : Nat} (M : MR σ h m) : h.fi 472 m = nI σ.n := M.1
theorem MR.fg {σ : SG} {h : HP} {m : Nat} (M : MR σ h m) : h.fi 485 m = nI σ.gr := M.2.1
theorem MR.fy {σ : SG} {h : HP} {m : Nat} (M : MR σ h m) : h.fi 483 m = nI σ.yr := M.2.2.1
theorem MR.awd {σ : SG} {h : HP} {m : Nat} (M : MR σ h m) {r : Nat} (hr : r < 10) : h.ai (h.fr 473 m) r = nI (σ.wd r) := M.2.2.2.1 r hr
theorem MR.ahg {σ : SG} {h : HP} {m : Nat} (M : MR σ h m) {r : Nat} (hr : r < 10) : h.ai (h.fr 474 m) r = nI (σ.hg r) := M.2.2.2.2.1 r hr
theorem MR.apw {σ : SG} {h : HP} {m : Nat} (M : MR σ h m) {r : Nat} (hr : r < 10) : h.ai (h.fr 475 m) r = nI (σ.pw r) := M.2.2.2.2.2.1 r hr
theorem MR.ans {σ : SG} {h : HP} {m : Nat} (M : MR σ h m) {r : Nat} (hr : r < 10) : h.ai (h.fr 476 m) r = nI (σ.ns r) := M.2.2.2.2.2.2.1 r hr
theorem MR.ark {σ : SG} {h : HP} {m : Nat} (M : MR σ h m) {r : Nat} (hr : r < 10) : h.ai (h.fr 477 m) r = nI (σ.rk r) := M.2.2.2.2.2.2.2.1 r hr
theorem MR.ali {σ : SG} {h : HP} {m : Nat} (M : MR σ h m) {r : Nat} (hr : r < 10) : h.ai (h.fr 478 m) r = pl (σ.li r) := M.2.2.2.2.2.2.2.2.1 r hr
theorem MR.art {σ : SG} {h : HP} {m : Nat} (M : MR σ h m) {r : Nat} (hr : r < 10) : h.ai (h.fr 479 m) r = pl (σ.rt r) := M.2.2.2.2.2.2.2.2.2.1 r hr
theorem MR.ahd {σ : SG} {h : HP} {m : Nat} (M : MR σ h m) {r : Nat} (hr : r < 10) : h.ai (h.fr 480 m) r = nI (σ.hd r) := M.2.2.2.2.2.2.2.2.2.2.1 r hr
theorem MR.ams {σ : SG} {h : HP} {m : Nat} (M : MR σ h m) {r : Nat} (hr : r < 10) : h.ai (h.fr 481 m) r = nI (σ.ms r) := M.2.2.2.2.2.2.2.2.2.2.2.1 r hr
theorem MR.ask {σ : SG} {h : HP} {m : Nat} (M : MR σ h m) {r : Nat} (hr : r < 10) : h.ai (h.fr 482 m) r = b2i (σ.sk r) := M.2.2.2.2.2.2.2.2.2.2.2.2.1 r hr
theorem MR.acl {σ : SG} {h : HP} {m : Nat} (M : MR σ h m) {r : Nat} (hr : r < 120) : h.ai (h.fr 484 m) r = b2i (σ.cl r) := M.2.2.2.2.2.2.2.2.2.2.2.2.2 r hr
def mP : List Nat := [473, 474, 475, 476, 477, 478, 479, 480, 481, 482, 484]
theorem MR.row {σ : SG} {h : HP} {m : Nat} (L : LM h.kd h.gl h.fr m) (M : MR σ h m) {b : Nat} {f : Nat → Int32} (hb : h.gl b ∉ mP) : MR σ (h.row b f) m := by
  obtain ⟨h1, h2, h3, a0, a1, a2, a3, a4, a5, a6, a7, a8, a9, a10⟩ := M
  refine ⟨h1, h2, h3, ?_, ?_, ?_, ?_, ?_, ?_, ?_, ?_, ?_, ?_, ?_⟩
  · intro r hr; show (h.row b f).ai (h.fr 473 m) r = _; rw [ai_row_ne (fun e => hb (by rw [← e, L.g473]; decide))]; exact a0 r hr
  · intro r hr; show (h.row b f).ai (h.fr 474 m) r = _; rw [ai_row_ne (fun e => hb (by rw [← e, L.g474]; decide))]; exact a1 r hr
  · intro r hr; show (h.row b f).ai (h.fr 475 m) r = _; rw [ai_row_ne (fun e => hb (by rw [← e, L.g475]; decide))]; exact a2 r hr
  · intro r hr; show (h.row b f).ai (h.fr 476 m) r = _; rw [ai_row_ne (fun e => hb (by rw [← e, L.g476]; decide))]; exact a3 r hr
  · intro r hr; show (h.row b f).ai (h.fr 477 m) r = _; rw [ai_row_ne (fun e => hb (by rw [← e, L.g477]; decide))]; exact a4 r hr
  · intro r hr; show (h.row b f).ai (h.fr 478 m) r = _; rw [ai_row_ne (fun e => hb (by rw [← e, L.g478]; decide))]; exact a5 r hr
  · intro r hr; show (h.row b f).ai (h.fr 479 m) r = _; rw [ai_row_ne (fun e => hb (by rw [← e, L.g479]; decide))]; exact a6 r hr
  · intro r hr; show (h.row b f).ai (h.fr 480 m) r = _; rw [ai_row_ne (fun e => hb (by rw [← e, L.g480]; decide))]; exact a7 r hr
  · intro r hr; show (h.row b f).ai (h.fr 481 m) r = _; rw [ai_row_ne (fun e => hb (by rw [← e, L.g481]; decide))]; exact a8 r hr
  · intro r hr; show (h.row b f).ai (h.fr 482 m) r = _; rw [ai_row_ne (fun e => hb (by rw [← e, L.g482]; decide))]; exact a9 r hr
  · intro r hr; show (h.row b f).ai (h.fr 484 m) r = _; rw [ai_row_ne (fun e => hb (by rw [← e, L.g484]; decide))]; exact a10 r hr
theorem MR.setI {σ : SG} {h : HP} {m : Nat} (M : MR σ h m) {g b : Nat} {v : Int32} (h1 : g ≠ 472) (h2 : g ≠ 485) (h3 : g ≠ 483) : MR σ (h.setI g b v) m := ⟨(fi_ne (Ne.symm h1)).trans M.1, (fi_ne (Ne.symm h2)).trans M.2.1, (fi_ne (Ne.symm h3)).trans M.2.2.1, M.2.2.2⟩

theorem c_X7_isRide {G : GT} {h : HP} {m : Nat} {σ : SG} {x : Int32} (hm : LM h.kd h.gl h.fr m) (M : MR σ h m) : Con G 1 0 0 yX7_isRide cX7_isRide 2 (some .boolean) [rv m, .int x] h (PI (fun r h' => b2i (decide (0 ≤ x ∧ x < nI σ.n)) = r ∧ h = h')) := by
  refine Con.of (lv := [some (rv m), some (.int x)]) (by decide) (by simp only [lvE_r, lvE_i, lvE_l, lvE_s, lvE_0]; rfl) (by simp only [lgl_r, lgl_i, lgl_l, lgl_s, lgl_0]; decide) (fun Γ C R => ?_)
  refine r_iload_n (q := 1) (z := 1) C 1 rfl (by decide +kernel) rfl rfl ?_
  refine r_if_lt (q := 4) (off := 15) (tgt := 16) C rfl (by decide +kernel) (by decide) (fun c1 => ?_) (fun c1 => ?_)
  · refine r_iconst (q := 17) (z := 0) (v := 0) C rfl (by decide +kernel) (by decide) ?_
    exact r_zret C (by decide +kernel) rfl (by first | decide | exact b2i_nar _) (by decide) (by decide) ⟨_, rfl, ⟨by clear C R; simp_all [b2i, ← Int32.not_lt], rfl⟩⟩
  · refine r_iload_n (q := 5) (z := 1) C 1 rfl (by decide +kernel) rfl rfl ?_
    refine r_aload_n (q := 6) (z := 0) C 0 rfl (by decide +kernel) rfl rfl ?_
    refine r_getI (q := 9) C 7 24 472 rfl (by decide +kernel) rfl (by decide) rfl rfl wf_X7_243 win7 hm.1 ?_
    rw [M.fn]
    refine r_icmp_ge (q := 12) (off := 7) (tgt := 16) C rfl (by decide +kernel) (by decide) (fun c9 => ?_) (fun c9 => ?_)
    · refine r_iconst (q := 17) (z := 0) (v := 0) C rfl (by decide +kernel) (by decide) ?_
      exact r_zret C (by decide +kernel) rfl (by first | decide | exact b2i_nar _) (by decide) (by decide) ⟨_, rfl, ⟨by clear C R; simp_all [b2i, ← Int32.not_lt], rfl⟩⟩
    · refine r_iconst (q := 13) (z := 1) (v := 1) C rfl (by decide +kernel) (by decide) ?_
      refine r_goto (off := 4) (tgt := 17) C (by decide +kernel) (by decide) ?_
      exact r_zret C (by decide +kernel) rfl (by first | decide | exact b2i_nar _) (by decide) (by decide) ⟨_, rfl, ⟨by clear C R; simp_all [b2i, ← Int32.not_lt], rfl⟩⟩
theorem c_X7_isCell {G : GT} {h : HP} {x y : Int32} : Con G 1 0 0 yX7_isCell cX7_isCell 2 (some .boolean) [.int x, .int y] h (PI (fun r h' => b2i (hasC x y) = r ∧ h = h')) := by
  refine Con.of (lv := [some (.int x), some (.int y)]) (by decide) (by simp only [lvE_r, lvE_i, lvE_l, lvE_s, lvE_0]; rfl) (by simp only [lgl_r, lgl_i, lgl_l, lgl_s, lgl_0]; decide) (fun Γ C R => ?_)
  refine r_iload_n (q := 1) (z := 0) C 0 rfl (by decide +kernel) rfl rfl ?_
  refine r_if_lt (q := 4) (off := 23) (tgt := 24) C rfl (by decide +kernel) (by decide) (fun c1 => ?_) (fun c1 => ?_)
  · refine r_iconst (q := 25) (z := 0) (v := 0) C rfl (by decide +kernel) (by decide) ?_
    exact r_zret C (by decide +kernel) rfl (by first | decide | exact b2i_nar _) (by decide) (by decide) ⟨_, rfl, ⟨by clear C R; simp_all [b2i, hasC, ← Int32.not_lt], rfl⟩⟩
  · refine r_iload_n (q := 5) (z := 0) C 0 rfl (by decide +kernel) rfl rfl ?_
    refine r_bipush (q := 7) (z := 12) (v := 12) C rfl (by decide +kernel) (by decide) ?_
    refine r_icmp_ge (q := 10) (off := 17) (tgt := 24) C rfl (by decide +kernel) (by decide) (fun c7 => ?_) (fun c7 => ?_)
    · refine r_iconst (q := 25) (z := 0) (v := 0) C rfl (by decide +kernel) (by decide) ?_
      exact r_zret C (by decide +kernel) rfl (by first | decide | exact b2i_nar _) (by decide) (by decide) ⟨_, rfl, ⟨by clear C R; simp_all [b2i, hasC, ← Int32.not_lt], rfl⟩⟩
    · refine r_iload_n (q := 11) (z := 1) C 1 rfl (by decide +kernel) rfl rfl ?_
      refine r_if_lt (q := 14) (off := 13) (tgt := 24) C rfl (by decide +kernel) (by decide) (fun c11 => ?_) (fun c11 => ?_)
      · refine r_iconst (q := 25) (z := 0) (v := 0) C rfl (by decide +kernel) (by decide) ?_
        exact r_zret C (by decide +kernel) rfl (by first | decide | exact b2i_nar _) (by decide) (by decide) ⟨_, rfl, ⟨by clear C R; simp_all [b2i, hasC, ← Int32.not_lt], rfl⟩⟩
      · refine r_iload_n (q := 15) (z := 1) C 1 rfl (by decide +kernel) rfl rfl ?_
        refine r_bipush (q := 17) (z := 10) (v := 10) C rfl (by decide +kernel) (by decide) ?_
        refine r_icmp_ge (q := 20) (off := 7) (tgt := 24) C rfl (by decide +kernel) (by decide) (fun c17 => ?_) (fun c17 => ?_)
        · refine r_iconst (q := 25) (z := 0) (v := 0) C rfl (by decide +kernel) (by decide) ?_
          exact r_zret C (by decide +kernel) rfl (by first | decide | exact b2i_nar _) (by decide) (by decide) ⟨_, rfl, ⟨by clear C R; simp_all [b2i, hasC, ← Int32.not_lt], rfl⟩⟩
        · refine r_iconst (q := 21) (z := 1) (v := 1) C rfl (by decide +kernel) (by decide) ?_
          refine r_goto (off := 4) (tgt := 25) C (by decide +kernel) (by decide) ?_
          exact r_zret C (by decide +kernel) rfl (by first | decide | exact b2i_nar _) (by decide) (by decide) ⟨_, rfl, ⟨by clear C R; simp_all [b2i, hasC, ← Int32.not_lt], rfl⟩⟩
theorem c_X7_placeX {G : GT} {h : HP} {p : Nat} (hp : p < 240) : Con G 1 0 0 yX7_placeX cX7_placeX 1 (some .int) [.int (nI p)] h (PI (fun r h' => nI (px p) = r ∧ h = h')) := by
  refine Con.of (lv := [some (.int (nI p))]) (by decide) (by simp only [lvE_r, lvE_i, lvE_l, lvE_s, lvE_0]; rfl) (by simp only [lgl_r, lgl_i, lgl_l, lgl_s, lgl_0]; decide) (fun Γ C R => ?_)
  refine r_iload_n (q := 1) (z := 0) C 0 rfl (by decide +kernel) rfl rfl ?_
  refine r_iconst (q := 2) (z := 2) (v := 2) C rfl (by decide +kernel) (by decide) ?_
  refine r_idiv (q := 3) C rfl (by decide +kernel) (by decide) ?_
  rw [show nI p / 2 = nI (p / 2) from pk_div (d := 2) (by omega) (by decide) (by decide)]
  refine r_bipush (q := 5) (z := 12) (v := 12) C rfl (by decide +kernel) (by decide) ?_
  refine r_irem (q := 6) C rfl (by decide +kernel) (by decide) ?_
  rw [rem12 (by omega)]
  exact r_iret C (by decide +kernel) rfl (by decide) (by decide) ⟨_, rfl, ⟨rfl, rfl⟩⟩
theorem c_X7_placeY {G : GT} {h : HP} {p : Nat} (hp : p < 240) : Con G 1 0 0 yX7_placeY cX7_placeY 1 (some .int) [.int (nI p)] h (PI (fun r h' => nI (py p) = r ∧ h = h')) := by
  refine Con.of (lv := [some (.int (nI p))]) (by decide) (by simp only [lvE_r, lvE_i, lvE_l, lvE_s, lvE_0]; rfl) (by simp only [lgl_r, lgl_i, lgl_l, lgl_s, lgl_0]; decide) (fun Γ C R => ?_)
  refine r_iload_n (q := 1) (z := 0) C 0 rfl (by decide +kernel) rfl rfl ?_
  refine r_iconst (q := 2) (z := 2) (v := 2) C rfl (by decide +kernel) (by decide) ?_
  refine r_idiv (q := 3) C rfl (by decide +kernel) (by decide) ?_
  rw [show nI p / 2 = nI (p / 2) from pk_div (d := 2) (by omega) (by decide) (by decide)]
  refine r_bipush (q := 5) (z := 12) (v := 12) C rfl (by decide +kernel) (by decide) ?_
  refine r_idiv (q := 6) C rfl (by decide +kernel) (by decide) ?_
  rw [div12 (by omega)]
  exact r_iret C (by decide +kernel) rfl (by decide) (by decide) ⟨_, rfl, ⟨rfl, rfl⟩⟩
theorem c_X7_widthAt {G : GT} {h : HP} {m : Nat} {σ : SG} {r p : Nat} (hm : LM h.kd h.gl h.fr m) (M : MR σ h m) (hr : r < 10) (hp : p < 240) : Con G 1 0 0 yX7_widthAt cX7_widthAt 3 (some .int) [rv m, .int (nI r), .int (nI p)] h (PI (fun v h' => nI (σ.wA r p) = v ∧ h = h')) := by
  refine Con.of (lv := [some (rv m), some (.int (nI r)), some (.int (nI p))]) (by decide) (by simp only [lvE_r, lvE_i, lvE_l, lvE_s, lvE_0]; rfl) (by simp only [lgl_r, lgl_i, lgl_l, lgl_s, lgl_0]; decide) (fun Γ C R => ?_)
  refine r_iload_n (q := 1) (z := 2) C 2 rfl (by decide +kernel) rfl rfl ?_
  refine r_iconst (q := 2) (z := 2) (v := 2) C rfl (by decide +kernel) (by decide) ?_
  refine r_irem (q := 3) C rfl (by decide +kernel) (by decide) ?_
  rw [show nI p - nI p / 2 * 2 = nI (p % 2) from pk_rem (d := 2) (by omega) (by decide) (by decide)]
  refine r_iconst (q := 4) (z := 1) (v := 1) C rfl (by decide +kernel) (by decide) ?_
  refine r_icmp_ne (q := 7) (off := 12) (tgt := 16) C rfl (by decide +kernel) (by decide) (fun c4 => ?_) (fun c4 => ?_)
  · have e2 : ¬ p % 2 = 1 := fun e => c4 (by rw [e]; rfl)
    refine r_aload_n (q := 17) (z := 0) C 0 rfl (by decide +kernel) rfl rfl ?_
    refine r_getR (q := 20) C 7 25 473 rfl (by decide +kernel) rfl (by decide) rfl rfl wf_X7_88 win7 hm.1 ?_
    refine r_iload_n (q := 21) (z := 1) C 1 rfl (by decide +kernel) rfl rfl ?_
    refine r_iald (q := 22) C rfl (by decide +kernel) hm.k473 (vp_in_nI hr (by decide)) ?_
    rw [nI_clamp (by omega), M.awd hr]
    exact r_iret C (by decide +kernel) rfl (by decide) (by decide) ⟨_, rfl, ⟨by simp [SG.wA, wAt, e2], rfl⟩⟩
  · have e2 : p % 2 = 1 := (nI_eq (b := 1) (by omega) (by decide)).mp c4
    refine r_aload_n (q := 8) (z := 0) C 0 rfl (by decide +kernel) rfl rfl ?_
    refine r_getR (q := 11) C 7 26 474 rfl (by decide +kernel) rfl (by decide) rfl rfl wf_X7_91 win7 hm.1 ?_
    refine r_iload_n (q := 12) (z := 1) C 1 rfl (by decide +kernel) rfl rfl ?_
    refine r_iald (q := 13) C rfl (by decide +kernel) hm.k474 (vp_in_nI hr (by decide)) ?_
    rw [nI_clamp (by omega), M.ahg hr]
    refine r_goto (off := 9) (tgt := 22) C (by decide +kernel) (by decide) ?_
    exact r_iret C (by decide +kernel) rfl (by decide) (by decide) ⟨_, rfl, ⟨by simp [SG.wA, wAt, e2], rfl⟩⟩
theorem c_X7_heightAt {G : GT} {h : HP} {m : Nat} {σ : SG} {r p : Nat} (hm : LM h.kd h.gl h.fr m) (M : MR σ h m) (hr : r < 10) (hp : p < 240) : Con G 1 0 0 yX7_heightAt cX7_heightAt 3 (some .int) [rv m, .int (nI r), .int (nI p)] h (PI (fun v h' => nI (σ.hA r p) = v ∧ h = h')) := by
  refine Con.of (lv := [some (rv m), some (.int (nI r)), some (.int (nI p))]) (by decide) (by simp only [lvE_r, lvE_i, lvE_l, lvE_s, lvE_0]; rfl) (by simp only [lgl_r, lgl_i, lgl_l, lgl_s, lgl_0]; decide) (fun Γ C R => ?_)
  refine r_iload_n (q := 1) (z := 2) C 2 rfl (by decide +kernel) rfl rfl ?_
  refine r_iconst (q := 2) (z := 2) (v := 2) C rfl (by decide +kernel) (by decide) ?_
  refine r_irem (q := 3) C rfl (by decide +kernel) (by decide) ?_
  rw [show nI p - nI p / 2 * 2 = nI (p % 2) from pk_rem (d := 2) (by omega) (by decide) (by decide)]
  refine r_iconst (q := 4) (z := 1) (v := 1) C rfl (by decide +kernel) (by decide) ?_
  refine r_icmp_ne (q := 7) (off := 12) (tgt := 16) C rfl (by decide +kernel) (by decide) (fun c4 => ?_) (fun c4 => ?_)
  · have e2 : ¬ p % 2 = 1 := fun e => c4 (by rw [e]; rfl)
    refine r_aload_n (q := 17) (z := 0) C 0 rfl (by decide +kernel) rfl rfl ?_
    refine r_getR (q := 20) C 7 26 474 rfl (by decide +kernel) rfl (by decide) rfl rfl wf_X7_91 win7 hm.1 ?_
    refine r_iload_n (q := 21) (z := 1) C 1 rfl (by decide +kernel) rfl rfl ?_
    refine r_iald (q := 22) C rfl (by decide +kernel) hm.k474 (vp_in_nI hr (by decide)) ?_
    rw [nI_clamp (by omega), M.ahg hr]
    exact r_iret C (by decide +kernel) rfl (by decide) (by decide) ⟨_, rfl, ⟨by simp [SG.hA, wAt, e2], rfl⟩⟩
  · have e2 : p % 2 = 1 := (nI_eq (b := 1) (by omega) (by decide)).mp c4
    refine r_aload_n (q := 8) (z := 0) C 0 rfl (by decide +kernel) rfl rfl ?_
    refine r_getR (q := 11) C 7 25 473 rfl (by decide +kernel) rfl (by decide) rfl rfl wf_X7_88 win7 hm.1 ?_
    refine r_iload_n (q := 12) (z := 1) C 1 rfl (by decide +kernel) rfl rfl ?_
    refine r_iald (q := 13) C rfl (by decide +kernel) hm.k473 (vp_in_nI hr (by decide)) ?_
    rw [nI_clamp (by omega), M.awd hr]
    refine r_goto (off := 9) (tgt := 22) C (by decide +kernel) (by decide) ?_
    exact r_iret C (by decide +kernel) rfl (by decide) (by decide) ⟨_, rfl, ⟨by simp [SG.hA, wAt, e2], rfl⟩⟩
theorem c_X7_isIn {G : GT} {h : HP} {x y w z c : Nat} (hx : x ≤ 20) (hy : y ≤ 20) (hw : w ≤ 20) (hz : z ≤ 20) (hc : c < 240) : Con G 1 0 0 yX7_isIn cX7_isIn 7 (some .boolean) [.int (nI x), .int (nI y), .int (nI w), .int (nI z), .int (nI c)] h (PI (fun v h' => b2i (inn x y w z c) = v ∧ h = h')) := by
  refine Con.of (lv := [some (.int (nI x)), some (.int (nI y)), some (.int (nI w)), some (.int (nI z)), some (.int (nI c)), none, none]) (by decide) (by simp only [lvE_r, lvE_i, lvE_l, lvE_s, lvE_0]; rfl) (by simp only [lgl_r, lgl_i, lgl_l, lgl_s, lgl_0]; decide) (fun Γ C R => ?_)
  refine r_iload (q := 2) C 4 rfl (by decide +kernel) rfl ?_
  refine r_bipush (q := 4) (z := 12) (v := 12) C rfl (by decide +kernel) (by decide) ?_
  refine r_irem (q := 5) C rfl (by decide +kernel) (by decide) ?_
  rw [show nI c - nI c / 12 * 12 = nI (c % 12) from pk_rem (d := 12) (by omega) (by decide) (by decide)]
  refine r_istore (q := 7) C 5 rfl (by decide +kernel) (by decide) (by first | rfl | exact okst_rv rfl) ?_
  dsimp only [List.set]
  refine r_iload (q := 9) C 4 rfl (by decide +kernel) rfl ?_
  refine r_bipush (q := 11) (z := 12) (v := 12) C rfl (by decide +kernel) (by decide) ?_
  refine r_idiv (q := 12) C rfl (by decide +kernel) (by decide) ?_
  rw [show nI c / 12 = nI (c / 12) from pk_div (d := 12) (by omega) (by decide) (by decide)]
  refine r_istore (q := 14) C 6 rfl (by decide +kernel) (by decide) (by first | rfl | exact okst_rv rfl) ?_
  dsimp only [List.set]
  refine r_iload (q := 16) C 5 rfl (by decide +kernel) rfl ?_
  refine r_iload_n (q := 17) (z := 0) C 0 rfl (by decide +kernel) rfl rfl ?_
  refine r_icmp_lt (q := 20) (off := 29) (tgt := 46) C rfl (by decide +kernel) (by decide) (fun c17 => ?_) (fun c17 => ?_)
  · rw [nI_ltI (by omega) (by omega)] at c17
    refine r_iconst (q := 47) (z := 0) (v := 0) C rfl (by decide +kernel) (by decide) ?_
    exact r_zret C (by decide +kernel) rfl (by first | decide | exact b2i_nar _) (by decide) (by decide) ⟨_, rfl, ⟨by clear C R; first | exact bf (by omega) | exact bt (by omega), rfl⟩⟩
  · rw [nI_ltI (by omega) (by omega)] at c17
    refine r_iload (q := 22) C 5 rfl (by decide +kernel) rfl ?_
    refine r_iload_n (q := 23) (z := 0) C 0 rfl (by decide +kernel) rfl rfl ?_
    refine r_iload_n (q := 24) (z := 2) C 2 rfl (by decide +kernel) rfl rfl ?_
    refine r_iadd (q := 25) C rfl (by decide +kernel) ?_
    rw [nI_add]
    refine r_icmp_ge (q := 28) (off := 21) (tgt := 46) C rfl (by decide +kernel) (by decide) (fun c25 => ?_) (fun c25 => ?_)
    · rw [nI_leI (by omega) (by omega)] at c25
      refine r_iconst (q := 47) (z := 0) (v := 0) C rfl (by decide +kernel) (by decide) ?_
      exact r_zret C (by decide +kernel) rfl (by first | decide | exact b2i_nar _) (by decide) (by decide) ⟨_, rfl, ⟨by clear C R; first | exact bf (by omega) | exact bt (by omega), rfl⟩⟩
    · rw [nI_leI (by omega) (by omega)] at c25
      refine r_iload (q := 30) C 6 rfl (by decide +kernel) rfl ?_
      refine r_iload_n (q := 31) (z := 1) C 1 rfl (by decide +kernel) rfl rfl ?_
      refine r_icmp_lt (q := 34) (off := 15) (tgt := 46) C rfl (by decide +kernel) (by decide) (fun c31 => ?_) (fun c31 => ?_)
      · rw [nI_ltI (by omega) (by omega)] at c31
        refine r_iconst (q := 47) (z := 0) (v := 0) C rfl (by decide +kernel) (by decide) ?_
        exact r_zret C (by decide +kernel) rfl (by first | decide | exact b2i_nar _) (by decide) (by decide) ⟨_, rfl, ⟨by clear C R; first | exact bf (by omega) | exact bt (by omega), rfl⟩⟩
      · rw [nI_ltI (by omega) (by omega)] at c31
        refine r_iload (q := 36) C 6 rfl (by decide +kernel) rfl ?_
        refine r_iload_n (q := 37) (z := 1) C 1 rfl (by decide +kernel) rfl rfl ?_
        refine r_iload_n (q := 38) (z := 3) C 3 rfl (by decide +kernel) rfl rfl ?_
        refine r_iadd (q := 39) C rfl (by decide +kernel) ?_
        rw [nI_add]
        refine r_icmp_ge (q := 42) (off := 7) (tgt := 46) C rfl (by decide +kernel) (by decide) (fun c39 => ?_) (fun c39 => ?_)
        · rw [nI_leI (by omega) (by omega)] at c39
          refine r_iconst (q := 47) (z := 0) (v := 0) C rfl (by decide +kernel) (by decide) ?_
          exact r_zret C (by decide +kernel) rfl (by first | decide | exact b2i_nar _) (by decide) (by decide) ⟨_, rfl, ⟨by clear C R; first | exact bf (by omega) | exact bt (by omega), rfl⟩⟩
        · rw [nI_leI (by omega) (by omega)] at c39
          refine r_iconst (q := 43) (z := 1) (v := 1) C rfl (by decide +kernel) (by decide) ?_
          refine r_goto (off := 4) (tgt := 47) C (by decide +kernel) (by decide) ?_
          exact r_zret C (by decide +kernel) rfl (by first | decide | exact b2i_nar _) (by decide) (by decide) ⟨_, rfl, ⟨by clear C R; first | exact bf (by omega) | exact bt (by omega), rfl⟩⟩
theorem c_X7_coversAt {G : GT} {h : HP} {m : Nat} {σ : SG} {r p c : Nat} (hm : LM h.kd h.gl h.fr m) (M : MR σ h m) (W : WF σ) (hr : r < σ.n) (hp : p < 240) (hc : c < 240) : Con G 2 0 0 yX7_coversAt cX7_coversAt 4 (some .boolean) [rv m, .int (nI r), .int (nI p), .int (nI c)] h (PI (fun v h' => b2i (σ.cA r p c) = v ∧ h = h')) := by
  refine Con.of (lv := [some (rv m), some (.int (nI r)), some (.int (nI p)), some (.int (nI c))]) (by decide) (by simp only [lvE_r, lvE_i, lvE_l, lvE_s, lvE_0]; rfl) (by simp only [lgl_r, lgl_i, lgl_l, lgl_s, lgl_0]; decide) (fun Γ C R => ?_)
  have r10 := W.n10
  have q1 := W.wA hr p
  have q2 := W.hA hr p
  have q3 := px_lt (p := p)
  have q4 := py_lt hp
  refine r_iload_n (q := 1) (z := 2) C 2 rfl (by decide +kernel) rfl rfl ?_
  refine cS1I (q := 4) C R rfl (by decide +kernel) lk_X7_246 (c_X7_placeX hp) (by decide) (by decide) (by decide) rfl (by first | exact Nat.le_of_ble_eq_true rfl | (simp only [List.map_cons, List.map_nil, List.sum_cons, List.sum_nil, rv_cat]; exact Nat.le_of_ble_eq_true rfl))  ?_
  rintro _ _ ⟨rfl, rfl⟩
  refine r_iload_n (q := 5) (z := 2) C 2 rfl (by decide +kernel) rfl rfl ?_
  refine cS1I (q := 8) C R rfl (by decide +kernel) lk_X7_249 (c_X7_placeY hp) (by decide) (by decide) (by decide) rfl (by first | exact Nat.le_of_ble_eq_true rfl | (simp only [List.map_cons, List.map_nil, List.sum_cons, List.sum_nil, rv_cat]; exact Nat.le_of_ble_eq_true rfl))  ?_
  rintro _ _ ⟨rfl, rfl⟩
  refine r_aload_n (q := 9) (z := 0) C 0 rfl (by decide +kernel) rfl rfl ?_
  refine r_iload_n (q := 10) (z := 1) C 1 rfl (by decide +kernel) rfl rfl ?_
  refine r_iload_n (q := 11) (z := 2) C 2 rfl (by decide +kernel) rfl rfl ?_
  refine cV2I (q := 14) C R rfl (by decide +kernel) lk_X7_252 (c_X7_widthAt hm M (by omega) hp) (by decide) (by decide) (by decide) rfl (by first | exact Nat.le_of_ble_eq_true rfl | (simp only [List.map_cons, List.map_nil, List.sum_cons, List.sum_nil, rv_cat]; exact Nat.le_of_ble_eq_true rfl)) rfl hm.1 ?_
  rintro _ _ ⟨rfl, rfl⟩
  refine r_aload_n (q := 15) (z := 0) C 0 rfl (by decide +kernel) rfl rfl ?_
  refine r_iload_n (q := 16) (z := 1) C 1 rfl (by decide +kernel) rfl rfl ?_
  refine r_iload_n (q := 17) (z := 2) C 2 rfl (by decide +kernel) rfl rfl ?_
  refine cV2I (q := 20) C R rfl (by decide +kernel) lk_X7_256 (c_X7_heightAt hm M (by omega) hp) (by decide) (by decide) (by decide) rfl (by first | exact Nat.le_of_ble_eq_true rfl | (simp only [List.map_cons, List.map_nil, List.sum_cons, List.sum_nil, rv_cat]; exact Nat.le_of_ble_eq_true rfl)) rfl hm.1 ?_
  rintro _ _ ⟨rfl, rfl⟩
  refine r_iload_n (q := 21) (z := 3) C 3 rfl (by decide +kernel) rfl rfl ?_
  refine cS5I (q := 24) C R rfl (by decide +kernel) lk_X7_259 (c_X7_isIn (by omega) (by omega) (by omega) (by omega) hc) (by decide) (by decide) (by decide) rfl (by first | exact Nat.le_of_ble_eq_true rfl | (simp only [List.map_cons, List.map_nil, List.sum_cons, List.sum_nil, rv_cat]; exact Nat.le_of_ble_eq_true rfl))  ?_
  rintro _ _ ⟨rfl, rfl⟩
  exact r_zret C (by decide +kernel) rfl (by first | decide | exact b2i_nar _) (by decide) (by decide) ⟨_, rfl, ⟨rfl, rfl⟩⟩
theorem c_X7_covers {G : GT} {h : HP} {m : Nat} {σ : SG} {r c : Nat} (hm : LM h.kd h.gl h.fr m) (M : MR σ h m) (W : WF σ) (hr : r < σ.n) (hc : c < 240) : Con G 3 0 0 yX7_covers cX7_covers 3 (some .boolean) [rv m, .int (nI r), .int (nI c)] h (PI (fun v h' => b2i (σ.cv r c) = v ∧ h = h')) := by
  refine Con.of (lv := [some (rv m), some (.int (nI r)), some (.int (nI c))]) (by decide) (by simp only [lvE_r, lvE_i, lvE_l, lvE_s, lvE_0]; rfl) (by simp only [lgl_r, lgl_i, lgl_l, lgl_s, lgl_0]; decide) (fun Γ C R => ?_)
  have r10 := W.n10
  refine r_aload_n (q := 1) (z := 0) C 0 rfl (by decide +kernel) rfl rfl ?_
  refine r_getR (q := 4) C 7 30 478 rfl (by decide +kernel) rfl (by decide) rfl rfl wf_X7_103 win7 hm.1 ?_
  refine r_iload_n (q := 5) (z := 1) C 1 rfl (by decide +kernel) rfl rfl ?_
  refine r_iald (q := 6) C rfl (by decide +kernel) hm.k478 (vp_in_nI (by omega) (by decide)) ?_
  rw [nI_clamp (by omega), M.ali (by omega)]
  refine r_if_lt (q := 9) (off := 22) (tgt := 28) C rfl (by decide +kernel) (by decide) (fun c6 => ?_) (fun c6 => ?_)
  · have hl := pl_neg.mp c6
    refine r_iconst (q := 29) (z := 0) (v := 0) C rfl (by decide +kernel) (by decide) ?_
    exact r_zret C (by decide +kernel) rfl (by first | decide | exact b2i_nar _) (by decide) (by decide) ⟨_, rfl, ⟨by clear C R; first | (simp [SG.cv, hl, b2i]; done) | (simp_all [SG.cv, b2i_0, b2i_n0, b2i]; done), rfl⟩⟩
  · have hl := pl_nn.mp c6
    refine r_aload_n (q := 10) (z := 0) C 0 rfl (by decide +kernel) rfl rfl ?_
    refine r_iload_n (q := 11) (z := 1) C 1 rfl (by decide +kernel) rfl rfl ?_
    refine r_aload_n (q := 12) (z := 0) C 0 rfl (by decide +kernel) rfl rfl ?_
    refine r_getR (q := 15) C 7 30 478 rfl (by decide +kernel) rfl (by decide) rfl rfl wf_X7_103 win7 hm.1 ?_
    refine r_iload_n (q := 16) (z := 1) C 1 rfl (by decide +kernel) rfl rfl ?_
    refine r_iald (q := 17) C rfl (by decide +kernel) hm.k478 (vp_in_nI (by omega) (by decide)) ?_
    rw [nI_clamp (by omega), M.ali (by omega), pl_in hl]
    refine r_iload_n (q := 18) (z := 2) C 2 rfl (by decide +kernel) rfl rfl ?_
    refine cV3I (q := 21) C R rfl (by decide +kernel) lk_X7_263 (c_X7_coversAt hm M W hr hl hc) (by decide) (by decide) (by decide) rfl (by first | exact Nat.le_of_ble_eq_true rfl | (simp only [List.map_cons, List.map_nil, List.sum_cons, List.sum_nil, rv_cat]; exact Nat.le_of_ble_eq_true rfl)) rfl hm.1 ?_
    rintro _ _ ⟨rfl, rfl⟩
    refine r_if_eq (q := 24) (off := 7) (tgt := 28) C rfl (by decide +kernel) (by decide) (fun c21 => ?_) (fun c21 => ?_)
    · refine r_iconst (q := 29) (z := 0) (v := 0) C rfl (by decide +kernel) (by decide) ?_
      exact r_zret C (by decide +kernel) rfl (by first | decide | exact b2i_nar _) (by decide) (by decide) ⟨_, rfl, ⟨by clear C R; first | (simp [SG.cv, hl, b2i]; done) | (simp_all [SG.cv, b2i_0, b2i_n0, b2i]; done), rfl⟩⟩
    · refine r_iconst (q := 25) (z := 1) (v := 1) C rfl (by decide +kernel) (by decide) ?_
      refine r_goto (off := 4) (tgt := 29) C (by decide +kernel) (by decide) ?_
      exact r_zret C (by decide +kernel) rfl (by first | decide | exact b2i_nar _) (by decide) (by decide) ⟨_, rfl, ⟨by clear C R; first | (simp [SG.cv, hl, b2i]; done) | (simp_all [SG.cv, b2i_0, b2i_n0, b2i]; done), rfl⟩⟩
theorem c_X7_coveredBy {G : GT} {h : HP} {m : Nat} {σ : SG} {c : Nat} (hm : LM h.kd h.gl h.fr m) (M : MR σ h m) (W : WF σ) (hc : c < 240) : Con G 4 0 0 yX7_coveredBy cX7_coveredBy 4 (some .int) [rv m, .int (nI c)] h (PI (fun v h' => covN σ c σ.n = v ∧ h = h')) := by
  refine Con.of (lv := [some (rv m), some (.int (nI c)), none, none]) (by decide) (by simp only [lvE_r, lvE_i, lvE_l, lvE_s, lvE_0]; rfl) (by simp only [lgl_r, lgl_i, lgl_l, lgl_s, lgl_0]; decide) (fun Γ C R => ?_)
  have r10 := W.n10
  refine r_iconst (q := 1) (z := (-1)) (v := (-1)) C rfl (by decide +kernel) (by decide) ?_
  refine r_istore_n (q := 2) (z := 2) C 2 rfl (by decide +kernel) rfl (by decide) (by first | rfl | exact okst_rv rfl) ?_
  dsimp only [List.set]
  refine r_iconst (q := 3) (z := 0) (v := 0) C rfl (by decide +kernel) (by decide) ?_
  refine r_istore_n (q := 4) (z := 3) C 3 rfl (by decide +kernel) rfl (by decide) (by first | rfl | exact okst_rv rfl) ?_
  dsimp only [List.set]
  have L4 : ∀ (fuel4 : Nat) (k : Nat), σ.n - k < fuel4 → (k ≤ σ.n) → wX G Γ (qM G Γ (PI (fun v h' => covN σ c σ.n = v ∧ h = h')) 0 0) 0 0 (h) 4 [some (rv m), some (.int (nI c)), some (.int (covN σ c k)), some (.int (nI k))] [] := by
    intro fuel4
    induction fuel4 with
    | zero =>
      intro k hm4
      exact absurd hm4 (Nat.not_lt_zero _)
    | succ fuel4 ih4 =>
      intro k hm4 hk
      refine r_iload_n (q := 5) (z := 3) C 3 rfl (by decide +kernel) rfl rfl ?_
      refine r_aload_n (q := 6) (z := 0) C 0 rfl (by decide +kernel) rfl rfl ?_
      refine r_getI (q := 9) C 7 24 472 rfl (by decide +kernel) rfl (by decide) rfl rfl wf_X7_243 win7 hm.1 ?_
      rw [M.fn]
      refine r_icmp_ge (q := 12) (off := 24) (tgt := 33) C rfl (by decide +kernel) (by decide) (fun c9 => ?_) (fun c9 => ?_)
      · have ek : k = σ.n := by have := (nI_leI (by omega) (by omega)).mp c9; omega
        refine r_iload_n (q := 34) (z := 2) C 2 rfl (by decide +kernel) rfl rfl ?_
        exact r_iret C (by decide +kernel) rfl (by decide) (by decide) ⟨_, rfl, ⟨by rw [ek], rfl⟩⟩
      · have hlt : k < σ.n := Nat.lt_of_not_le (fun e => c9 (nI_le e (by omega)))
        refine r_aload_n (q := 13) (z := 0) C 0 rfl (by decide +kernel) rfl rfl ?_
        refine r_iload_n (q := 14) (z := 3) C 3 rfl (by decide +kernel) rfl rfl ?_
        refine r_iload_n (q := 15) (z := 1) C 1 rfl (by decide +kernel) rfl rfl ?_
        refine cV2I (q := 18) C R rfl (by decide +kernel) lk_X7_267 (c_X7_covers hm M W hlt hc) (by decide) (by decide) (by decide) rfl (by first | exact Nat.le_of_ble_eq_true rfl | (simp only [List.map_cons, List.map_nil, List.sum_cons, List.sum_nil, rv_cat]; exact Nat.le_of_ble_eq_true rfl)) rfl hm.1 ?_
        rintro _ _ ⟨rfl, rfl⟩
        refine r_if_eq (q := 21) (off := 7) (tgt := 25) C rfl (by decide +kernel) (by decide) (fun c18 => ?_) (fun c18 => ?_)
        · have ec : covN σ c k = covN σ c (k + 1) := by simp [covN, (b2i_0 _).mp c18]
          refine r_iload_n (q := 26) (z := 2) C 2 rfl (by decide +kernel) rfl rfl ?_
          refine r_istore_n (q := 27) (z := 2) C 2 rfl (by decide +kernel) rfl (by decide) (by first | rfl | exact okst_rv rfl) ?_
          dsimp only [List.set]
          refine r_iinc (q := 30) (z := 1) (v := 1) C 3 rfl (by decide +kernel) rfl (by decide) (by decide) (by first | rfl | exact okst_rv rfl) ?_
          dsimp only [List.set]
          rw [nI_1, ec]
          refine r_goto (off := -26) (tgt := 4) C (by decide +kernel) (by decide) ?_
          exact ih4 (k + 1) (by omega) (by omega)
        · have ec : nI k = covN σ c (k + 1) := by simp [covN, (b2i_n0 _).mp c18]
          refine r_iload_n (q := 22) (z := 3) C 3 rfl (by decide +kernel) rfl rfl ?_
          refine r_goto (off := 4) (tgt := 26) C (by decide +kernel) (by decide) ?_
          refine r_istore_n (q := 27) (z := 2) C 2 rfl (by decide +kernel) rfl (by decide) (by first | rfl | exact okst_rv rfl) ?_
          dsimp only [List.set]
          refine r_iinc (q := 30) (z := 1) (v := 1) C 3 rfl (by decide +kernel) rfl (by decide) (by decide) (by first | rfl | exact okst_rv rfl) ?_
          dsimp only [List.set]
          rw [nI_1, ec]
          refine r_goto (off := -26) (tgt := 4) C (by decide +kernel) (by decide) ?_
          exact ih4 (k + 1) (by omega) (by omega)
  exact L4 (σ.n + 1) 0 (by omega) (by omega)
theorem c_X7_isFree {G : GT} {h : HP} {m : Nat} {σ : SG} {c : Nat} (hm : LM h.kd h.gl h.fr m) (M : MR σ h m) (W : WF σ) (hc : c < 120) : Con G 5 0 0 yX7_isFree cX7_isFree 2 (some .boolean) [rv m, .int (nI c)] h (PI (fun v h' => b2i (σ.fre c) = v ∧ h = h')) := by
  refine Con.of (lv := [some (rv m), some (.int (nI c))]) (by decide) (by simp only [lvE_r, lvE_i, lvE_l, lvE_s, lvE_0]; rfl) (by simp only [lgl_r, lgl_i, lgl_l, lgl_s, lgl_0]; decide) (fun Γ C R => ?_)
  have r10 := W.n10
  refine r_aload_n (q := 1) (z := 0) C 0 rfl (by decide +kernel) rfl rfl ?_
  refine r_getR (q := 4) C 7 36 484 rfl (by decide +kernel) rfl (by decide) rfl rfl wf_X7_118 win7 hm.1 ?_
  refine r_iload_n (q := 5) (z := 1) C 1 rfl (by decide +kernel) rfl rfl ?_
  refine r_zald (q := 6) C rfl (by decide +kernel) hm.k484 (vp_in_nI hc (by decide)) ?_
  rw [nI_clamp (by omega), M.acl hc]
  refine r_if_ne (q := 9) (off := 15) (tgt := 21) C rfl (by decide +kernel) (by decide) (fun c6 => ?_) (fun c6 => ?_)
  · refine r_iconst (q := 22) (z := 0) (v := 0) C rfl (by decide +kernel) (by decide) ?_
    exact r_zret C (by decide +kernel) rfl (by first | decide | exact b2i_nar _) (by decide) (by decide) ⟨_, rfl, ⟨by clear C R; simp_all [SG.fre, b2i_0, b2i_n0, b2i], rfl⟩⟩
  · refine r_aload_n (q := 10) (z := 0) C 0 rfl (by decide +kernel) rfl rfl ?_
    refine r_iload_n (q := 11) (z := 1) C 1 rfl (by decide +kernel) rfl rfl ?_
    refine cV1I (q := 14) C R rfl (by decide +kernel) lk_X7_271 (c_X7_coveredBy hm M W (by omega)) (by decide) (by decide) (by decide) rfl (by first | exact Nat.le_of_ble_eq_true rfl | (simp only [List.map_cons, List.map_nil, List.sum_cons, List.sum_nil, rv_cat]; exact Nat.le_of_ble_eq_true rfl)) rfl hm.1 ?_
    rintro _ _ ⟨rfl, rfl⟩
    refine r_if_ge (q := 17) (off := 7) (tgt := 21) C rfl (by decide +kernel) (by decide) (fun c14 => ?_) (fun c14 => ?_)
    · have c14 := mt (covN_neg r10).mpr (Int32.not_lt.mpr c14)
      refine r_iconst (q := 22) (z := 0) (v := 0) C rfl (by decide +kernel) (by decide) ?_
      exact r_zret C (by decide +kernel) rfl (by first | decide | exact b2i_nar _) (by decide) (by decide) ⟨_, rfl, ⟨by clear C R; simp_all [SG.fre, b2i_0, b2i_n0, b2i], rfl⟩⟩
    · have c14 := (covN_neg r10).mp (Int32.not_le.mp c14)
      refine r_iconst (q := 18) (z := 1) (v := 1) C rfl (by decide +kernel) (by decide) ?_
      refine r_goto (off := 4) (tgt := 22) C (by decide +kernel) (by decide) ?_
      exact r_zret C (by decide +kernel) rfl (by first | decide | exact b2i_nar _) (by decide) (by decide) ⟨_, rfl, ⟨by clear C R; simp_all [SG.fre, b2i_0, b2i_n0, b2i], rfl⟩⟩
theorem c_X7_doorAt {G : GT} {h : HP} {m : Nat} {σ : SG} {r p : Nat} (hm : LM h.kd h.gl h.fr m) (M : MR σ h m) (W : WF σ) (hr : r < σ.n) (hp : p < 240) : Con G 2 0 0 yX7_doorAt cX7_doorAt 3 (some .int) [rv m, .int (nI r), .int (nI p)] h (PI (fun v h' => nI (σ.dA r p) = v ∧ h = h')) := by
  refine Con.of (lv := [some (rv m), some (.int (nI r)), some (.int (nI p))]) (by decide) (by simp only [lvE_r, lvE_i, lvE_l, lvE_s, lvE_0]; rfl) (by simp only [lgl_r, lgl_i, lgl_l, lgl_s, lgl_0]; decide) (fun Γ C R => ?_)
  have r10 := W.n10
  have q1 := W.wA hr p
  refine r_bipush (q := 2) (z := 12) (v := 12) C rfl (by decide +kernel) (by decide) ?_
  refine r_iload_n (q := 3) (z := 2) C 2 rfl (by decide +kernel) rfl rfl ?_
  refine cS1I (q := 6) C R rfl (by decide +kernel) lk_X7_249 (c_X7_placeY hp) (by decide) (by decide) (by decide) rfl (by first | exact Nat.le_of_ble_eq_true rfl | (simp only [List.map_cons, List.map_nil, List.sum_cons, List.sum_nil, rv_cat]; exact Nat.le_of_ble_eq_true rfl))  ?_
  rintro _ _ ⟨rfl, rfl⟩
  refine r_aload_n (q := 7) (z := 0) C 0 rfl (by decide +kernel) rfl rfl ?_
  refine r_iload_n (q := 8) (z := 1) C 1 rfl (by decide +kernel) rfl rfl ?_
  refine r_iload_n (q := 9) (z := 2) C 2 rfl (by decide +kernel) rfl rfl ?_
  refine cV2I (q := 12) C R rfl (by decide +kernel) lk_X7_256 (c_X7_heightAt hm M (by omega) hp) (by decide) (by decide) (by decide) rfl (by first | exact Nat.le_of_ble_eq_true rfl | (simp only [List.map_cons, List.map_nil, List.sum_cons, List.sum_nil, rv_cat]; exact Nat.le_of_ble_eq_true rfl)) rfl hm.1 ?_
  rintro _ _ ⟨rfl, rfl⟩
  refine r_iadd (q := 13) C rfl (by decide +kernel) ?_
  rw [nI_add]
  refine r_imul (q := 14) C rfl (by decide +kernel) ?_
  rw [show (12 : Int32) = nI 12 from rfl, pk_mul]
  refine r_iload_n (q := 15) (z := 2) C 2 rfl (by decide +kernel) rfl rfl ?_
  refine cS1I (q := 18) C R rfl (by decide +kernel) lk_X7_246 (c_X7_placeX hp) (by decide) (by decide) (by decide) rfl (by first | exact Nat.le_of_ble_eq_true rfl | (simp only [List.map_cons, List.map_nil, List.sum_cons, List.sum_nil, rv_cat]; exact Nat.le_of_ble_eq_true rfl))  ?_
  rintro _ _ ⟨rfl, rfl⟩
  refine r_iadd (q := 19) C rfl (by decide +kernel) ?_
  rw [nI_add]
  refine r_aload_n (q := 20) (z := 0) C 0 rfl (by decide +kernel) rfl rfl ?_
  refine r_iload_n (q := 21) (z := 1) C 1 rfl (by decide +kernel) rfl rfl ?_
  refine r_iload_n (q := 22) (z := 2) C 2 rfl (by decide +kernel) rfl rfl ?_
  refine cV2I (q := 25) C R rfl (by decide +kernel) lk_X7_252 (c_X7_widthAt hm M (by omega) hp) (by decide) (by decide) (by decide) rfl (by first | exact Nat.le_of_ble_eq_true rfl | (simp only [List.map_cons, List.map_nil, List.sum_cons, List.sum_nil, rv_cat]; exact Nat.le_of_ble_eq_true rfl)) rfl hm.1 ?_
  rintro _ _ ⟨rfl, rfl⟩
  refine r_iconst (q := 26) (z := 1) (v := 1) C rfl (by decide +kernel) (by decide) ?_
  refine r_isub (q := 27) C rfl (by decide +kernel) ?_
  rw [m1x _ (by omega)]
  refine r_iconst (q := 28) (z := 2) (v := 2) C rfl (by decide +kernel) (by decide) ?_
  refine r_idiv (q := 29) C rfl (by decide +kernel) (by decide) ?_
  rw [show nI (σ.wA r p - 1) / 2 = nI ((σ.wA r p - 1) / 2) from pk_div (d := 2) (by omega) (by decide) (by decide)]
  refine r_iadd (q := 30) C rfl (by decide +kernel) ?_
  rw [nI_add]
  exact r_iret C (by decide +kernel) rfl (by decide) (by decide) ⟨_, rfl, ⟨rfl, rfl⟩⟩
theorem c_X7_door {G : GT} {h : HP} {m : Nat} {σ : SG} {r : Nat} (hm : LM h.kd h.gl h.fr m) (M : MR σ h m) (W : WF σ) (hr : r < σ.n) : Con G 3 0 0 yX7_door cX7_door 2 (some .int) [rv m, .int (nI r)] h (PI (fun v h' => (if σ.li r < 240 then nI (σ.dr r) else -1) = v ∧ h = h')) := by
  refine Con.of (lv := [some (rv m), some (.int (nI r))]) (by decide) (by simp only [lvE_r, lvE_i, lvE_l, lvE_s, lvE_0]; rfl) (by simp only [lgl_r, lgl_i, lgl_l, lgl_s, lgl_0]; decide) (fun Γ C R => ?_)
  have r10 := W.n10
  refine r_aload_n (q := 1) (z := 0) C 0 rfl (by decide +kernel) rfl rfl ?_
  refine r_getR (q := 4) C 7 30 478 rfl (by decide +kernel) rfl (by decide) rfl rfl wf_X7_103 win7 hm.1 ?_
  refine r_iload_n (q := 5) (z := 1) C 1 rfl (by decide +kernel) rfl rfl ?_
  refine r_iald (q := 6) C rfl (by decide +kernel) hm.k478 (vp_in_nI (by omega) (by decide)) ?_
  rw [nI_clamp (by omega), M.ali (by omega)]
  refine r_if_ge (q := 9) (off := 7) (tgt := 13) C rfl (by decide +kernel) (by decide) (fun c6 => ?_) (fun c6 => ?_)
  · have hl := pl_le.mp c6
    refine r_aload_n (q := 14) (z := 0) C 0 rfl (by decide +kernel) rfl rfl ?_
    refine r_iload_n (q := 15) (z := 1) C 1 rfl (by decide +kernel) rfl rfl ?_
    refine r_aload_n (q := 16) (z := 0) C 0 rfl (by decide +kernel) rfl rfl ?_
    refine r_getR (q := 19) C 7 30 478 rfl (by decide +kernel) rfl (by decide) rfl rfl wf_X7_103 win7 hm.1 ?_
    refine r_iload_n (q := 20) (z := 1) C 1 rfl (by decide +kernel) rfl rfl ?_
    refine r_iald (q := 21) C rfl (by decide +kernel) hm.k478 (vp_in_nI (by omega) (by decide)) ?_
    rw [nI_clamp (by omega), M.ali (by omega), pl_in hl]
    refine cV2I (q := 24) C R rfl (by decide +kernel) lk_X7_274 (c_X7_doorAt hm M W hr hl) (by decide) (by decide) (by decide) rfl (by first | exact Nat.le_of_ble_eq_true rfl | (simp only [List.map_cons, List.map_nil, List.sum_cons, List.sum_nil, rv_cat]; exact Nat.le_of_ble_eq_true rfl)) rfl hm.1 ?_
    rintro _ _ ⟨rfl, rfl⟩
    exact r_iret C (by decide +kernel) rfl (by decide) (by decide) ⟨_, rfl, ⟨by first | rw [if_neg hl] | (rw [if_pos hl]; rfl), rfl⟩⟩
  · have hl := mt pl_le.mpr c6
    refine r_iconst (q := 10) (z := (-1)) (v := (-1)) C rfl (by decide +kernel) (by decide) ?_
    refine r_goto (off := 14) (tgt := 24) C (by decide +kernel) (by decide) ?_
    exact r_iret C (by decide +kernel) rfl (by decide) (by decide) ⟨_, rfl, ⟨by first | rw [if_neg hl] | (rw [if_pos hl]; rfl), rfl⟩⟩
theorem c_X7_gateCell {G : GT} {h : HP} {m : Nat} {σ : SG}  (hm : LM h.kd h.gl h.fr m) (M : MR σ h m) (W : WF σ) : Con G 1 0 0 yX7_gateCell cX7_gateCell 1 (some .int) [rv m] h (PI (fun v h' => nI (12 * σ.gr) = v ∧ h = h')) := by
  refine Con.of (lv := [some (rv m)]) (by decide) (by simp only [lvE_r, lvE_i, lvE_l, lvE_s, lvE_0]; rfl) (by simp only [lgl_r, lgl_i, lgl_l, lgl_s, lgl_0]; decide) (fun Γ C R => ?_)
  refine r_bipush (q := 2) (z := 12) (v := 12) C rfl (by decide +kernel) (by decide) ?_
  refine r_aload_n (q := 3) (z := 0) C 0 rfl (by decide +kernel) rfl rfl ?_
  refine r_getI (q := 6) C 7 37 485 rfl (by decide +kernel) rfl (by decide) rfl rfl wf_X7_277 win7 hm.1 ?_
  rw [M.fg]
  refine r_imul (q := 7) C rfl (by decide +kernel) ?_
  rw [show (12 : Int32) = nI 12 from rfl, pk_mul]
  exact r_iret C (by decide +kernel) rfl (by decide) (by decide) ⟨_, rfl, ⟨rfl, rfl⟩⟩
end
section
theorem cnt_mono {p q : Nat → Bool} : ∀ n, (∀ k, k < n → p k = true → q k = true) → cnt p n ≤ cnt q n
  | 0, _ => Nat.le_refl _
  | n + 1, h => by
    have := cnt_mono n (fun k hk => h k (by omega))
    simp only [cnt]
    by_cases e : p n = true
    · rw [e, h n (by omega) e]; omega
    · simp [e]; omega
/-- f has the flags rb on the first n -/
def Fl (f : Nat → Int32) (rb : Nat → Bool) (n : Nat) : Prop := ∀ c, c < n → f c = b2i (rb c)
theorem Fl.upd {f : Nat → Int32} {rb : Nat → Bool} {n c : Nat} (h : Fl f rb n) : Fl (upd f c 1) (fun k => rb k || decide (k = c)) n := fun k hk => by
  show (if k = c then (1 : Int32) else f k) = _
  by_cases e : k = c
  · simp [e, b2i]
  · simp [e, h k hk]

theorem c_X7_isBeside {G : GT} {h : HP} {m c : Nat} {rb : Nat → Bool} (hm : LM h.kd h.gl h.fr m) (hF : Fl (h.ai (h.fr 487 m)) rb 120) (hc : c < 120) : Con G 1 0 0 yX7_isBeside cX7_isBeside 3 (some .boolean) [rv m, .int (nI c)] h (PI (fun v h' => ∃ t : Bool, b2i t = v ∧ (t = true ↔ ∃ a, a < 120 ∧ adj c a ∧ rb a = true) ∧ h = h')) := by
  refine Con.of (lv := [some (rv m), some (.int (nI c)), none]) (by decide) (by simp only [lvE_r, lvE_i, lvE_l, lvE_s, lvE_0]; rfl) (by simp only [lgl_r, lgl_i, lgl_l, lgl_s, lgl_0]; decide) (fun Γ C R => ?_)
  refine r_iload_n (q := 1) (z := 1) C 1 rfl (by decide +kernel) rfl rfl ?_
  refine r_bipush (q := 3) (z := 12) (v := 12) C rfl (by decide +kernel) (by decide) ?_
  refine r_irem (q := 4) C rfl (by decide +kernel) (by decide) ?_
  rw [rem12 hc]
  refine r_istore_n (q := 5) (z := 2) C 2 rfl (by decide +kernel) rfl (by decide) (by first | rfl | exact okst_rv rfl) ?_
  dsimp only [List.set]
  have J73 : (∃ a, a < 120 ∧ adj c a ∧ rb a = true) → wX G Γ (qM G Γ (PI (fun v h' => ∃ t : Bool, b2i t = v ∧ (t = true ↔ ∃ a, a < 120 ∧ adj c a ∧ rb a = true) ∧ h = h')) 0 0) 0 0 (h) 73 [some (rv m), some (.int (nI c)), some (.int (nI (c % 12)))] [] := by
    intro  hY
    refine r_iconst (q := 74) (z := 1) (v := 1) C rfl (by decide +kernel) (by decide) ?_
    refine r_goto (off := 4) (tgt := 78) C (by decide +kernel) (by decide) ?_
    exact r_zret C (by decide +kernel) rfl (by first | decide | exact b2i_nar _) (by decide) (by decide) ⟨_, rfl, (by first | exact ⟨true, rfl, ⟨fun _ => hY, fun _ => rfl⟩, rfl⟩ | exact ⟨false, rfl, ⟨(fun e => nomatch e), fun ⟨a, ha, hab, hr⟩ => by
            rcases hab with ⟨e1, e2⟩ | ⟨e1, e2⟩ | e2 | e2
            · rw [show a = c - 1 by omega, n1 e1] at hr; exact hr
            · rw [e2, n2 e1] at hr; exact hr
            · rw [show a = c - 12 by omega, n3 (by omega)] at hr; exact hr
            · rw [e2, n4 (by omega)] at hr; exact hr⟩, rfl⟩)⟩
  have J55 : (c % 12 ≠ 0 → rb (c - 1) = false) → (c % 12 ≠ 11 → rb (c + 1) = false) → (12 ≤ c → rb (c - 12) = false) → wX G Γ (qM G Γ (PI (fun v h' => ∃ t : Bool, b2i t = v ∧ (t = true ↔ ∃ a, a < 120 ∧ adj c a ∧ rb a = true) ∧ h = h')) 0 0) 0 0 (h) 55 [some (rv m), some (.int (nI c)), some (.int (nI (c % 12)))] [] := by
    intro  n1 n2 n3
    refine r_iload_n (q := 56) (z := 1) C 1 rfl (by decide +kernel) rfl rfl ?_
    refine r_bipush (q := 58) (z := 108) (v := 108) C rfl (by decide +kernel) (by decide) ?_
    refine r_icmp_ge (q := 61) (off := 19) (tgt := 77) C rfl (by decide +kernel) (by decide) (fun c58 => ?_) (fun c58 => ?_)
    · have c58 : 108 ≤ c := (nI_leI (a := 108) (by omega) (by omega)).mp c58
      have n4 : c < 108 → rb (c + 12) = false := fun e => absurd e (by omega)
      refine r_iconst (q := 78) (z := 0) (v := 0) C rfl (by decide +kernel) (by decide) ?_
      exact r_zret C (by decide +kernel) rfl (by first | decide | exact b2i_nar _) (by decide) (by decide) ⟨_, rfl, (by first | exact ⟨true, rfl, ⟨fun _ => hY, fun _ => rfl⟩, rfl⟩ | exact ⟨false, rfl, ⟨(fun e => nomatch e), fun ⟨a, ha, hab, hr⟩ => by
              rcases hab with ⟨e1, e2⟩ | ⟨e1, e2⟩ | e2 | e2
              · rw [show a = c - 1 by omega, n1 e1] at hr; exact hr
              · rw [e2, n2 e1] at hr; exact hr
              · rw [show a = c - 12 by omega, n3 (by omega)] at hr; exact hr
              · rw [e2, n4 (by omega)] at hr; exact hr⟩, rfl⟩)⟩
    · have c58 : c < 108 := Nat.lt_of_not_le (fun e => c58 (nI_le (a := 108) e (by omega)))
      refine r_aload_n (q := 62) (z := 0) C 0 rfl (by decide +kernel) rfl rfl ?_
      refine r_getR (q := 65) C 7 39 487 rfl (by decide +kernel) rfl (by decide) rfl rfl wf_X7_124 win7 hm.1 ?_
      refine r_iload_n (q := 66) (z := 1) C 1 rfl (by decide +kernel) rfl rfl ?_
      refine r_bipush (q := 68) (z := 12) (v := 12) C rfl (by decide +kernel) (by decide) ?_
      refine r_iadd (q := 69) C rfl (by decide +kernel) ?_
      rw [show (12 : Int32) = nI 12 from rfl, nI_add]
      refine r_zald (q := 70) C rfl (by decide +kernel) hm.k487 (vp_in_nI (by omega) (by decide)) ?_
      rw [nI_clamp (by omega), hF _ (by omega)]
      refine r_if_eq (q := 73) (off := 7) (tgt := 77) C rfl (by decide +kernel) (by decide) (fun c70 => ?_) (fun c70 => ?_)
      · have n4 : c < 108 → rb (c + 12) = false := fun _ => (b2i_0 _).mp c70
        refine r_iconst (q := 78) (z := 0) (v := 0) C rfl (by decide +kernel) (by decide) ?_
        exact r_zret C (by decide +kernel) rfl (by first | decide | exact b2i_nar _) (by decide) (by decide) ⟨_, rfl, (by first | exact ⟨true, rfl, ⟨fun _ => hY, fun _ => rfl⟩, rfl⟩ | exact ⟨false, rfl, ⟨(fun e => nomatch e), fun ⟨a, ha, hab, hr⟩ => by
                rcases hab with ⟨e1, e2⟩ | ⟨e1, e2⟩ | e2 | e2
                · rw [show a = c - 1 by omega, n1 e1] at hr; exact hr
                · rw [e2, n2 e1] at hr; exact hr
                · rw [show a = c - 12 by omega, n3 (by omega)] at hr; exact hr
                · rw [e2, n4 (by omega)] at hr; exact hr⟩, rfl⟩)⟩
      · exact J73 ⟨c + 12, by omega, by unfold adj; omega, (b2i_n0 _).mp c70⟩
  have J37 : (c % 12 ≠ 0 → rb (c - 1) = false) → (c % 12 ≠ 11 → rb (c + 1) = false) → wX G Γ (qM G Γ (PI (fun v h' => ∃ t : Bool, b2i t = v ∧ (t = true ↔ ∃ a, a < 120 ∧ adj c a ∧ rb a = true) ∧ h = h')) 0 0) 0 0 (h) 37 [some (rv m), some (.int (nI c)), some (.int (nI (c % 12)))] [] := by
    intro  n1 n2
    refine r_iload_n (q := 38) (z := 1) C 1 rfl (by decide +kernel) rfl rfl ?_
    refine r_bipush (q := 40) (z := 12) (v := 12) C rfl (by decide +kernel) (by decide) ?_
    refine r_icmp_lt (q := 43) (off := 15) (tgt := 55) C rfl (by decide +kernel) (by decide) (fun c40 => ?_) (fun c40 => ?_)
    · have c40 : c < 12 := (nI_ltI (b := 12) (by omega) (by omega)).mp c40
      exact J55 n1 n2 (fun e => absurd e (by omega))
    · have c40 : 12 ≤ c := Nat.le_of_not_lt (fun e => c40 (nI_lt (b := 12) e (by omega)))
      refine r_aload_n (q := 44) (z := 0) C 0 rfl (by decide +kernel) rfl rfl ?_
      refine r_getR (q := 47) C 7 39 487 rfl (by decide +kernel) rfl (by decide) rfl rfl wf_X7_124 win7 hm.1 ?_
      refine r_iload_n (q := 48) (z := 1) C 1 rfl (by decide +kernel) rfl rfl ?_
      refine r_bipush (q := 50) (z := 12) (v := 12) C rfl (by decide +kernel) (by decide) ?_
      refine r_isub (q := 51) C rfl (by decide +kernel) ?_
      rw [show (12 : Int32) = nI 12 from rfl, pk_sub (by omega)]
      refine r_zald (q := 52) C rfl (by decide +kernel) hm.k487 (vp_in_nI (by omega) (by decide)) ?_
      rw [nI_clamp (by omega), hF _ (by omega)]
      refine r_if_ne (q := 55) (off := 21) (tgt := 73) C rfl (by decide +kernel) (by decide) (fun c52 => ?_) (fun c52 => ?_)
      · exact J73 ⟨c - 12, by omega, by unfold adj; omega, (b2i_n0 _).mp c52⟩
      · exact J55 n1 n2 (fun _ => (b2i_0 _).mp c52)
  have J20 : (c % 12 ≠ 0 → rb (c - 1) = false) → wX G Γ (qM G Γ (PI (fun v h' => ∃ t : Bool, b2i t = v ∧ (t = true ↔ ∃ a, a < 120 ∧ adj c a ∧ rb a = true) ∧ h = h')) 0 0) 0 0 (h) 20 [some (rv m), some (.int (nI c)), some (.int (nI (c % 12)))] [] := by
    intro  n1
    refine r_iload_n (q := 21) (z := 2) C 2 rfl (by decide +kernel) rfl rfl ?_
    refine r_bipush (q := 23) (z := 11) (v := 11) C rfl (by decide +kernel) (by decide) ?_
    refine r_icmp_ge (q := 26) (off := 14) (tgt := 37) C rfl (by decide +kernel) (by decide) (fun c23 => ?_) (fun c23 => ?_)
    · have c23 : c % 12 = 11 := by have := (nI_leI (a := 11) (by omega) (by omega)).mp c23; omega
      exact J37 n1 (fun e => absurd e (by omega))
    · have c23 : c % 12 < 11 := Nat.lt_of_not_le (fun e => c23 (nI_le (a := 11) e (by omega)))
      refine r_aload_n (q := 27) (z := 0) C 0 rfl (by decide +kernel) rfl rfl ?_
      refine r_getR (q := 30) C 7 39 487 rfl (by decide +kernel) rfl (by decide) rfl rfl wf_X7_124 win7 hm.1 ?_
      refine r_iload_n (q := 31) (z := 1) C 1 rfl (by decide +kernel) rfl rfl ?_
      refine r_iconst (q := 32) (z := 1) (v := 1) C rfl (by decide +kernel) (by decide) ?_
      refine r_iadd (q := 33) C rfl (by decide +kernel) ?_
      rw [nI_1]
      refine r_zald (q := 34) C rfl (by decide +kernel) hm.k487 (vp_in_nI (by omega) (by decide)) ?_
      rw [nI_clamp (by omega), hF _ (by omega)]
      refine r_if_ne (q := 37) (off := 39) (tgt := 73) C rfl (by decide +kernel) (by decide) (fun c34 => ?_) (fun c34 => ?_)
      · exact J73 ⟨c + 1, by omega, by unfold adj; omega, (b2i_n0 _).mp c34⟩
      · exact J37 n1 (fun _ => (b2i_0 _).mp c34)
  refine r_iload_n (q := 6) (z := 2) C 2 rfl (by decide +kernel) rfl rfl ?_
  refine r_if_le (q := 9) (off := 14) (tgt := 20) C rfl (by decide +kernel) (by decide) (fun c6 => ?_) (fun c6 => ?_)
  · have c6 : c % 12 = 0 := by have := (nI_leI (b := 0) (by omega) (by decide)).mp c6; omega
    exact J20 (fun e => absurd e (by omega))
  · have c6 : c % 12 ≠ 0 := fun e => c6 (by rw [e]; decide)
    refine r_aload_n (q := 10) (z := 0) C 0 rfl (by decide +kernel) rfl rfl ?_
    refine r_getR (q := 13) C 7 39 487 rfl (by decide +kernel) rfl (by decide) rfl rfl wf_X7_124 win7 hm.1 ?_
    refine r_iload_n (q := 14) (z := 1) C 1 rfl (by decide +kernel) rfl rfl ?_
    refine r_iconst (q := 15) (z := 1) (v := 1) C rfl (by decide +kernel) (by decide) ?_
    refine r_isub (q := 16) C rfl (by decide +kernel) ?_
    rw [m1x _ (by omega)]
    refine r_zald (q := 17) C rfl (by decide +kernel) hm.k487 (vp_in_nI (by omega) (by decide)) ?_
    rw [nI_clamp (by omega), hF _ (by omega)]
    refine r_if_ne (q := 20) (off := 56) (tgt := 73) C rfl (by decide +kernel) (by decide) (fun c17 => ?_) (fun c17 => ?_)
    · exact J73 ⟨c - 1, by omega, by unfold adj; omega, (b2i_n0 _).mp c17⟩
    · exact J20 (fun _ => (b2i_0 _).mp c17)
theorem c_X7_reaches {G : GT} {h : HP} {m : Nat} {σ : SG} {bar : Nat → Bool} (hm : LM h.kd h.gl h.fr m) (M : MR σ h m) (W : WF σ) (hb : Fl (h.ai (h.fr 486 m)) bar 120) : Con G 2 0 0 yX7_reaches cX7_reaches 3 none [rv m] h (PV (fun h' => ∃ (f : Nat → Int32) (rb : Nat → Bool), h.row (h.fr 487 m) f = h' ∧ Fl f rb 120 ∧ ∀ c, c < 120 → (rb c = true ↔ RS bar (12 * σ.gr) c))) := by
  refine Con.of (lv := [some (rv m), none, none]) (by decide) (by simp only [lvE_r, lvE_i, lvE_l, lvE_s, lvE_0]; rfl) (by simp only [lgl_r, lgl_i, lgl_l, lgl_s, lgl_0]; decide) (fun Γ C R => ?_)
  have g10 := W.gr10
  have hne : h.fr 486 m ≠ h.fr 487 m := gl_ne hm.g486 hm.g487 (by decide)
  have M2 : ∀ f, MR σ (h.row (h.fr 487 m) f) m := fun f => M.row hm (by rw [hm.g487]; decide)
  have L49 : ∀ (fuel49 : Nat) (f : Nat → Int32) (rb : Nat → Bool) (more : Bool), 2 * (120 - cnt rb 120) + (if more then 1 else 0) < fuel49 → (Fl f rb 120) → (∀ c, c < 120 → rb c = true → RS bar (12 * σ.gr) c) → (bar (12 * σ.gr) = false → rb (12 * σ.gr) = true) → (more = false → ∀ a b, a < 120 → b < 120 → rb a = true → adj a b → bar b = false → rb b = true) → wX G Γ (qM G Γ (PV (fun h' => ∃ (f : Nat → Int32) (rb : Nat → Bool), h.row (h.fr 487 m) f = h' ∧ Fl f rb 120 ∧ ∀ c, c < 120 → (rb c = true ↔ RS bar (12 * σ.gr) c))) 0 0) 0 0 (h.row (h.fr 487 m) f) 49 [some (rv m), some (.int (b2i more)), none] [] := by
    intro fuel49
    induction fuel49 with
    | zero =>
      intro f rb more hm49
      exact absurd hm49 (Nat.not_lt_zero _)
    | succ fuel49 ih49 =>
      intro f rb more hm49 hF hS hG hC
      refine r_iload_n (q := 50) (z := 1) C 1 rfl (by decide +kernel) rfl rfl ?_
      refine r_if_eq (q := 53) (off := 57) (tgt := 107) C rfl (by decide +kernel) (by decide) (fun c50 => ?_) (fun c50 => ?_)
      · have em : more = false := (b2i_0 _).mp c50
        exact r_ret C (by decide +kernel) rfl (by decide) (by decide) ⟨rfl, ⟨f, rb, rfl, hF, fun c hc => ⟨hS c hc, fun e => (e (fun c => c < 120 ∧ rb c = true) (fun e => ⟨by omega, hG e⟩) (fun a b ha hb2 hs hab he => ⟨hb2, hC em a b ha hb2 hs.2 hab he⟩)).2⟩⟩⟩
      · have em : more = true := (b2i_n0 _).mp c50
        subst em
        refine r_iconst (q := 54) (z := 0) (v := b2i false) C rfl (by decide +kernel) (by decide) ?_
        refine r_istore_n (q := 55) (z := 1) C 1 rfl (by decide +kernel) rfl (by decide) (by first | rfl | exact okst_rv rfl) ?_
        dsimp only [List.set]
        refine r_iconst (q := 56) (z := 0) (v := 0) C rfl (by decide +kernel) (by decide) ?_
        refine r_istore_n (q := 57) (z := 2) C 2 rfl (by decide +kernel) rfl (by decide) (by first | rfl | exact okst_rv rfl) ?_
        dsimp only [List.set]
        have L57 : ∀ (fuel57 : Nat) (i : Nat) (f1 : Nat → Int32) (rb1 : Nat → Bool) (more1 : Bool), 120 - i < fuel57 → (i ≤ 120) → (Fl f1 rb1 120) → (∀ c, c < 120 → rb1 c = true → RS bar (12 * σ.gr) c) → (bar (12 * σ.gr) = false → rb1 (12 * σ.gr) = true) → (cnt rb 120 ≤ cnt rb1 120) → (more1 = true → cnt rb 120 < cnt rb1 120) → (more1 = false → (∀ c, c < 120 → rb1 c = rb c) ∧ ∀ c, c < i → rb1 c = true ∨ bar c = true ∨ ∀ a, a < 120 → adj c a → rb1 a = false) → wX G Γ (qM G Γ (PV (fun h' => ∃ (f : Nat → Int32) (rb : Nat → Bool), h.row (h.fr 487 m) f = h' ∧ Fl f rb 120 ∧ ∀ c, c < 120 → (rb c = true ↔ RS bar (12 * σ.gr) c))) 0 0) 0 0 (h.row (h.fr 487 m) f1) 57 [some (rv m), some (.int (b2i more1)), some (.int (nI i))] [] := by
          intro fuel57
          induction fuel57 with
          | zero =>
            intro i f1 rb1 more1 hm57
            exact absurd hm57 (Nat.not_lt_zero _)
          | succ fuel57 ih57 =>
            intro i f1 rb1 more1 hm57 hi hF1 hS1 hG1 hL1 hM1 hN1
            refine r_iload_n (q := 58) (z := 2) C 2 rfl (by decide +kernel) rfl rfl ?_
            refine r_bipush (q := 60) (z := 120) (v := 120) C rfl (by decide +kernel) (by decide) ?_
            refine r_icmp_ge (q := 63) (off := 44) (tgt := 104) C rfl (by decide +kernel) (by decide) (fun c60 => ?_) (fun c60 => ?_)
            · have ez : i = 120 := by have := (nI_leI (a := 120) (by omega) (by omega)).mp c60; omega
              subst ez
              have hC1 : more1 = false → ∀ a b, a < 120 → b < 120 → rb1 a = true → adj a b → bar b = false → rb1 b = true := fun e a b ha hb2 hra hab hbb => by
                rcases (hN1 e).2 b hb2 with e1 | e1 | e1
                · exact e1
                · rw [hbb] at e1; cases e1
                · rw [e1 a ha (adj_symm hab)] at hra; cases hra
              refine r_goto (off := -55) (tgt := 49) C (by decide +kernel) (by decide) ?_
              exact wX.sub (lsub_s (lsub_s (lsub_n (lsub_nil)))) (ih49 _ rb1 more1 (by have := cnt_le rb1 120; have := cnt_le rb 120; cases more1 with | true => (have := hM1 rfl; simp at hm49 ⊢; omega) | false => (rw [cnt_congr 120 (hN1 rfl).1]; simp at hm49 ⊢; omega)) hF1 hS1 hG1 hC1)
            · have hlt : i < 120 := Nat.lt_of_not_le (fun e => c60 (nI_le (a := 120) e (by omega)))
              refine r_aload_n (q := 64) (z := 0) C 0 rfl (by decide +kernel) rfl rfl ?_
              refine r_getR (q := 67) C 7 39 487 rfl (by decide +kernel) rfl (by decide) rfl rfl wf_X7_124 win7 hm.1 ?_
              refine r_iload_n (q := 68) (z := 2) C 2 rfl (by decide +kernel) rfl rfl ?_
              refine r_zald (q := 69) C rfl (by decide +kernel) hm.k487 (vp_in_nI hlt (by decide)) ?_
              try simp only [fr_row]
              rw [nI_clamp (by omega), ai_row_eq, hF1 _ hlt]
              refine r_if_ne (q := 72) (off := 29) (tgt := 98) C rfl (by decide +kernel) (by decide) (fun c69 => ?_) (fun c69 => ?_)
              · have hF2 := hF1
                have hS2 := hS1
                have hG2 := hG1
                have hL2 := hL1
                have hM2 := hM1
                have hN2 : more1 = false → (∀ c, c < 120 → rb1 c = rb c) ∧ ∀ c, c < i + 1 → rb1 c = true ∨ bar c = true ∨ ∀ a, a < 120 → adj c a → rb1 a = false := fun e => ⟨(hN1 e).1, fun c hc => by
                  by_cases ec : c = i
                  · subst ec; exact Or.inl ((b2i_n0 _).mp c69)
                  · exact (hN1 e).2 c (by omega)⟩
                refine r_iinc (q := 101) (z := 1) (v := 1) C 2 rfl (by decide +kernel) rfl (by decide) (by decide) (by first | rfl | exact okst_rv rfl) ?_
                dsimp only [List.set]
                rw [nI_1]
                refine r_goto (off := -44) (tgt := 57) C (by decide +kernel) (by decide) ?_
                exact ih57 (i + 1) _ _ _ (by omega) (by omega) hF2 hS2 hG2 hL2 hM2 hN2
              · refine r_aload_n (q := 73) (z := 0) C 0 rfl (by decide +kernel) rfl rfl ?_
                refine r_getR (q := 76) C 7 38 486 rfl (by decide +kernel) rfl (by decide) rfl rfl wf_X7_121 win7 hm.1 ?_
                refine r_iload_n (q := 77) (z := 2) C 2 rfl (by decide +kernel) rfl rfl ?_
                refine r_zald (q := 78) C rfl (by decide +kernel) hm.k486 (vp_in_nI hlt (by decide)) ?_
                try simp only [fr_row]
                rw [nI_clamp (by omega), ai_row_ne hne, hb _ hlt]
                refine r_if_ne (q := 81) (off := 20) (tgt := 98) C rfl (by decide +kernel) (by decide) (fun c78 => ?_) (fun c78 => ?_)
                · have hF2 := hF1
                  have hS2 := hS1
                  have hG2 := hG1
                  have hL2 := hL1
                  have hM2 := hM1
                  have hN2 : more1 = false → (∀ c, c < 120 → rb1 c = rb c) ∧ ∀ c, c < i + 1 → rb1 c = true ∨ bar c = true ∨ ∀ a, a < 120 → adj c a → rb1 a = false := fun e => ⟨(hN1 e).1, fun c hc => by
                    by_cases ec : c = i
                    · subst ec; exact Or.inr (Or.inl ((b2i_n0 _).mp c78))
                    · exact (hN1 e).2 c (by omega)⟩
                  refine r_iinc (q := 101) (z := 1) (v := 1) C 2 rfl (by decide +kernel) rfl (by decide) (by decide) (by first | rfl | exact okst_rv rfl) ?_
                  dsimp only [List.set]
                  rw [nI_1]
                  refine r_goto (off := -44) (tgt := 57) C (by decide +kernel) (by decide) ?_
                  exact ih57 (i + 1) _ _ _ (by omega) (by omega) hF2 hS2 hG2 hL2 hM2 hN2
                · refine r_aload_n (q := 82) (z := 0) C 0 rfl (by decide +kernel) rfl rfl ?_
                  refine r_iload_n (q := 83) (z := 2) C 2 rfl (by decide +kernel) rfl rfl ?_
                  refine cV1I (q := 86) C R rfl (by decide +kernel) lk_X7_283 (c_X7_isBeside (rb := rb1) hm (by show Fl ((h.row _ f1).ai (h.fr 487 m)) rb1 120; rw [ai_row_eq]; exact hF1) hlt) (by decide) (by decide) (by decide) rfl (by first | exact Nat.le_of_ble_eq_true rfl | (simp only [List.map_cons, List.map_nil, List.sum_cons, List.sum_nil, rv_cat]; exact Nat.le_of_ble_eq_true rfl)) rfl hm.1 ?_
                  rintro _ _ ⟨t83, rfl, ht83, rfl⟩
                  refine r_if_eq (q := 89) (off := 12) (tgt := 98) C rfl (by decide +kernel) (by decide) (fun c86 => ?_) (fun c86 => ?_)
                  · have hF2 := hF1
                    have hS2 := hS1
                    have hG2 := hG1
                    have hL2 := hL1
                    have hM2 := hM1
                    have hN2 : more1 = false → (∀ c, c < 120 → rb1 c = rb c) ∧ ∀ c, c < i + 1 → rb1 c = true ∨ bar c = true ∨ ∀ a, a < 120 → adj c a → rb1 a = false := fun e => ⟨(hN1 e).1, fun c hc => by
                      by_cases ec : c = i
                      · subst ec; exact Or.inr (Or.inr (fun a ha hab => by cases er : rb1 a with | false => rfl | true => (have := ht83.mpr ⟨a, ha, hab, er⟩; rw [(b2i_0 _).mp c86] at this; cases this)))
                      · exact (hN1 e).2 c (by omega)⟩
                    refine r_iinc (q := 101) (z := 1) (v := 1) C 2 rfl (by decide +kernel) rfl (by decide) (by decide) (by first | rfl | exact okst_rv rfl) ?_
                    dsimp only [List.set]
                    rw [nI_1]
                    refine r_goto (off := -44) (tgt := 57) C (by decide +kernel) (by decide) ?_
                    exact ih57 (i + 1) _ _ _ (by omega) (by omega) hF2 hS2 hG2 hL2 hM2 hN2
                  · obtain ⟨a0, ha0, hab0, hra0⟩ := ht83.mp ((b2i_n0 _).mp c86)
                    have hi0 : rb1 i = false := (b2i_0 _).mp c69
                    have hbi : bar i = false := (b2i_0 _).mp c78
                    have hF2 := hF1.upd (c := i)
                    have hS2 : ∀ c, c < 120 → (rb1 c || decide (c = i)) = true → RS bar (12 * σ.gr) c := fun c hc e => by
                      by_cases ec : c = i
                      · subst ec; exact (hS1 a0 ha0 hra0).step ha0 hc (adj_symm hab0) hbi
                      · simp [ec] at e; exact hS1 c hc e
                    have hG2 : bar (12 * σ.gr) = false → (rb1 (12 * σ.gr) || decide (12 * σ.gr = i)) = true := fun e => by rw [hG1 e]; rfl
                    have hcn := cnt_add hi0 120
                    rw [if_pos hlt] at hcn
                    have hL2 : cnt rb 120 ≤ cnt (fun k => rb1 k || decide (k = i)) 120 := by omega
                    have hM2 : true = true → cnt rb 120 < cnt (fun k => rb1 k || decide (k = i)) 120 := fun _ => by omega
                    have hN2 : true = false → (∀ c, c < 120 → (rb1 c || decide (c = i)) = rb c) ∧ ∀ c, c < i + 1 → (rb1 c || decide (c = i)) = true ∨ bar c = true ∨ ∀ a, a < 120 → adj c a → (rb1 a || decide (a = i)) = false := fun e => nomatch e
                    refine r_aload_n (q := 90) (z := 0) C 0 rfl (by decide +kernel) rfl rfl ?_
                    refine r_getR (q := 93) C 7 39 487 rfl (by decide +kernel) rfl (by decide) rfl rfl wf_X7_124 win7 hm.1 ?_
                    refine r_iload_n (q := 94) (z := 2) C 2 rfl (by decide +kernel) rfl rfl ?_
                    refine r_iconst (q := 95) (z := 1) (v := 1) C rfl (by decide +kernel) (by decide) ?_
                    refine r_zast (q := 96) C rfl (by decide +kernel) (show vp_nar .boolean 1 = 1 by decide) hm.k487 (vp_in_nI hlt (by decide)) ?_
                    try simp only [fr_row]
                    rw [row_stI, nI_clamp (by omega)]
                    refine r_iconst (q := 97) (z := 1) (v := b2i true) C rfl (by decide +kernel) (by decide) ?_
                    refine r_istore_n (q := 98) (z := 1) C 1 rfl (by decide +kernel) rfl (by decide) (by first | rfl | exact okst_rv rfl) ?_
                    dsimp only [List.set]
                    refine r_iinc (q := 101) (z := 1) (v := 1) C 2 rfl (by decide +kernel) rfl (by decide) (by decide) (by first | rfl | exact okst_rv rfl) ?_
                    dsimp only [List.set]
                    rw [nI_1]
                    refine r_goto (off := -44) (tgt := 57) C (by decide +kernel) (by decide) ?_
                    exact ih57 (i + 1) _ _ _ (by omega) (by omega) hF2 hS2 hG2 hL2 hM2 hN2
        exact L57 121 0 f rb false (by omega) (by omega) hF hS hG (Nat.le_refl _) (fun e => nomatch e) (fun _ => ⟨fun _ _ => rfl, fun c hc => absurd hc (Nat.not_lt_zero c)⟩)
  refine r_iconst (q := 1) (z := 0) (v := 0) C rfl (by decide +kernel) (by decide) ?_
  refine r_istore_n (q := 2) (z := 1) C 1 rfl (by decide +kernel) rfl (by decide) (by first | rfl | exact okst_rv rfl) ?_
  dsimp only [List.set]
  have L2 : ∀ (fuel2 : Nat) (i : Nat), 120 - i < fuel2 → (i ≤ 120) → wX G Γ (qM G Γ (PV (fun h' => ∃ (f : Nat → Int32) (rb : Nat → Bool), h.row (h.fr 487 m) f = h' ∧ Fl f rb 120 ∧ ∀ c, c < 120 → (rb c = true ↔ RS bar (12 * σ.gr) c))) 0 0) 0 0 (h.row (h.fr 487 m) (mix (fun _ => 0) (h.ai (h.fr 487 m)) i)) 2 [some (rv m), some (.int (nI i)), none] [] := by
    intro fuel2
    induction fuel2 with
    | zero =>
      intro i hm2
      exact absurd hm2 (Nat.not_lt_zero _)
    | succ fuel2 ih2 =>
      intro i hm2 hi
      refine r_iload_n (q := 3) (z := 1) C 1 rfl (by decide +kernel) rfl rfl ?_
      refine r_bipush (q := 5) (z := 120) (v := 120) C rfl (by decide +kernel) (by decide) ?_
      refine r_icmp_ge (q := 8) (off := 16) (tgt := 21) C rfl (by decide +kernel) (by decide) (fun c5 => ?_) (fun c5 => ?_)
      · have ez : i = 120 := by have := (nI_leI (a := 120) (by omega) (by omega)).mp c5; omega
        subst ez
        refine r_aload_n (q := 22) (z := 0) C 0 rfl (by decide +kernel) rfl rfl ?_
        refine r_getR (q := 25) C 7 39 487 rfl (by decide +kernel) rfl (by decide) rfl rfl wf_X7_124 win7 hm.1 ?_
        refine r_aload_n (q := 26) (z := 0) C 0 rfl (by decide +kernel) rfl rfl ?_
        refine cV0I (q := 29) C R rfl (by decide +kernel) lk_X7_280 (c_X7_gateCell hm (M2 _) W) (by decide) (by decide) (by decide) rfl (by first | exact Nat.le_of_ble_eq_true rfl | (simp only [List.map_cons, List.map_nil, List.sum_cons, List.sum_nil, rv_cat]; exact Nat.le_of_ble_eq_true rfl)) rfl hm.1 ?_
        rintro _ _ ⟨rfl, rfl⟩
        refine r_aload_n (q := 30) (z := 0) C 0 rfl (by decide +kernel) rfl rfl ?_
        refine r_getR (q := 33) C 7 38 486 rfl (by decide +kernel) rfl (by decide) rfl rfl wf_X7_121 win7 hm.1 ?_
        refine r_aload_n (q := 34) (z := 0) C 0 rfl (by decide +kernel) rfl rfl ?_
        refine cV0I (q := 37) C R rfl (by decide +kernel) lk_X7_280 (c_X7_gateCell hm (M2 _) W) (by decide) (by decide) (by decide) rfl (by first | exact Nat.le_of_ble_eq_true rfl | (simp only [List.map_cons, List.map_nil, List.sum_cons, List.sum_nil, rv_cat]; exact Nat.le_of_ble_eq_true rfl)) rfl hm.1 ?_
        rintro _ _ ⟨rfl, rfl⟩
        refine r_zald (q := 38) C rfl (by decide +kernel) hm.k486 (vp_in_nI (by omega) (by decide)) ?_
        try simp only [fr_row]
        rw [nI_clamp (by omega), ai_row_ne hne, hb _ (by omega)]
        refine r_if_ne (q := 41) (off := 7) (tgt := 45) C rfl (by decide +kernel) (by decide) (fun c38 => ?_) (fun c38 => ?_)
        · have cb : bar (12 * σ.gr) = true := (b2i_n0 _).mp c38
          refine r_iconst (q := 46) (z := 0) (v := b2i (!bar (12 * σ.gr))) C rfl (by decide +kernel) (by rw [cb]; decide) ?_
          refine r_zast (q := 47) C rfl (by decide +kernel) (by first | exact b2i_vn _ | rfl) hm.k487 (vp_in_nI (by omega) (by decide)) ?_
          try simp only [fr_row]
          rw [row_stI, nI_clamp (by omega)]
          obtain ⟨rbS, hFS, hSS, hGS⟩ : ∃ rbS : Nat → Bool, Fl (upd (mix (fun _ => 0) (h.ai (h.fr 487 m)) 120) (12 * σ.gr) (b2i (!bar (12 * σ.gr)))) rbS 120 ∧ (∀ c, c < 120 → rbS c = true → RS bar (12 * σ.gr) c) ∧ (bar (12 * σ.gr) = false → rbS (12 * σ.gr) = true) := by
            refine ⟨fun c => decide (c = 12 * σ.gr) && !bar (12 * σ.gr), fun c hc => ?_, fun c hc e => ?_, fun e => by simp [e]⟩
            · show (if c = 12 * σ.gr then _ else mix (fun _ => 0) (h.ai (h.fr 487 m)) 120 c) = _
              rw [mix_in hc]
              by_cases e : c = 12 * σ.gr
              · simp [e]
              · simp [e, b2i]
            · simp only [Bool.and_eq_true, decide_eq_true_eq, Bool.not_eq_true'] at e
              rw [e.1]; exact RS.gate e.2
          refine r_iconst (q := 48) (z := 1) (v := b2i true) C rfl (by decide +kernel) (by decide) ?_
          refine r_istore_n (q := 49) (z := 1) C 1 rfl (by decide +kernel) rfl (by decide) (by first | rfl | exact okst_rv rfl) ?_
          dsimp only [List.set]
          exact wX.sub (lsub_s (lsub_s (lsub_n (lsub_nil)))) (L49 (2 * (120 - cnt rbS 120) + 1 + 1) _ rbS true (by simp) hFS hSS hGS (fun e => nomatch e))
        · have cb : bar (12 * σ.gr) = false := (b2i_0 _).mp c38
          refine r_iconst (q := 42) (z := 1) (v := b2i (!bar (12 * σ.gr))) C rfl (by decide +kernel) (by rw [cb]; decide) ?_
          refine r_goto (off := 4) (tgt := 46) C (by decide +kernel) (by decide) ?_
          refine r_zast (q := 47) C rfl (by decide +kernel) (by first | exact b2i_vn _ | rfl) hm.k487 (vp_in_nI (by omega) (by decide)) ?_
          try simp only [fr_row]
          rw [row_stI, nI_clamp (by omega)]
          obtain ⟨rbS, hFS, hSS, hGS⟩ : ∃ rbS : Nat → Bool, Fl (upd (mix (fun _ => 0) (h.ai (h.fr 487 m)) 120) (12 * σ.gr) (b2i (!bar (12 * σ.gr)))) rbS 120 ∧ (∀ c, c < 120 → rbS c = true → RS bar (12 * σ.gr) c) ∧ (bar (12 * σ.gr) = false → rbS (12 * σ.gr) = true) := by
            refine ⟨fun c => decide (c = 12 * σ.gr) && !bar (12 * σ.gr), fun c hc => ?_, fun c hc e => ?_, fun e => by simp [e]⟩
            · show (if c = 12 * σ.gr then _ else mix (fun _ => 0) (h.ai (h.fr 487 m)) 120 c) = _
              rw [mix_in hc]
              by_cases e : c = 12 * σ.gr
              · simp [e]
              · simp [e, b2i]
            · simp only [Bool.and_eq_true, decide_eq_true_eq, Bool.not_eq_true'] at e
              rw [e.1]; exact RS.gate e.2
          refine r_iconst (q := 48) (z := 1) (v := b2i true) C rfl (by decide +kernel) (by decide) ?_
          refine r_istore_n (q := 49) (z := 1) C 1 rfl (by decide +kernel) rfl (by decide) (by first | rfl | exact okst_rv rfl) ?_
          dsimp only [List.set]
          exact wX.sub (lsub_s (lsub_s (lsub_n (lsub_nil)))) (L49 (2 * (120 - cnt rbS 120) + 1 + 1) _ rbS true (by simp) hFS hSS hGS (fun e => nomatch e))
      · have hlt : i < 120 := Nat.lt_of_not_le (fun e => c5 (nI_le (a := 120) e (by omega)))
        refine r_aload_n (q := 9) (z := 0) C 0 rfl (by decide +kernel) rfl rfl ?_
        refine r_getR (q := 12) C 7 39 487 rfl (by decide +kernel) rfl (by decide) rfl rfl wf_X7_124 win7 hm.1 ?_
        refine r_iload_n (q := 13) (z := 1) C 1 rfl (by decide +kernel) rfl rfl ?_
        refine r_iconst (q := 14) (z := 0) (v := 0) C rfl (by decide +kernel) (by decide) ?_
        refine r_zast (q := 15) C rfl (by decide +kernel) (show vp_nar .boolean 0 = 0 by decide) hm.k487 (vp_in_nI hlt (by decide)) ?_
        try simp only [fr_row]
        rw [row_stI, nI_clamp (by omega), mix_s (fun _ => 0)]
        refine r_iinc (q := 18) (z := 1) (v := 1) C 1 rfl (by decide +kernel) rfl (by decide) (by decide) (by first | rfl | exact okst_rv rfl) ?_
        dsimp only [List.set]
        rw [nI_1]
        refine r_goto (off := -16) (tgt := 2) C (by decide +kernel) (by decide) ?_
        exact wX.sub (lsub_s (lsub_s (lsub_n (lsub_nil)))) (ih2 (i + 1) (by omega) (by omega))
  have z0 := L2 121 0 (by omega) (by omega)
  rw [mix_0, row_self] at z0
  exact z0
theorem c_X7_barsAll {G : GT} {h : HP} {m : Nat} {σ : SG}  (hm : LM h.kd h.gl h.fr m) (M : MR σ h m) (W : WF σ) : Con G 6 0 0 yX7_barsAll cX7_barsAll 2 none [rv m] h (PV (fun h' => h.row (h.fr 486 m) (mix (fun c => b2i (!σ.fre c)) (h.ai (h.fr 486 m)) 120) = h')) := by
  refine Con.of (lv := [some (rv m), none]) (by decide) (by simp only [lvE_r, lvE_i, lvE_l, lvE_s, lvE_0]; rfl) (by simp only [lgl_r, lgl_i, lgl_l, lgl_s, lgl_0]; decide) (fun Γ C R => ?_)
  refine r_iconst (q := 1) (z := 0) (v := 0) C rfl (by decide +kernel) (by decide) ?_
  refine r_istore_n (q := 2) (z := 1) C 1 rfl (by decide +kernel) rfl (by decide) (by first | rfl | exact okst_rv rfl) ?_
  dsimp only [List.set]
  have L2 : ∀ (fuel2 : Nat) (i : Nat), 120 - i < fuel2 → (i ≤ 120) → wX G Γ (qM G Γ (PV (fun h' => h.row (h.fr 486 m) (mix (fun c => b2i (!σ.fre c)) (h.ai (h.fr 486 m)) 120) = h')) 0 0) 0 0 (h.row (h.fr 486 m) (mix (fun c => b2i (!σ.fre c)) (h.ai (h.fr 486 m)) i)) 2 [some (rv m), some (.int (nI i))] [] := by
    intro fuel2
    induction fuel2 with
    | zero =>
      intro i hm2
      exact absurd hm2 (Nat.not_lt_zero _)
    | succ fuel2 ih2 =>
      intro i hm2 hi
      refine r_iload_n (q := 3) (z := 1) C 1 rfl (by decide +kernel) rfl rfl ?_
      refine r_bipush (q := 5) (z := 120) (v := 120) C rfl (by decide +kernel) (by decide) ?_
      refine r_icmp_ge (q := 8) (off := 28) (tgt := 33) C rfl (by decide +kernel) (by decide) (fun c5 => ?_) (fun c5 => ?_)
      · have ez : i = 120 := by have := (nI_leI (a := 120) (by omega) (by omega)).mp c5; omega
        subst ez
        exact r_ret C (by decide +kernel) rfl (by decide) (by decide) ⟨rfl, rfl⟩
      · have hlt : i < 120 := Nat.lt_of_not_le (fun e => c5 (nI_le (a := 120) e (by omega)))
        refine r_aload_n (q := 9) (z := 0) C 0 rfl (by decide +kernel) rfl rfl ?_
        refine r_getR (q := 12) C 7 38 486 rfl (by decide +kernel) rfl (by decide) rfl rfl wf_X7_121 win7 hm.1 ?_
        refine r_iload_n (q := 13) (z := 1) C 1 rfl (by decide +kernel) rfl rfl ?_
        refine r_aload_n (q := 14) (z := 0) C 0 rfl (by decide +kernel) rfl rfl ?_
        refine r_iload_n (q := 15) (z := 1) C 1 rfl (by decide +kernel) rfl rfl ?_
        refine cV1I (q := 18) C R rfl (by decide +kernel) lk_X7_286 (c_X7_isFree hm (M.row hm (by rw [hm.g486]; decide)) W hlt) (by decide) (by decide) (by decide) rfl (by first | exact Nat.le_of_ble_eq_true rfl | (simp only [List.map_cons, List.map_nil, List.sum_cons, List.sum_nil, rv_cat]; exact Nat.le_of_ble_eq_true rfl)) rfl hm.1 ?_
        rintro _ _ ⟨rfl, rfl⟩
        refine r_if_ne (q := 21) (off := 7) (tgt := 25) C rfl (by decide +kernel) (by decide) (fun c18 => ?_) (fun c18 => ?_)
        · have e18 : (0 : Int32) = (fun c => b2i (!σ.fre c)) i := by simp [(b2i_n0 _).mp c18, b2i]
          refine r_iconst (q := 26) (z := 0) (v := 0) C rfl (by decide +kernel) (by decide) ?_
          refine r_zast (q := 27) C rfl (by decide +kernel) (by first | exact (show vp_nar .boolean 0 = 0 by decide) | exact (show vp_nar .boolean 1 = 1 by decide)) hm.k486 (vp_in_nI hlt (by decide)) ?_
          try simp only [fr_row]
          rw [row_stI, nI_clamp (by omega), e18, mix_s (fun c => b2i (!σ.fre c))]
          refine r_iinc (q := 30) (z := 1) (v := 1) C 1 rfl (by decide +kernel) rfl (by decide) (by decide) (by first | rfl | exact okst_rv rfl) ?_
          dsimp only [List.set]
          rw [nI_1]
          refine r_goto (off := -28) (tgt := 2) C (by decide +kernel) (by decide) ?_
          exact ih2 (i + 1) (by omega) (by omega)
        · have e18 : (1 : Int32) = (fun c => b2i (!σ.fre c)) i := by simp [(b2i_0 _).mp c18, b2i]
          refine r_iconst (q := 22) (z := 1) (v := 1) C rfl (by decide +kernel) (by decide) ?_
          refine r_goto (off := 4) (tgt := 26) C (by decide +kernel) (by decide) ?_
          refine r_zast (q := 27) C rfl (by decide +kernel) (by first | exact (show vp_nar .boolean 0 = 0 by decide) | exact (show vp_nar .boolean 1 = 1 by decide)) hm.k486 (vp_in_nI hlt (by decide)) ?_
          try simp only [fr_row]
          rw [row_stI, nI_clamp (by omega), e18, mix_s (fun c => b2i (!σ.fre c))]
          refine r_iinc (q := 30) (z := 1) (v := 1) C 1 rfl (by decide +kernel) rfl (by decide) (by decide) (by first | rfl | exact okst_rv rfl) ?_
          dsimp only [List.set]
          rw [nI_1]
          refine r_goto (off := -28) (tgt := 2) C (by decide +kernel) (by decide) ?_
          exact ih2 (i + 1) (by omega) (by omega)
  have z0 := L2 121 0 (by omega) (by omega)
  rw [mix_0, row_self] at z0
  exact z0
theorem c_X7_areDoorsJoined {G : GT} {h : HP} {m : Nat} {σ : SG} {bar : Nat → Bool} (hm : LM h.kd h.gl h.fr m) (M : MR σ h m) (W : WF σ) (hb : Fl (h.ai (h.fr 486 m)) bar 120) : Con G 4 0 0 yX7_areDoorsJoined cX7_areDoorsJoined 3 (some .boolean) [rv m] h (PI (fun v h' => ∃ (f : Nat → Int32) (rb : Nat → Bool) (t : Bool), b2i t = v ∧ h.row (h.fr 487 m) f = h' ∧ Fl f rb 120 ∧ (∀ c, c < 120 → (rb c = true ↔ RS bar (12 * σ.gr) c)) ∧ (t = true ↔ ∀ q, q < σ.n → σ.li q < 240 → rb (σ.dr q) = true))) := by
  refine Con.of (lv := [some (rv m), none, none]) (by decide) (by simp only [lvE_r, lvE_i, lvE_l, lvE_s, lvE_0]; rfl) (by simp only [lgl_r, lgl_i, lgl_l, lgl_s, lgl_0]; decide) (fun Γ C R => ?_)
  have r10 := W.n10
  have M2 : ∀ f, MR σ (h.row (h.fr 487 m) f) m := fun f => M.row hm (by rw [hm.g487]; decide)
  refine r_aload_n (q := 1) (z := 0) C 0 rfl (by decide +kernel) rfl rfl ?_
  refine cV0V (q := 4) C R rfl (by decide +kernel) lk_X7_289 (c_X7_reaches (bar := bar) hm M W hb) (by decide) (by decide) (by decide) rfl (by first | exact Nat.le_of_ble_eq_true rfl | (simp only [List.map_cons, List.map_nil, List.sum_cons, List.sum_nil, rv_cat]; exact Nat.le_of_ble_eq_true rfl)) rfl hm.1 ?_
  rintro _ ⟨f1, rb1, rfl, hF1, hR1⟩
  refine r_iconst (q := 5) (z := 1) (v := b2i true) C rfl (by decide +kernel) (by decide) ?_
  refine r_istore_n (q := 6) (z := 1) C 1 rfl (by decide +kernel) rfl (by decide) (by first | rfl | exact okst_rv rfl) ?_
  dsimp only [List.set]
  refine r_iconst (q := 7) (z := 0) (v := 0) C rfl (by decide +kernel) (by decide) ?_
  refine r_istore_n (q := 8) (z := 2) C 2 rfl (by decide +kernel) rfl (by decide) (by first | rfl | exact okst_rv rfl) ?_
  dsimp only [List.set]
  have L8 : ∀ (fuel8 : Nat) (k : Nat) (t : Bool), σ.n - k < fuel8 → (k ≤ σ.n) → (t = true ↔ ∀ q, q < k → σ.li q < 240 → rb1 (σ.dr q) = true) → wX G Γ (qM G Γ (PI (fun v h' => ∃ (f : Nat → Int32) (rb : Nat → Bool) (t : Bool), b2i t = v ∧ h.row (h.fr 487 m) f = h' ∧ Fl f rb 120 ∧ (∀ c, c < 120 → (rb c = true ↔ RS bar (12 * σ.gr) c)) ∧ (t = true ↔ ∀ q, q < σ.n → σ.li q < 240 → rb (σ.dr q) = true))) 0 0) 0 0 (h.row (h.fr 487 m) f1) 8 [some (rv m), some (.int (b2i t)), some (.int (nI k))] [] := by
    intro fuel8
    induction fuel8 with
    | zero =>
      intro k t hm8
      exact absurd hm8 (Nat.not_lt_zero _)
    | succ fuel8 ih8 =>
      intro k t hm8 hk ht
      refine r_iload_n (q := 9) (z := 2) C 2 rfl (by decide +kernel) rfl rfl ?_
      refine r_aload_n (q := 10) (z := 0) C 0 rfl (by decide +kernel) rfl rfl ?_
      refine r_getI (q := 13) C 7 24 472 rfl (by decide +kernel) rfl (by decide) rfl rfl wf_X7_243 win7 hm.1 ?_
      rw [(M2 _).fn]
      refine r_icmp_ge (q := 16) (off := 41) (tgt := 54) C rfl (by decide +kernel) (by decide) (fun c13 => ?_) (fun c13 => ?_)
      · have ek : k = σ.n := by have := (nI_leI (by omega) (by omega)).mp c13; omega
        subst ek
        refine r_iload_n (q := 55) (z := 1) C 1 rfl (by decide +kernel) rfl rfl ?_
        exact r_zret C (by decide +kernel) rfl (by first | decide | exact b2i_nar _) (by decide) (by decide) ⟨_, rfl, ⟨f1, rb1, t, rfl, rfl, hF1, hR1, ht⟩⟩
      · have hlt : k < σ.n := Nat.lt_of_not_le (fun e => c13 (nI_le e (by omega)))
        refine r_iload_n (q := 17) (z := 1) C 1 rfl (by decide +kernel) rfl rfl ?_
        refine r_if_eq (q := 20) (off := 29) (tgt := 46) C rfl (by decide +kernel) (by decide) (fun c17 => ?_) (fun c17 => ?_)
        · have ht2 : false = true ↔ ∀ q, q < k + 1 → σ.li q < 240 → rb1 (σ.dr q) = true := ⟨(fun e => nomatch e), fun e => by rw [(b2i_0 _).mp c17] at ht; exact absurd (ht.mpr fun q hq => e q (by omega)) (by decide)⟩
          refine r_iconst (q := 47) (z := 0) (v := b2i false) C rfl (by decide +kernel) (by decide) ?_
          refine r_istore_n (q := 48) (z := 1) C 1 rfl (by decide +kernel) rfl (by decide) (by first | rfl | exact okst_rv rfl) ?_
          dsimp only [List.set]
          refine r_iinc (q := 51) (z := 1) (v := 1) C 2 rfl (by decide +kernel) rfl (by decide) (by decide) (by first | rfl | exact okst_rv rfl) ?_
          dsimp only [List.set]
          rw [nI_1]
          refine r_goto (off := -43) (tgt := 8) C (by decide +kernel) (by decide) ?_
          exact ih8 (k + 1) _ (by omega) (by omega) ht2
        · refine r_aload_n (q := 21) (z := 0) C 0 rfl (by decide +kernel) rfl rfl ?_
          refine r_getR (q := 24) C 7 30 478 rfl (by decide +kernel) rfl (by decide) rfl rfl wf_X7_103 win7 hm.1 ?_
          refine r_iload_n (q := 25) (z := 2) C 2 rfl (by decide +kernel) rfl rfl ?_
          refine r_iald (q := 26) C rfl (by decide +kernel) hm.k478 (vp_in_nI (by omega) (by decide)) ?_
          rw [nI_clamp (by omega), (M2 _).ali (by omega)]
          refine r_if_lt (q := 29) (off := 16) (tgt := 42) C rfl (by decide +kernel) (by decide) (fun c26 => ?_) (fun c26 => ?_)
          · rw [(b2i_n0 _).mp c17] at ht
            have ht2 : true = true ↔ ∀ q, q < k + 1 → σ.li q < 240 → rb1 (σ.dr q) = true := ⟨fun _ q hq hl => by
              by_cases e : q = k
              · subst e; exact absurd hl (pl_neg.mp c26)
              · exact ht.mp rfl q (by omega) hl, fun _ => rfl⟩
            refine r_iconst (q := 43) (z := 1) (v := b2i true) C rfl (by decide +kernel) (by decide) ?_
            refine r_goto (off := 4) (tgt := 47) C (by decide +kernel) (by decide) ?_
            refine r_istore_n (q := 48) (z := 1) C 1 rfl (by decide +kernel) rfl (by decide) (by first | rfl | exact okst_rv rfl) ?_
            dsimp only [List.set]
            refine r_iinc (q := 51) (z := 1) (v := 1) C 2 rfl (by decide +kernel) rfl (by decide) (by decide) (by first | rfl | exact okst_rv rfl) ?_
            dsimp only [List.set]
            rw [nI_1]
            refine r_goto (off := -43) (tgt := 8) C (by decide +kernel) (by decide) ?_
            exact ih8 (k + 1) _ (by omega) (by omega) ht2
          · refine r_aload_n (q := 30) (z := 0) C 0 rfl (by decide +kernel) rfl rfl ?_
            refine r_getR (q := 33) C 7 39 487 rfl (by decide +kernel) rfl (by decide) rfl rfl wf_X7_124 win7 hm.1 ?_
            refine r_aload_n (q := 34) (z := 0) C 0 rfl (by decide +kernel) rfl rfl ?_
            refine r_iload_n (q := 35) (z := 2) C 2 rfl (by decide +kernel) rfl rfl ?_
            refine cV1I (q := 38) C R rfl (by decide +kernel) lk_X7_292 (c_X7_door hm (M2 _) W hlt) (by decide) (by decide) (by decide) rfl (by first | exact Nat.le_of_ble_eq_true rfl | (simp only [List.map_cons, List.map_nil, List.sum_cons, List.sum_nil, rv_cat]; exact Nat.le_of_ble_eq_true rfl)) rfl hm.1 ?_
            rintro _ _ ⟨rfl, rfl⟩
            rw [if_pos (pl_nn.mp c26)]
            refine r_zald (q := 39) C rfl (by decide +kernel) hm.k487 (vp_in_nI (W.dr hlt (pl_nn.mp c26)) (by decide)) ?_
            try simp only [fr_row]
            rw [nI_clamp (by have := W.dr hlt (pl_nn.mp c26); omega), ai_row_eq, hF1 _ (W.dr hlt (pl_nn.mp c26))]
            refine r_if_eq (q := 42) (off := 7) (tgt := 46) C rfl (by decide +kernel) (by decide) (fun c39 => ?_) (fun c39 => ?_)
            · have ht2 : false = true ↔ ∀ q, q < k + 1 → σ.li q < 240 → rb1 (σ.dr q) = true := ⟨(fun e => nomatch e), fun e => by have := e k (by omega) (pl_nn.mp c26); rw [(b2i_0 _).mp c39] at this; exact this⟩
              refine r_iconst (q := 47) (z := 0) (v := b2i false) C rfl (by decide +kernel) (by decide) ?_
              refine r_istore_n (q := 48) (z := 1) C 1 rfl (by decide +kernel) rfl (by decide) (by first | rfl | exact okst_rv rfl) ?_
              dsimp only [List.set]
              refine r_iinc (q := 51) (z := 1) (v := 1) C 2 rfl (by decide +kernel) rfl (by decide) (by decide) (by first | rfl | exact okst_rv rfl) ?_
              dsimp only [List.set]
              rw [nI_1]
              refine r_goto (off := -43) (tgt := 8) C (by decide +kernel) (by decide) ?_
              exact ih8 (k + 1) _ (by omega) (by omega) ht2
            · rw [(b2i_n0 _).mp c17] at ht
              have ht2 : true = true ↔ ∀ q, q < k + 1 → σ.li q < 240 → rb1 (σ.dr q) = true := ⟨fun _ q hq hl => by
                by_cases e : q = k
                · subst e; exact (b2i_n0 _).mp c39
                · exact ht.mp rfl q (by omega) hl, fun _ => rfl⟩
              refine r_iconst (q := 43) (z := 1) (v := b2i true) C rfl (by decide +kernel) (by decide) ?_
              refine r_goto (off := 4) (tgt := 47) C (by decide +kernel) (by decide) ?_
              refine r_istore_n (q := 48) (z := 1) C 1 rfl (by decide +kernel) rfl (by decide) (by first | rfl | exact okst_rv rfl) ?_
              dsimp only [List.set]
              refine r_iinc (q := 51) (z := 1) (v := 1) C 2 rfl (by decide +kernel) rfl (by decide) (by decide) (by first | rfl | exact okst_rv rfl) ?_
              dsimp only [List.set]
              rw [nI_1]
              refine r_goto (off := -43) (tgt := 8) C (by decide +kernel) (by decide) ?_
              exact ih8 (k + 1) _ (by omega) (by omega) ht2
  exact L8 (σ.n + 1) 0 true (by omega) (by omega) ⟨fun _ q hq => absurd hq (Nat.not_lt_zero q), fun _ => rfl⟩
end
section
theorem sub3 {a b c : Nat} (ha : a < 1000) (hb : b < 1000) (hc : c < 1000) : (nI a - nI b - nI c).toInt = (a : Int) - b - c := by
  rw [Int32.toInt_sub, pk_sub_toInt (by omega) (by omega), nI_toInt (by omega)]
  simp only [Int.bmod]; omega
def SG.quiet (σ : SG) (r p q : Nat) : Prop := σ.ns r + σ.ns q < 10 ∨ px p + σ.wA r p + 2 ≤ px (σ.li q) ∨ px (σ.li q) + σ.wA q (σ.li q) + 2 ≤ px p ∨ py p + σ.hA r p + 2 ≤ py (σ.li q) ∨ py (σ.li q) + σ.hA q (σ.li q) + 2 ≤ py p
def SG.room (σ : SG) (r p : Nat) : Prop := σ.onG r p ∧ σ.fre (σ.dA r p) = true ∧ σ.cA r p (12 * σ.gr) = false ∧ (∀ c, c < 120 → σ.cA r p c = true → σ.fre c = true) ∧ ∀ q, q < σ.n → σ.li q < 240 → σ.cA r p (σ.dr q) = false ∧ σ.quiet r p q
def SG.bar (σ : SG) (r p c : Nat) : Bool := !σ.fre c || σ.cA r p c
/-- FITS -/
def SG.fit (σ : SG) (r p : Nat) : Prop := σ.room r p ∧ (∀ q, q < σ.n → σ.li q < 240 → RS (σ.bar r p) (12 * σ.gr) (σ.dr q)) ∧ RS (σ.bar r p) (12 * σ.gr) (σ.dA r p)
/-- the model's two rows for the search -/
def scr (h : HP) (m : Nat) (f g : Nat → Int32) : HP := (h.row (h.fr 486 m) f).row (h.fr 487 m) g
theorem scr_self {h : HP} {m : Nat} : scr h m (h.ai (h.fr 486 m)) (h.ai (h.fr 487 m)) = h := by unfold scr; rw [row_self, row_self]
theorem scr_scr {h : HP} {m : Nat} {f g f' g' : Nat → Int32} (hm : LM h.kd h.gl h.fr m) : scr (scr h m f g) m f' g' = scr h m f' g' := by
  show ((((h.row (h.fr 486 m) f).row (h.fr 487 m) g).row (h.fr 486 m) f').row (h.fr 487 m) g') = _
  rw [row_comm (gl_ne hm.g487 hm.g486 (by decide)), row_row, row_row]; rfl
theorem MR.scr {σ : SG} {h : HP} {m : Nat} {f g : Nat → Int32} (hm : LM h.kd h.gl h.fr m) (M : MR σ h m) : MR σ (scr h m f g) m :=
  MR.row (h := h.row (h.fr 486 m) f) hm (M.row hm (by rw [hm.g486]; decide)) (by rw [gl_row, hm.g487]; decide)
theorem placeOf_nI {a b : Nat} (t : Bool) : (2 : Int32) * (12 * nI b + nI a) + (if t then 1 else 0) = nI (2 * (12 * b + a) + (if t then 1 else 0)) := by
  rw [cIx, show (2 : Int32) = nI 2 from rfl, pk_mul]
  cases t
  · exact nI_add _ 0
  · exact nI_add _ 1

theorem c_X7_isOn {G : GT} {h : HP} {m : Nat} {σ : SG} {r p : Nat} (hm : LM h.kd h.gl h.fr m) (M : MR σ h m) (W : WF σ) (hr : r < σ.n) (hp : p < 240) : Con G 2 0 0 yX7_isOn cX7_isOn 5 (some .boolean) [rv m, .int (nI r), .int (nI p)] h (PI (fun v h' => ∃ t : Bool, b2i t = v ∧ (t = true ↔ σ.onG r p) ∧ h = h')) := by
  refine Con.of (lv := [some (rv m), some (.int (nI r)), some (.int (nI p)), none, none]) (by decide) (by simp only [lvE_r, lvE_i, lvE_l, lvE_s, lvE_0]; rfl) (by simp only [lgl_r, lgl_i, lgl_l, lgl_s, lgl_0]; decide) (fun Γ C R => ?_)
  have r10 := W.n10
  have q1 := W.wA hr p
  have q2 := W.hA hr p
  have q3 := px_lt (p := p)
  have q4 := py_lt hp
  refine r_iload_n (q := 1) (z := 2) C 2 rfl (by decide +kernel) rfl rfl ?_
  refine cS1I (q := 4) C R rfl (by decide +kernel) lk_X7_246 (c_X7_placeX hp) (by decide) (by decide) (by decide) rfl (by first | exact Nat.le_of_ble_eq_true rfl | (simp only [List.map_cons, List.map_nil, List.sum_cons, List.sum_nil, rv_cat]; exact Nat.le_of_ble_eq_true rfl))  ?_
  rintro _ _ ⟨rfl, rfl⟩
  refine r_istore_n (q := 5) (z := 3) C 3 rfl (by decide +kernel) rfl (by decide) (by first | rfl | exact okst_rv rfl) ?_
  dsimp only [List.set]
  refine r_iload_n (q := 6) (z := 2) C 2 rfl (by decide +kernel) rfl rfl ?_
  refine cS1I (q := 9) C R rfl (by decide +kernel) lk_X7_249 (c_X7_placeY hp) (by decide) (by decide) (by decide) rfl (by first | exact Nat.le_of_ble_eq_true rfl | (simp only [List.map_cons, List.map_nil, List.sum_cons, List.sum_nil, rv_cat]; exact Nat.le_of_ble_eq_true rfl))  ?_
  rintro _ _ ⟨rfl, rfl⟩
  refine r_istore (q := 11) C 4 rfl (by decide +kernel) (by decide) (by first | rfl | exact okst_rv rfl) ?_
  dsimp only [List.set]
  refine r_iload_n (q := 12) (z := 3) C 3 rfl (by decide +kernel) rfl rfl ?_
  refine r_aload_n (q := 13) (z := 0) C 0 rfl (by decide +kernel) rfl rfl ?_
  refine r_iload_n (q := 14) (z := 1) C 1 rfl (by decide +kernel) rfl rfl ?_
  refine r_iload_n (q := 15) (z := 2) C 2 rfl (by decide +kernel) rfl rfl ?_
  refine cV2I (q := 18) C R rfl (by decide +kernel) lk_X7_252 (c_X7_widthAt hm M (by omega) hp) (by decide) (by decide) (by decide) rfl (by first | exact Nat.le_of_ble_eq_true rfl | (simp only [List.map_cons, List.map_nil, List.sum_cons, List.sum_nil, rv_cat]; exact Nat.le_of_ble_eq_true rfl)) rfl hm.1 ?_
  rintro _ _ ⟨rfl, rfl⟩
  refine r_iadd (q := 19) C rfl (by decide +kernel) ?_
  rw [nI_add]
  refine r_bipush (q := 21) (z := 12) (v := 12) C rfl (by decide +kernel) (by decide) ?_
  refine r_icmp_gt (q := 24) (off := 21) (tgt := 42) C rfl (by decide +kernel) (by decide) (fun c21 => ?_) (fun c21 => ?_)
  · rw [show (12 : Int32) = nI 12 from rfl, nI_ltI (by omega) (by omega)] at c21
    refine r_iconst (q := 43) (z := 0) (v := 0) C rfl (by decide +kernel) (by decide) ?_
    exact r_zret C (by decide +kernel) rfl (by first | decide | exact b2i_nar _) (by decide) (by decide) ⟨_, rfl, (by first | exact ⟨true, rfl, ⟨fun _ => ⟨by omega, by omega⟩, fun _ => rfl⟩, rfl⟩ | exact ⟨false, rfl, ⟨(fun e => nomatch e), fun e => by unfold SG.onG at e; omega⟩, rfl⟩)⟩
  · rw [show (12 : Int32) = nI 12 from rfl, nI_ltI (by omega) (by omega)] at c21
    refine r_iload (q := 26) C 4 rfl (by decide +kernel) rfl ?_
    refine r_aload_n (q := 27) (z := 0) C 0 rfl (by decide +kernel) rfl rfl ?_
    refine r_iload_n (q := 28) (z := 1) C 1 rfl (by decide +kernel) rfl rfl ?_
    refine r_iload_n (q := 29) (z := 2) C 2 rfl (by decide +kernel) rfl rfl ?_
    refine cV2I (q := 32) C R rfl (by decide +kernel) lk_X7_256 (c_X7_heightAt hm M (by omega) hp) (by decide) (by decide) (by decide) rfl (by first | exact Nat.le_of_ble_eq_true rfl | (simp only [List.map_cons, List.map_nil, List.sum_cons, List.sum_nil, rv_cat]; exact Nat.le_of_ble_eq_true rfl)) rfl hm.1 ?_
    rintro _ _ ⟨rfl, rfl⟩
    refine r_iadd (q := 33) C rfl (by decide +kernel) ?_
    rw [nI_add]
    refine r_bipush (q := 35) (z := 10) (v := 10) C rfl (by decide +kernel) (by decide) ?_
    refine r_icmp_ge (q := 38) (off := 7) (tgt := 42) C rfl (by decide +kernel) (by decide) (fun c35 => ?_) (fun c35 => ?_)
    · rw [show (10 : Int32) = nI 10 from rfl, nI_leI (by omega) (by omega)] at c35
      refine r_iconst (q := 43) (z := 0) (v := 0) C rfl (by decide +kernel) (by decide) ?_
      exact r_zret C (by decide +kernel) rfl (by first | decide | exact b2i_nar _) (by decide) (by decide) ⟨_, rfl, (by first | exact ⟨true, rfl, ⟨fun _ => ⟨by omega, by omega⟩, fun _ => rfl⟩, rfl⟩ | exact ⟨false, rfl, ⟨(fun e => nomatch e), fun e => by unfold SG.onG at e; omega⟩, rfl⟩)⟩
    · rw [show (10 : Int32) = nI 10 from rfl, nI_leI (by omega) (by omega)] at c35
      refine r_iconst (q := 39) (z := 1) (v := 1) C rfl (by decide +kernel) (by decide) ?_
      refine r_goto (off := 4) (tgt := 43) C (by decide +kernel) (by decide) ?_
      exact r_zret C (by decide +kernel) rfl (by first | decide | exact b2i_nar _) (by decide) (by decide) ⟨_, rfl, (by first | exact ⟨true, rfl, ⟨fun _ => ⟨by omega, by omega⟩, fun _ => rfl⟩, rfl⟩ | exact ⟨false, rfl, ⟨(fun e => nomatch e), fun e => by unfold SG.onG at e; omega⟩, rfl⟩)⟩
theorem c_X7_isQuiet {G : GT} {h : HP} {m : Nat} {σ : SG} {r p q : Nat} (hm : LM h.kd h.gl h.fr m) (M : MR σ h m) (W : WF σ) (hr : r < σ.n) (hp : p < 240) (hq0 : q < σ.n) (hl : σ.li q < 240) : Con G 2 0 0 yX7_isQuiet cX7_isQuiet 10 (some .boolean) [rv m, .int (nI r), .int (nI p), .int (nI q)] h (PI (fun v h' => ∃ t : Bool, b2i t = v ∧ (t = true ↔ σ.quiet r p q) ∧ h = h')) := by
  refine Con.of (lv := [some (rv m), some (.int (nI r)), some (.int (nI p)), some (.int (nI q)), none, none, none, none, none, none]) (by decide) (by simp only [lvE_r, lvE_i, lvE_l, lvE_s, lvE_0]; rfl) (by simp only [lgl_r, lgl_i, lgl_l, lgl_s, lgl_0]; decide) (fun Γ C R => ?_)
  have r10 := W.n10
  have q1 := W.wA hr p
  have q2 := W.hA hr p
  have q3 := px_lt (p := p)
  have q4 := py_lt hp
  have q5 := W.wA hq0 (σ.li q)
  have q6 := W.hA hq0 (σ.li q)
  have q7 := px_lt (p := σ.li q)
  have q8 := py_lt hl
  have n1 := (W.2.2.1 r hr).2.2.2.2.2.1
  have n2 := (W.2.2.1 q hq0).2.2.2.2.2.1
  refine r_aload_n (q := 1) (z := 0) C 0 rfl (by decide +kernel) rfl rfl ?_
  refine r_getR (q := 4) C 7 28 476 rfl (by decide +kernel) rfl (by decide) rfl rfl wf_X7_97 win7 hm.1 ?_
  refine r_iload_n (q := 5) (z := 1) C 1 rfl (by decide +kernel) rfl rfl ?_
  refine r_iald (q := 6) C rfl (by decide +kernel) hm.k476 (vp_in_nI (by omega) (by decide)) ?_
  rw [nI_clamp (by omega), M.ans (by omega)]
  refine r_aload_n (q := 7) (z := 0) C 0 rfl (by decide +kernel) rfl rfl ?_
  refine r_getR (q := 10) C 7 28 476 rfl (by decide +kernel) rfl (by decide) rfl rfl wf_X7_97 win7 hm.1 ?_
  refine r_iload_n (q := 11) (z := 3) C 3 rfl (by decide +kernel) rfl rfl ?_
  refine r_iald (q := 12) C rfl (by decide +kernel) hm.k476 (vp_in_nI (by omega) (by decide)) ?_
  rw [nI_clamp (by omega), M.ans (by omega)]
  refine r_iadd (q := 13) C rfl (by decide +kernel) ?_
  rw [nI_add]
  refine r_bipush (q := 15) (z := 10) (v := 10) C rfl (by decide +kernel) (by decide) ?_
  refine r_icmp_ge (q := 18) (off := 5) (tgt := 20) C rfl (by decide +kernel) (by decide) (fun c15 => ?_) (fun c15 => ?_)
  · rw [show (10 : Int32) = nI 10 from rfl, nI_leI (by omega) (by omega)] at c15
    refine r_iload_n (q := 21) (z := 2) C 2 rfl (by decide +kernel) rfl rfl ?_
    refine cS1I (q := 24) C R rfl (by decide +kernel) lk_X7_246 (c_X7_placeX hp) (by decide) (by decide) (by decide) rfl (by first | exact Nat.le_of_ble_eq_true rfl | (simp only [List.map_cons, List.map_nil, List.sum_cons, List.sum_nil, rv_cat]; exact Nat.le_of_ble_eq_true rfl))  ?_
    rintro _ _ ⟨rfl, rfl⟩
    refine r_istore (q := 26) C 4 rfl (by decide +kernel) (by decide) (by first | rfl | exact okst_rv rfl) ?_
    dsimp only [List.set]
    refine r_iload_n (q := 27) (z := 2) C 2 rfl (by decide +kernel) rfl rfl ?_
    refine cS1I (q := 30) C R rfl (by decide +kernel) lk_X7_249 (c_X7_placeY hp) (by decide) (by decide) (by decide) rfl (by first | exact Nat.le_of_ble_eq_true rfl | (simp only [List.map_cons, List.map_nil, List.sum_cons, List.sum_nil, rv_cat]; exact Nat.le_of_ble_eq_true rfl))  ?_
    rintro _ _ ⟨rfl, rfl⟩
    refine r_istore (q := 32) C 5 rfl (by decide +kernel) (by decide) (by first | rfl | exact okst_rv rfl) ?_
    dsimp only [List.set]
    refine r_aload_n (q := 33) (z := 0) C 0 rfl (by decide +kernel) rfl rfl ?_
    refine r_getR (q := 36) C 7 30 478 rfl (by decide +kernel) rfl (by decide) rfl rfl wf_X7_103 win7 hm.1 ?_
    refine r_iload_n (q := 37) (z := 3) C 3 rfl (by decide +kernel) rfl rfl ?_
    refine r_iald (q := 38) C rfl (by decide +kernel) hm.k478 (vp_in_nI (by omega) (by decide)) ?_
    rw [nI_clamp (by omega), M.ali (by omega), pl_in hl]
    refine cS1I (q := 41) C R rfl (by decide +kernel) lk_X7_246 (c_X7_placeX hl) (by decide) (by decide) (by decide) rfl (by first | exact Nat.le_of_ble_eq_true rfl | (simp only [List.map_cons, List.map_nil, List.sum_cons, List.sum_nil, rv_cat]; exact Nat.le_of_ble_eq_true rfl))  ?_
    rintro _ _ ⟨rfl, rfl⟩
    refine r_istore (q := 43) C 6 rfl (by decide +kernel) (by decide) (by first | rfl | exact okst_rv rfl) ?_
    dsimp only [List.set]
    refine r_aload_n (q := 44) (z := 0) C 0 rfl (by decide +kernel) rfl rfl ?_
    refine r_getR (q := 47) C 7 30 478 rfl (by decide +kernel) rfl (by decide) rfl rfl wf_X7_103 win7 hm.1 ?_
    refine r_iload_n (q := 48) (z := 3) C 3 rfl (by decide +kernel) rfl rfl ?_
    refine r_iald (q := 49) C rfl (by decide +kernel) hm.k478 (vp_in_nI (by omega) (by decide)) ?_
    rw [nI_clamp (by omega), M.ali (by omega), pl_in hl]
    refine cS1I (q := 52) C R rfl (by decide +kernel) lk_X7_249 (c_X7_placeY hl) (by decide) (by decide) (by decide) rfl (by first | exact Nat.le_of_ble_eq_true rfl | (simp only [List.map_cons, List.map_nil, List.sum_cons, List.sum_nil, rv_cat]; exact Nat.le_of_ble_eq_true rfl))  ?_
    rintro _ _ ⟨rfl, rfl⟩
    refine r_istore (q := 54) C 7 rfl (by decide +kernel) (by decide) (by first | rfl | exact okst_rv rfl) ?_
    dsimp only [List.set]
    have J134 : ∀ (dx dy : Int32), (2 ≤ dx.toInt ↔ px p + σ.wA r p + 2 ≤ px (σ.li q) ∨ px (σ.li q) + σ.wA q (σ.li q) + 2 ≤ px p) → (2 ≤ dy.toInt ↔ py p + σ.hA r p + 2 ≤ py (σ.li q) ∨ py (σ.li q) + σ.hA q (σ.li q) + 2 ≤ py p) → wX G Γ (qM G Γ (PI (fun v h' => ∃ t : Bool, b2i t = v ∧ (t = true ↔ σ.quiet r p q) ∧ h = h')) 0 0) 0 0 (h) 134 [some (rv m), some (.int (nI r)), some (.int (nI p)), some (.int (nI q)), some (.int (nI (px p))), some (.int (nI (py p))), some (.int (nI (px (σ.li q)))), some (.int (nI (py (σ.li q)))), some (.int dx), none] [.int dy] := by
      intro dx dy hdx hdy
      refine r_istore (q := 136) C 9 rfl (by decide +kernel) (by decide) (by first | rfl | exact okst_rv rfl) ?_
      dsimp only [List.set]
      refine r_iload (q := 138) C 8 rfl (by decide +kernel) rfl ?_
      refine r_iconst (q := 139) (z := 2) (v := 2) C rfl (by decide +kernel) (by decide) ?_
      refine r_icmp_ge (q := 142) (off := 9) (tgt := 148) C rfl (by decide +kernel) (by decide) (fun c139 => ?_) (fun c139 => ?_)
      · have c139 : 2 ≤ dx.toInt := Int32.le_iff_toInt_le.mp c139
        refine r_iconst (q := 149) (z := 1) (v := 1) C rfl (by decide +kernel) (by decide) ?_
        refine r_goto (off := 4) (tgt := 153) C (by decide +kernel) (by decide) ?_
        exact r_zret C (by decide +kernel) rfl (by first | decide | exact b2i_nar _) (by decide) (by decide) ⟨_, rfl, (by unfold SG.quiet; first | exact ⟨true, rfl, ⟨fun _ => by omega, fun _ => rfl⟩, rfl⟩ | exact ⟨false, rfl, ⟨(fun e => nomatch e), fun e => by omega⟩, rfl⟩)⟩
      · have c139 : ¬ 2 ≤ dx.toInt := fun e => c139 (Int32.le_iff_toInt_le.mpr e)
        refine r_iload (q := 144) C 9 rfl (by decide +kernel) rfl ?_
        refine r_iconst (q := 145) (z := 2) (v := 2) C rfl (by decide +kernel) (by decide) ?_
        refine r_icmp_lt (q := 148) (off := 7) (tgt := 152) C rfl (by decide +kernel) (by decide) (fun c145 => ?_) (fun c145 => ?_)
        · have c145 : dy.toInt < 2 := Int32.lt_iff_toInt_lt.mp c145
          refine r_iconst (q := 153) (z := 0) (v := 0) C rfl (by decide +kernel) (by decide) ?_
          exact r_zret C (by decide +kernel) rfl (by first | decide | exact b2i_nar _) (by decide) (by decide) ⟨_, rfl, (by unfold SG.quiet; first | exact ⟨true, rfl, ⟨fun _ => by omega, fun _ => rfl⟩, rfl⟩ | exact ⟨false, rfl, ⟨(fun e => nomatch e), fun e => by omega⟩, rfl⟩)⟩
        · have c145 : ¬ dy.toInt < 2 := fun e => c145 (Int32.lt_iff_toInt_lt.mpr e)
          refine r_iconst (q := 149) (z := 1) (v := 1) C rfl (by decide +kernel) (by decide) ?_
          refine r_goto (off := 4) (tgt := 153) C (by decide +kernel) (by decide) ?_
          exact r_zret C (by decide +kernel) rfl (by first | decide | exact b2i_nar _) (by decide) (by decide) ⟨_, rfl, (by unfold SG.quiet; first | exact ⟨true, rfl, ⟨fun _ => by omega, fun _ => rfl⟩, rfl⟩ | exact ⟨false, rfl, ⟨(fun e => nomatch e), fun e => by omega⟩, rfl⟩)⟩
    have J93 : ∀ (dx : Int32), (2 ≤ dx.toInt ↔ px p + σ.wA r p + 2 ≤ px (σ.li q) ∨ px (σ.li q) + σ.wA q (σ.li q) + 2 ≤ px p) → wX G Γ (qM G Γ (PI (fun v h' => ∃ t : Bool, b2i t = v ∧ (t = true ↔ σ.quiet r p q) ∧ h = h')) 0 0) 0 0 (h) 93 [some (rv m), some (.int (nI r)), some (.int (nI p)), some (.int (nI q)), some (.int (nI (px p))), some (.int (nI (py p))), some (.int (nI (px (σ.li q)))), some (.int (nI (py (σ.li q)))), none, none] [.int dx] := by
      intro dx hdx
      refine r_istore (q := 95) C 8 rfl (by decide +kernel) (by decide) (by first | rfl | exact okst_rv rfl) ?_
      dsimp only [List.set]
      refine r_iload (q := 97) C 5 rfl (by decide +kernel) rfl ?_
      refine r_iload (q := 99) C 7 rfl (by decide +kernel) rfl ?_
      refine r_icmp_ge (q := 102) (off := 18) (tgt := 117) C rfl (by decide +kernel) (by decide) (fun c99 => ?_) (fun c99 => ?_)
      · rw [nI_leI (by omega) (by omega)] at c99
        refine r_iload (q := 119) C 5 rfl (by decide +kernel) rfl ?_
        refine r_iload (q := 121) C 7 rfl (by decide +kernel) rfl ?_
        refine r_isub (q := 122) C rfl (by decide +kernel) ?_
        refine r_aload_n (q := 123) (z := 0) C 0 rfl (by decide +kernel) rfl rfl ?_
        refine r_iload_n (q := 124) (z := 3) C 3 rfl (by decide +kernel) rfl rfl ?_
        refine r_aload_n (q := 125) (z := 0) C 0 rfl (by decide +kernel) rfl rfl ?_
        refine r_getR (q := 128) C 7 30 478 rfl (by decide +kernel) rfl (by decide) rfl rfl wf_X7_103 win7 hm.1 ?_
        refine r_iload_n (q := 129) (z := 3) C 3 rfl (by decide +kernel) rfl rfl ?_
        refine r_iald (q := 130) C rfl (by decide +kernel) hm.k478 (vp_in_nI (by omega) (by decide)) ?_
        rw [nI_clamp (by omega), M.ali (by omega), pl_in hl]
        refine cV2I (q := 133) C R rfl (by decide +kernel) lk_X7_256 (c_X7_heightAt hm M (by omega) hl) (by decide) (by decide) (by decide) rfl (by first | exact Nat.le_of_ble_eq_true rfl | (simp only [List.map_cons, List.map_nil, List.sum_cons, List.sum_nil, rv_cat]; exact Nat.le_of_ble_eq_true rfl)) rfl hm.1 ?_
        rintro _ _ ⟨rfl, rfl⟩
        refine r_isub (q := 134) C rfl (by decide +kernel) ?_
        exact wX.sub (lsub_s (lsub_s (lsub_s (lsub_s (lsub_s (lsub_s (lsub_s (lsub_s (lsub_s (lsub_n (lsub_nil))))))))))) (J134 dx _ hdx (by rw [sub3 (by omega) (by omega) (by omega)]; omega))
      · rw [nI_leI (by omega) (by omega)] at c99
        refine r_iload (q := 104) C 7 rfl (by decide +kernel) rfl ?_
        refine r_iload (q := 106) C 5 rfl (by decide +kernel) rfl ?_
        refine r_isub (q := 107) C rfl (by decide +kernel) ?_
        refine r_aload_n (q := 108) (z := 0) C 0 rfl (by decide +kernel) rfl rfl ?_
        refine r_iload_n (q := 109) (z := 1) C 1 rfl (by decide +kernel) rfl rfl ?_
        refine r_iload_n (q := 110) (z := 2) C 2 rfl (by decide +kernel) rfl rfl ?_
        refine cV2I (q := 113) C R rfl (by decide +kernel) lk_X7_256 (c_X7_heightAt hm M (by omega) hp) (by decide) (by decide) (by decide) rfl (by first | exact Nat.le_of_ble_eq_true rfl | (simp only [List.map_cons, List.map_nil, List.sum_cons, List.sum_nil, rv_cat]; exact Nat.le_of_ble_eq_true rfl)) rfl hm.1 ?_
        rintro _ _ ⟨rfl, rfl⟩
        refine r_isub (q := 114) C rfl (by decide +kernel) ?_
        refine r_goto (off := 20) (tgt := 134) C (by decide +kernel) (by decide) ?_
        exact wX.sub (lsub_s (lsub_s (lsub_s (lsub_s (lsub_s (lsub_s (lsub_s (lsub_s (lsub_s (lsub_n (lsub_nil))))))))))) (J134 dx _ hdx (by rw [sub3 (by omega) (by omega) (by omega)]; omega))
    refine r_iload (q := 56) C 4 rfl (by decide +kernel) rfl ?_
    refine r_iload (q := 58) C 6 rfl (by decide +kernel) rfl ?_
    refine r_icmp_ge (q := 61) (off := 18) (tgt := 76) C rfl (by decide +kernel) (by decide) (fun c58 => ?_) (fun c58 => ?_)
    · rw [nI_leI (by omega) (by omega)] at c58
      refine r_iload (q := 78) C 4 rfl (by decide +kernel) rfl ?_
      refine r_iload (q := 80) C 6 rfl (by decide +kernel) rfl ?_
      refine r_isub (q := 81) C rfl (by decide +kernel) ?_
      refine r_aload_n (q := 82) (z := 0) C 0 rfl (by decide +kernel) rfl rfl ?_
      refine r_iload_n (q := 83) (z := 3) C 3 rfl (by decide +kernel) rfl rfl ?_
      refine r_aload_n (q := 84) (z := 0) C 0 rfl (by decide +kernel) rfl rfl ?_
      refine r_getR (q := 87) C 7 30 478 rfl (by decide +kernel) rfl (by decide) rfl rfl wf_X7_103 win7 hm.1 ?_
      refine r_iload_n (q := 88) (z := 3) C 3 rfl (by decide +kernel) rfl rfl ?_
      refine r_iald (q := 89) C rfl (by decide +kernel) hm.k478 (vp_in_nI (by omega) (by decide)) ?_
      rw [nI_clamp (by omega), M.ali (by omega), pl_in hl]
      refine cV2I (q := 92) C R rfl (by decide +kernel) lk_X7_252 (c_X7_widthAt hm M (by omega) hl) (by decide) (by decide) (by decide) rfl (by first | exact Nat.le_of_ble_eq_true rfl | (simp only [List.map_cons, List.map_nil, List.sum_cons, List.sum_nil, rv_cat]; exact Nat.le_of_ble_eq_true rfl)) rfl hm.1 ?_
      rintro _ _ ⟨rfl, rfl⟩
      refine r_isub (q := 93) C rfl (by decide +kernel) ?_
      exact wX.sub (lsub_s (lsub_s (lsub_s (lsub_s (lsub_s (lsub_s (lsub_s (lsub_s (lsub_n (lsub_n (lsub_nil))))))))))) (J93 _ (by rw [sub3 (by omega) (by omega) (by omega)]; omega))
    · rw [nI_leI (by omega) (by omega)] at c58
      refine r_iload (q := 63) C 6 rfl (by decide +kernel) rfl ?_
      refine r_iload (q := 65) C 4 rfl (by decide +kernel) rfl ?_
      refine r_isub (q := 66) C rfl (by decide +kernel) ?_
      refine r_aload_n (q := 67) (z := 0) C 0 rfl (by decide +kernel) rfl rfl ?_
      refine r_iload_n (q := 68) (z := 1) C 1 rfl (by decide +kernel) rfl rfl ?_
      refine r_iload_n (q := 69) (z := 2) C 2 rfl (by decide +kernel) rfl rfl ?_
      refine cV2I (q := 72) C R rfl (by decide +kernel) lk_X7_252 (c_X7_widthAt hm M (by omega) hp) (by decide) (by decide) (by decide) rfl (by first | exact Nat.le_of_ble_eq_true rfl | (simp only [List.map_cons, List.map_nil, List.sum_cons, List.sum_nil, rv_cat]; exact Nat.le_of_ble_eq_true rfl)) rfl hm.1 ?_
      rintro _ _ ⟨rfl, rfl⟩
      refine r_isub (q := 73) C rfl (by decide +kernel) ?_
      refine r_goto (off := 20) (tgt := 93) C (by decide +kernel) (by decide) ?_
      exact wX.sub (lsub_s (lsub_s (lsub_s (lsub_s (lsub_s (lsub_s (lsub_s (lsub_s (lsub_n (lsub_n (lsub_nil))))))))))) (J93 _ (by rw [sub3 (by omega) (by omega) (by omega)]; omega))
  · rw [show (10 : Int32) = nI 10 from rfl, nI_leI (by omega) (by omega)] at c15
    refine r_iconst (q := 19) (z := 1) (v := 1) C rfl (by decide +kernel) (by decide) ?_
    exact r_zret C (by decide +kernel) rfl (by first | decide | exact b2i_nar _) (by decide) (by decide) ⟨_, rfl, ⟨true, rfl, ⟨fun _ => Or.inl (by omega), fun _ => rfl⟩, rfl⟩⟩
theorem c_X7_isRoom {G : GT} {h : HP} {m : Nat} {σ : SG} {r p : Nat} (hm : LM h.kd h.gl h.fr m) (M : MR σ h m) (W : WF σ) (hr : r < σ.n) (hp : p < 240) : Con G 6 0 0 yX7_isRoom cX7_isRoom 5 (some .boolean) [rv m, .int (nI r), .int (nI p)] h (PI (fun v h' => ∃ t : Bool, b2i t = v ∧ (t = true ↔ σ.room r p) ∧ h = h')) := by
  refine Con.of (lv := [some (rv m), some (.int (nI r)), some (.int (nI p)), none, none]) (by decide) (by simp only [lvE_r, lvE_i, lvE_l, lvE_s, lvE_0]; rfl) (by simp only [lgl_r, lgl_i, lgl_l, lgl_s, lgl_0]; decide) (fun Γ C R => ?_)
  have r10 := W.n10
  have g10 := W.gr10
  refine r_aload_n (q := 1) (z := 0) C 0 rfl (by decide +kernel) rfl rfl ?_
  refine r_iload_n (q := 2) (z := 1) C 1 rfl (by decide +kernel) rfl rfl ?_
  refine r_iload_n (q := 3) (z := 2) C 2 rfl (by decide +kernel) rfl rfl ?_
  refine cV2I (q := 6) C R rfl (by decide +kernel) lk_X7_307 (c_X7_isOn hm M W hr hp) (by decide) (by decide) (by decide) rfl (by first | exact Nat.le_of_ble_eq_true rfl | (simp only [List.map_cons, List.map_nil, List.sum_cons, List.sum_nil, rv_cat]; exact Nat.le_of_ble_eq_true rfl)) rfl hm.1 ?_
  rintro _ _ ⟨t3, rfl, ht3, rfl⟩
  refine r_if_eq (q := 9) (off := 16) (tgt := 22) C rfl (by decide +kernel) (by decide) (fun c6 => ?_) (fun c6 => ?_)
  · refine r_iconst (q := 23) (z := 0) (v := 0) C rfl (by decide +kernel) (by decide) ?_
    exact r_zret C (by decide +kernel) rfl (by first | decide | exact b2i_nar _) (by decide) (by decide) ⟨_, rfl, ⟨false, rfl, ⟨(fun e => nomatch e), fun e => by first | exact absurd (ht3.mpr e.1) (by rw [(b2i_0 _).mp c6]; decide) | (have := e.2.1; rw [(b2i_0 _).mp c19] at this; exact this)⟩, rfl⟩⟩
  · refine r_aload_n (q := 10) (z := 0) C 0 rfl (by decide +kernel) rfl rfl ?_
    refine r_aload_n (q := 11) (z := 0) C 0 rfl (by decide +kernel) rfl rfl ?_
    refine r_iload_n (q := 12) (z := 1) C 1 rfl (by decide +kernel) rfl rfl ?_
    refine r_iload_n (q := 13) (z := 2) C 2 rfl (by decide +kernel) rfl rfl ?_
    refine cV2I (q := 16) C R rfl (by decide +kernel) lk_X7_274 (c_X7_doorAt hm M W hr hp) (by decide) (by decide) (by decide) rfl (by first | exact Nat.le_of_ble_eq_true rfl | (simp only [List.map_cons, List.map_nil, List.sum_cons, List.sum_nil, rv_cat]; exact Nat.le_of_ble_eq_true rfl)) rfl hm.1 ?_
    rintro _ _ ⟨rfl, rfl⟩
    refine cV1I (q := 19) C R rfl (by decide +kernel) lk_X7_286 (c_X7_isFree hm M W ((ht3.mp ((b2i_n0 _).mp c6)).door W hr)) (by decide) (by decide) (by decide) rfl (by first | exact Nat.le_of_ble_eq_true rfl | (simp only [List.map_cons, List.map_nil, List.sum_cons, List.sum_nil, rv_cat]; exact Nat.le_of_ble_eq_true rfl)) rfl hm.1 ?_
    rintro _ _ ⟨rfl, rfl⟩
    refine r_if_ne (q := 22) (off := 5) (tgt := 24) C rfl (by decide +kernel) (by decide) (fun c19 => ?_) (fun c19 => ?_)
    · have L46 : ∀ (fuel46 : Nat) (i : Nat) (t : Bool), 120 - i < fuel46 → (i ≤ 120) → (σ.onG r p) → (σ.fre (σ.dA r p) = true) → (t = true ↔ σ.cA r p (12 * σ.gr) = false ∧ ∀ c, c < i → σ.cA r p c = true → σ.fre c = true) → wX G Γ (qM G Γ (PI (fun v h' => ∃ t : Bool, b2i t = v ∧ (t = true ↔ σ.room r p) ∧ h = h')) 0 0) 0 0 (h) 46 [some (rv m), some (.int (nI r)), some (.int (nI p)), some (.int (b2i t)), some (.int (nI i))] [] := by
        intro fuel46
        induction fuel46 with
        | zero =>
          intro i t hm46
          exact absurd hm46 (Nat.not_lt_zero _)
        | succ fuel46 ih46 =>
          intro i t hm46 hi ho hd ht
          refine r_iload (q := 48) C 4 rfl (by decide +kernel) rfl ?_
          refine r_bipush (q := 50) (z := 120) (v := 120) C rfl (by decide +kernel) (by decide) ?_
          refine r_icmp_ge (q := 53) (off := 39) (tgt := 89) C rfl (by decide +kernel) (by decide) (fun c50 => ?_) (fun c50 => ?_)
          · have ez : i = 120 := by have := (nI_leI (a := 120) (by omega) (by omega)).mp c50; omega
            subst ez
            refine r_iconst (q := 90) (z := 0) (v := 0) C rfl (by decide +kernel) (by decide) ?_
            refine r_istore (q := 92) C 4 rfl (by decide +kernel) (by decide) (by first | rfl | exact okst_rv rfl) ?_
            dsimp only [List.set]
            have L92 : ∀ (fuel92 : Nat) (k : Nat) (t : Bool), σ.n - k < fuel92 → (k ≤ σ.n) → (t = true ↔ (σ.cA r p (12 * σ.gr) = false ∧ ∀ c, c < 120 → σ.cA r p c = true → σ.fre c = true) ∧ ∀ q, q < k → σ.li q < 240 → σ.cA r p (σ.dr q) = false ∧ σ.quiet r p q) → wX G Γ (qM G Γ (PI (fun v h' => ∃ t : Bool, b2i t = v ∧ (t = true ↔ σ.room r p) ∧ h = h')) 0 0) 0 0 (h) 92 [some (rv m), some (.int (nI r)), some (.int (nI p)), some (.int (b2i t)), some (.int (nI k))] [] := by
              intro fuel92
              induction fuel92 with
              | zero =>
                intro k t hm92
                exact absurd hm92 (Nat.not_lt_zero _)
              | succ fuel92 ih92 =>
                intro k t hm92 hk ht
                refine r_iload (q := 94) C 4 rfl (by decide +kernel) rfl ?_
                refine r_aload_n (q := 95) (z := 0) C 0 rfl (by decide +kernel) rfl rfl ?_
                refine r_getI (q := 98) C 7 24 472 rfl (by decide +kernel) rfl (by decide) rfl rfl wf_X7_243 win7 hm.1 ?_
                rw [M.fn]
                refine r_icmp_ge (q := 101) (off := 55) (tgt := 153) C rfl (by decide +kernel) (by decide) (fun c98 => ?_) (fun c98 => ?_)
                · have ek : k = σ.n := by have := (nI_leI (by omega) (by omega)).mp c98; omega
                  subst ek
                  refine r_iload_n (q := 154) (z := 3) C 3 rfl (by decide +kernel) rfl rfl ?_
                  exact r_zret C (by decide +kernel) rfl (by first | decide | exact b2i_nar _) (by decide) (by decide) ⟨_, rfl, ⟨t, rfl, ⟨fun e => ⟨ho, hd, (ht.mp e).1.1, (ht.mp e).1.2, (ht.mp e).2⟩, fun e => ht.mpr ⟨⟨e.2.2.1, e.2.2.2.1⟩, e.2.2.2.2⟩⟩, rfl⟩⟩
                · have hlk : k < σ.n := Nat.lt_of_not_le (fun e => c98 (nI_le e (by omega)))
                  refine r_iload_n (q := 102) (z := 3) C 3 rfl (by decide +kernel) rfl rfl ?_
                  refine r_if_eq (q := 105) (off := 43) (tgt := 145) C rfl (by decide +kernel) (by decide) (fun c102 => ?_) (fun c102 => ?_)
                  · have ht2 : false = true ↔ (σ.cA r p (12 * σ.gr) = false ∧ ∀ c, c < 120 → σ.cA r p c = true → σ.fre c = true) ∧ ∀ q, q < k + 1 → σ.li q < 240 → σ.cA r p (σ.dr q) = false ∧ σ.quiet r p q := ⟨(fun e => nomatch e), fun e => by rw [(b2i_0 _).mp c102] at ht; exact ht.mpr ⟨e.1, fun q hq => e.2 q (by omega)⟩⟩
                    refine r_iconst (q := 146) (z := 0) (v := b2i false) C rfl (by decide +kernel) (by decide) ?_
                    refine r_istore_n (q := 147) (z := 3) C 3 rfl (by decide +kernel) rfl (by decide) (by first | rfl | exact okst_rv rfl) ?_
                    dsimp only [List.set]
                    refine r_iinc (q := 150) (z := 1) (v := 1) C 4 rfl (by decide +kernel) rfl (by decide) (by decide) (by first | rfl | exact okst_rv rfl) ?_
                    dsimp only [List.set]
                    rw [nI_1]
                    refine r_goto (off := -58) (tgt := 92) C (by decide +kernel) (by decide) ?_
                    exact ih92 (k + 1) _ (by omega) (by omega) ht2
                  · refine r_aload_n (q := 106) (z := 0) C 0 rfl (by decide +kernel) rfl rfl ?_
                    refine r_getR (q := 109) C 7 30 478 rfl (by decide +kernel) rfl (by decide) rfl rfl wf_X7_103 win7 hm.1 ?_
                    refine r_iload (q := 111) C 4 rfl (by decide +kernel) rfl ?_
                    refine r_iald (q := 112) C rfl (by decide +kernel) hm.k478 (vp_in_nI (by omega) (by decide)) ?_
                    rw [nI_clamp (by omega), M.ali (by omega)]
                    refine r_if_lt (q := 115) (off := 29) (tgt := 141) C rfl (by decide +kernel) (by decide) (fun c112 => ?_) (fun c112 => ?_)
                    · rw [(b2i_n0 _).mp c102] at ht
                      have ht2 : true = true ↔ (σ.cA r p (12 * σ.gr) = false ∧ ∀ c, c < 120 → σ.cA r p c = true → σ.fre c = true) ∧ ∀ q, q < k + 1 → σ.li q < 240 → σ.cA r p (σ.dr q) = false ∧ σ.quiet r p q := ⟨fun _ => ⟨(ht.mp rfl).1, fun q hq hl => by
                        by_cases e : q = k
                        · subst e; exact absurd hl (pl_neg.mp c112)
                        · exact (ht.mp rfl).2 q (by omega) hl⟩, fun _ => rfl⟩
                      refine r_iconst (q := 142) (z := 1) (v := b2i true) C rfl (by decide +kernel) (by decide) ?_
                      refine r_goto (off := 4) (tgt := 146) C (by decide +kernel) (by decide) ?_
                      refine r_istore_n (q := 147) (z := 3) C 3 rfl (by decide +kernel) rfl (by decide) (by first | rfl | exact okst_rv rfl) ?_
                      dsimp only [List.set]
                      refine r_iinc (q := 150) (z := 1) (v := 1) C 4 rfl (by decide +kernel) rfl (by decide) (by decide) (by first | rfl | exact okst_rv rfl) ?_
                      dsimp only [List.set]
                      rw [nI_1]
                      refine r_goto (off := -58) (tgt := 92) C (by decide +kernel) (by decide) ?_
                      exact ih92 (k + 1) _ (by omega) (by omega) ht2
                    · refine r_aload_n (q := 116) (z := 0) C 0 rfl (by decide +kernel) rfl rfl ?_
                      refine r_iload_n (q := 117) (z := 1) C 1 rfl (by decide +kernel) rfl rfl ?_
                      refine r_iload_n (q := 118) (z := 2) C 2 rfl (by decide +kernel) rfl rfl ?_
                      refine r_aload_n (q := 119) (z := 0) C 0 rfl (by decide +kernel) rfl rfl ?_
                      refine r_iload (q := 121) C 4 rfl (by decide +kernel) rfl ?_
                      refine cV1I (q := 124) C R rfl (by decide +kernel) lk_X7_292 (c_X7_door hm M W hlk) (by decide) (by decide) (by decide) rfl (by first | exact Nat.le_of_ble_eq_true rfl | (simp only [List.map_cons, List.map_nil, List.sum_cons, List.sum_nil, rv_cat]; exact Nat.le_of_ble_eq_true rfl)) rfl hm.1 ?_
                      rintro _ _ ⟨rfl, rfl⟩
                      rw [if_pos (pl_nn.mp c112)]
                      refine cV3I (q := 127) C R rfl (by decide +kernel) lk_X7_263 (c_X7_coversAt hm M W hr hp (by have := W.dr hlk (pl_nn.mp c112); omega)) (by decide) (by decide) (by decide) rfl (by first | exact Nat.le_of_ble_eq_true rfl | (simp only [List.map_cons, List.map_nil, List.sum_cons, List.sum_nil, rv_cat]; exact Nat.le_of_ble_eq_true rfl)) rfl hm.1 ?_
                      rintro _ _ ⟨rfl, rfl⟩
                      refine r_if_ne (q := 130) (off := 18) (tgt := 145) C rfl (by decide +kernel) (by decide) (fun c127 => ?_) (fun c127 => ?_)
                      · have ht2 : false = true ↔ (σ.cA r p (12 * σ.gr) = false ∧ ∀ c, c < 120 → σ.cA r p c = true → σ.fre c = true) ∧ ∀ q, q < k + 1 → σ.li q < 240 → σ.cA r p (σ.dr q) = false ∧ σ.quiet r p q := ⟨(fun e => nomatch e), fun e => by have := (e.2 k (by omega) (pl_nn.mp c112)).1; rw [(b2i_n0 _).mp c127] at this; exact this.symm⟩
                        refine r_iconst (q := 146) (z := 0) (v := b2i false) C rfl (by decide +kernel) (by decide) ?_
                        refine r_istore_n (q := 147) (z := 3) C 3 rfl (by decide +kernel) rfl (by decide) (by first | rfl | exact okst_rv rfl) ?_
                        dsimp only [List.set]
                        refine r_iinc (q := 150) (z := 1) (v := 1) C 4 rfl (by decide +kernel) rfl (by decide) (by decide) (by first | rfl | exact okst_rv rfl) ?_
                        dsimp only [List.set]
                        rw [nI_1]
                        refine r_goto (off := -58) (tgt := 92) C (by decide +kernel) (by decide) ?_
                        exact ih92 (k + 1) _ (by omega) (by omega) ht2
                      · refine r_aload_n (q := 131) (z := 0) C 0 rfl (by decide +kernel) rfl rfl ?_
                        refine r_iload_n (q := 132) (z := 1) C 1 rfl (by decide +kernel) rfl rfl ?_
                        refine r_iload_n (q := 133) (z := 2) C 2 rfl (by decide +kernel) rfl rfl ?_
                        refine r_iload (q := 135) C 4 rfl (by decide +kernel) rfl ?_
                        refine cV3I (q := 138) C R rfl (by decide +kernel) lk_X7_310 (c_X7_isQuiet hm M W hr hp hlk (pl_nn.mp c112)) (by decide) (by decide) (by decide) rfl (by first | exact Nat.le_of_ble_eq_true rfl | (simp only [List.map_cons, List.map_nil, List.sum_cons, List.sum_nil, rv_cat]; exact Nat.le_of_ble_eq_true rfl)) rfl hm.1 ?_
                        rintro _ _ ⟨t135, rfl, ht135, rfl⟩
                        refine r_if_eq (q := 141) (off := 7) (tgt := 145) C rfl (by decide +kernel) (by decide) (fun c138 => ?_) (fun c138 => ?_)
                        · have ht2 : false = true ↔ (σ.cA r p (12 * σ.gr) = false ∧ ∀ c, c < 120 → σ.cA r p c = true → σ.fre c = true) ∧ ∀ q, q < k + 1 → σ.li q < 240 → σ.cA r p (σ.dr q) = false ∧ σ.quiet r p q := ⟨(fun e => nomatch e), fun e => by have := ht135.mpr (e.2 k (by omega) (pl_nn.mp c112)).2; rw [(b2i_0 _).mp c138] at this; exact this⟩
                          refine r_iconst (q := 146) (z := 0) (v := b2i false) C rfl (by decide +kernel) (by decide) ?_
                          refine r_istore_n (q := 147) (z := 3) C 3 rfl (by decide +kernel) rfl (by decide) (by first | rfl | exact okst_rv rfl) ?_
                          dsimp only [List.set]
                          refine r_iinc (q := 150) (z := 1) (v := 1) C 4 rfl (by decide +kernel) rfl (by decide) (by decide) (by first | rfl | exact okst_rv rfl) ?_
                          dsimp only [List.set]
                          rw [nI_1]
                          refine r_goto (off := -58) (tgt := 92) C (by decide +kernel) (by decide) ?_
                          exact ih92 (k + 1) _ (by omega) (by omega) ht2
                        · rw [(b2i_n0 _).mp c102] at ht
                          have ht2 : true = true ↔ (σ.cA r p (12 * σ.gr) = false ∧ ∀ c, c < 120 → σ.cA r p c = true → σ.fre c = true) ∧ ∀ q, q < k + 1 → σ.li q < 240 → σ.cA r p (σ.dr q) = false ∧ σ.quiet r p q := ⟨fun _ => ⟨(ht.mp rfl).1, fun q hq hl => by
                            by_cases e : q = k
                            · subst e; exact ⟨(b2i_0 _).mp c127, ht135.mp ((b2i_n0 _).mp c138)⟩
                            · exact (ht.mp rfl).2 q (by omega) hl⟩, fun _ => rfl⟩
                          refine r_iconst (q := 142) (z := 1) (v := b2i true) C rfl (by decide +kernel) (by decide) ?_
                          refine r_goto (off := 4) (tgt := 146) C (by decide +kernel) (by decide) ?_
                          refine r_istore_n (q := 147) (z := 3) C 3 rfl (by decide +kernel) rfl (by decide) (by first | rfl | exact okst_rv rfl) ?_
                          dsimp only [List.set]
                          refine r_iinc (q := 150) (z := 1) (v := 1) C 4 rfl (by decide +kernel) rfl (by decide) (by decide) (by first | rfl | exact okst_rv rfl) ?_
                          dsimp only [List.set]
                          rw [nI_1]
                          refine r_goto (off := -58) (tgt := 92) C (by decide +kernel) (by decide) ?_
                          exact ih92 (k + 1) _ (by omega) (by omega) ht2
            exact L92 (σ.n + 1) 0 t (by omega) (by omega) ⟨fun e => ⟨ht.mp e, fun q hq => absurd hq (Nat.not_lt_zero q)⟩, fun e => ht.mpr e.1⟩
          · have hlt : i < 120 := Nat.lt_of_not_le (fun e => c50 (nI_le (a := 120) e (by omega)))
            refine r_iload_n (q := 54) (z := 3) C 3 rfl (by decide +kernel) rfl rfl ?_
            refine r_if_eq (q := 57) (off := 27) (tgt := 81) C rfl (by decide +kernel) (by decide) (fun c54 => ?_) (fun c54 => ?_)
            · have ht2 : false = true ↔ σ.cA r p (12 * σ.gr) = false ∧ ∀ c, c < i + 1 → σ.cA r p c = true → σ.fre c = true := ⟨(fun e => nomatch e), fun e => by rw [(b2i_0 _).mp c54] at ht; exact ht.mpr ⟨e.1, fun c hc => e.2 c (by omega)⟩⟩
              refine r_iconst (q := 82) (z := 0) (v := b2i false) C rfl (by decide +kernel) (by decide) ?_
              refine r_istore_n (q := 83) (z := 3) C 3 rfl (by decide +kernel) rfl (by decide) (by first | rfl | exact okst_rv rfl) ?_
              dsimp only [List.set]
              refine r_iinc (q := 86) (z := 1) (v := 1) C 4 rfl (by decide +kernel) rfl (by decide) (by decide) (by first | rfl | exact okst_rv rfl) ?_
              dsimp only [List.set]
              rw [nI_1]
              refine r_goto (off := -40) (tgt := 46) C (by decide +kernel) (by decide) ?_
              exact ih46 (i + 1) _ (by omega) (by omega) ho hd ht2
            · refine r_aload_n (q := 58) (z := 0) C 0 rfl (by decide +kernel) rfl rfl ?_
              refine r_iload_n (q := 59) (z := 1) C 1 rfl (by decide +kernel) rfl rfl ?_
              refine r_iload_n (q := 60) (z := 2) C 2 rfl (by decide +kernel) rfl rfl ?_
              refine r_iload (q := 62) C 4 rfl (by decide +kernel) rfl ?_
              refine cV3I (q := 65) C R rfl (by decide +kernel) lk_X7_263 (c_X7_coversAt hm M W hr hp (by omega)) (by decide) (by decide) (by decide) rfl (by first | exact Nat.le_of_ble_eq_true rfl | (simp only [List.map_cons, List.map_nil, List.sum_cons, List.sum_nil, rv_cat]; exact Nat.le_of_ble_eq_true rfl)) rfl hm.1 ?_
              rintro _ _ ⟨rfl, rfl⟩
              refine r_if_eq (q := 68) (off := 12) (tgt := 77) C rfl (by decide +kernel) (by decide) (fun c65 => ?_) (fun c65 => ?_)
              · rw [(b2i_n0 _).mp c54] at ht
                have ht2 : true = true ↔ σ.cA r p (12 * σ.gr) = false ∧ ∀ c, c < i + 1 → σ.cA r p c = true → σ.fre c = true := ⟨fun _ => ⟨(ht.mp rfl).1, fun c hc hcc => by
                  by_cases e : c = i
                  · subst e; rw [(b2i_0 _).mp c65] at hcc; cases hcc
                  · exact (ht.mp rfl).2 c (by omega) hcc⟩, fun _ => rfl⟩
                refine r_iconst (q := 78) (z := 1) (v := b2i true) C rfl (by decide +kernel) (by decide) ?_
                refine r_goto (off := 4) (tgt := 82) C (by decide +kernel) (by decide) ?_
                refine r_istore_n (q := 83) (z := 3) C 3 rfl (by decide +kernel) rfl (by decide) (by first | rfl | exact okst_rv rfl) ?_
                dsimp only [List.set]
                refine r_iinc (q := 86) (z := 1) (v := 1) C 4 rfl (by decide +kernel) rfl (by decide) (by decide) (by first | rfl | exact okst_rv rfl) ?_
                dsimp only [List.set]
                rw [nI_1]
                refine r_goto (off := -40) (tgt := 46) C (by decide +kernel) (by decide) ?_
                exact ih46 (i + 1) _ (by omega) (by omega) ho hd ht2
              · refine r_aload_n (q := 69) (z := 0) C 0 rfl (by decide +kernel) rfl rfl ?_
                refine r_iload (q := 71) C 4 rfl (by decide +kernel) rfl ?_
                refine cV1I (q := 74) C R rfl (by decide +kernel) lk_X7_286 (c_X7_isFree hm M W hlt) (by decide) (by decide) (by decide) rfl (by first | exact Nat.le_of_ble_eq_true rfl | (simp only [List.map_cons, List.map_nil, List.sum_cons, List.sum_nil, rv_cat]; exact Nat.le_of_ble_eq_true rfl)) rfl hm.1 ?_
                rintro _ _ ⟨rfl, rfl⟩
                refine r_if_eq (q := 77) (off := 7) (tgt := 81) C rfl (by decide +kernel) (by decide) (fun c74 => ?_) (fun c74 => ?_)
                · have ht2 : false = true ↔ σ.cA r p (12 * σ.gr) = false ∧ ∀ c, c < i + 1 → σ.cA r p c = true → σ.fre c = true := ⟨(fun e => nomatch e), fun e => by have := e.2 i (by omega) ((b2i_n0 _).mp c65); rw [(b2i_0 _).mp c74] at this; exact this⟩
                  refine r_iconst (q := 82) (z := 0) (v := b2i false) C rfl (by decide +kernel) (by decide) ?_
                  refine r_istore_n (q := 83) (z := 3) C 3 rfl (by decide +kernel) rfl (by decide) (by first | rfl | exact okst_rv rfl) ?_
                  dsimp only [List.set]
                  refine r_iinc (q := 86) (z := 1) (v := 1) C 4 rfl (by decide +kernel) rfl (by decide) (by decide) (by first | rfl | exact okst_rv rfl) ?_
                  dsimp only [List.set]
                  rw [nI_1]
                  refine r_goto (off := -40) (tgt := 46) C (by decide +kernel) (by decide) ?_
                  exact ih46 (i + 1) _ (by omega) (by omega) ho hd ht2
                · rw [(b2i_n0 _).mp c54] at ht
                  have ht2 : true = true ↔ σ.cA r p (12 * σ.gr) = false ∧ ∀ c, c < i + 1 → σ.cA r p c = true → σ.fre c = true := ⟨fun _ => ⟨(ht.mp rfl).1, fun c hc hcc => by
                    by_cases e : c = i
                    · subst e; exact (b2i_n0 _).mp c74
                    · exact (ht.mp rfl).2 c (by omega) hcc⟩, fun _ => rfl⟩
                  refine r_iconst (q := 78) (z := 1) (v := b2i true) C rfl (by decide +kernel) (by decide) ?_
                  refine r_goto (off := 4) (tgt := 82) C (by decide +kernel) (by decide) ?_
                  refine r_istore_n (q := 83) (z := 3) C 3 rfl (by decide +kernel) rfl (by decide) (by first | rfl | exact okst_rv rfl) ?_
                  dsimp only [List.set]
                  refine r_iinc (q := 86) (z := 1) (v := 1) C 4 rfl (by decide +kernel) rfl (by decide) (by decide) (by first | rfl | exact okst_rv rfl) ?_
                  dsimp only [List.set]
                  rw [nI_1]
                  refine r_goto (off := -40) (tgt := 46) C (by decide +kernel) (by decide) ?_
                  exact ih46 (i + 1) _ (by omega) (by omega) ho hd ht2
      refine r_aload_n (q := 25) (z := 0) C 0 rfl (by decide +kernel) rfl rfl ?_
      refine r_iload_n (q := 26) (z := 1) C 1 rfl (by decide +kernel) rfl rfl ?_
      refine r_iload_n (q := 27) (z := 2) C 2 rfl (by decide +kernel) rfl rfl ?_
      refine r_aload_n (q := 28) (z := 0) C 0 rfl (by decide +kernel) rfl rfl ?_
      refine cV0I (q := 31) C R rfl (by decide +kernel) lk_X7_280 (c_X7_gateCell hm M W) (by decide) (by decide) (by decide) rfl (by first | exact Nat.le_of_ble_eq_true rfl | (simp only [List.map_cons, List.map_nil, List.sum_cons, List.sum_nil, rv_cat]; exact Nat.le_of_ble_eq_true rfl)) rfl hm.1 ?_
      rintro _ _ ⟨rfl, rfl⟩
      refine cV3I (q := 34) C R rfl (by decide +kernel) lk_X7_263 (c_X7_coversAt hm M W hr hp (by omega)) (by decide) (by decide) (by decide) rfl (by first | exact Nat.le_of_ble_eq_true rfl | (simp only [List.map_cons, List.map_nil, List.sum_cons, List.sum_nil, rv_cat]; exact Nat.le_of_ble_eq_true rfl)) rfl hm.1 ?_
      rintro _ _ ⟨rfl, rfl⟩
      refine r_if_ne (q := 37) (off := 7) (tgt := 41) C rfl (by decide +kernel) (by decide) (fun c34 => ?_) (fun c34 => ?_)
      · have ht0 : false = true ↔ σ.cA r p (12 * σ.gr) = false ∧ ∀ c, c < 0 → σ.cA r p c = true → σ.fre c = true := ⟨(fun e => nomatch e), fun e => by rw [(b2i_n0 _).mp c34] at e; exact absurd e.1 (by decide)⟩
        refine r_iconst (q := 42) (z := 0) (v := b2i false) C rfl (by decide +kernel) (by decide) ?_
        refine r_istore_n (q := 43) (z := 3) C 3 rfl (by decide +kernel) rfl (by decide) (by first | rfl | exact okst_rv rfl) ?_
        dsimp only [List.set]
        refine r_iconst (q := 44) (z := 0) (v := 0) C rfl (by decide +kernel) (by decide) ?_
        refine r_istore (q := 46) C 4 rfl (by decide +kernel) (by decide) (by first | rfl | exact okst_rv rfl) ?_
        dsimp only [List.set]
        exact L46 121 0 _ (by omega) (by omega) (ht3.mp ((b2i_n0 _).mp c6)) ((b2i_n0 _).mp c19) ht0
      · have ht0 : true = true ↔ σ.cA r p (12 * σ.gr) = false ∧ ∀ c, c < 0 → σ.cA r p c = true → σ.fre c = true := ⟨fun _ => ⟨(b2i_0 _).mp c34, fun c hc => absurd hc (Nat.not_lt_zero c)⟩, fun _ => rfl⟩
        refine r_iconst (q := 38) (z := 1) (v := b2i true) C rfl (by decide +kernel) (by decide) ?_
        refine r_goto (off := 4) (tgt := 42) C (by decide +kernel) (by decide) ?_
        refine r_istore_n (q := 43) (z := 3) C 3 rfl (by decide +kernel) rfl (by decide) (by first | rfl | exact okst_rv rfl) ?_
        dsimp only [List.set]
        refine r_iconst (q := 44) (z := 0) (v := 0) C rfl (by decide +kernel) (by decide) ?_
        refine r_istore (q := 46) C 4 rfl (by decide +kernel) (by decide) (by first | rfl | exact okst_rv rfl) ?_
        dsimp only [List.set]
        exact L46 121 0 _ (by omega) (by omega) (ht3.mp ((b2i_n0 _).mp c6)) ((b2i_n0 _).mp c19) ht0
    · refine r_iconst (q := 23) (z := 0) (v := 0) C rfl (by decide +kernel) (by decide) ?_
      exact r_zret C (by decide +kernel) rfl (by first | decide | exact b2i_nar _) (by decide) (by decide) ⟨_, rfl, ⟨false, rfl, ⟨(fun e => nomatch e), fun e => by first | exact absurd (ht3.mpr e.1) (by rw [(b2i_0 _).mp c6]; decide) | (have := e.2.1; rw [(b2i_0 _).mp c19] at this; exact this)⟩, rfl⟩⟩
end
section
/-! ===== what a call leaves alone; choices by any proposition ===== -/
noncomputable def cif {α : Type} (P : Prop) (a b : α) : α := @ite α P (Classical.propDecidable P) a b
theorem cif_t {α : Type} {P : Prop} {a b : α} (h : P) : cif P a b = a := @if_pos P (Classical.propDecidable P) h α a b
theorem cif_f {α : Type} {P : Prop} {a b : α} (h : ¬ P) : cif P a b = b := @if_neg P (Classical.propDecidable P) h α a b
theorem cif_b {P : Prop} {t : Bool} (h : t = true ↔ P) : b2i t = cif P 1 0 := by
  cases t with
  | true => rw [cif_t (h.mp rfl)]; rfl
  | false => rw [cif_f (fun e => by cases h.mpr e)]; rfl
/-- but the fields of B and the arrays of labels in A, nothing changes -/
def Fm (A B : List Nat) (h h' : HP) : Prop := h'.kd = h.kd ∧ h'.fr = h.fr ∧ h'.gl = h.gl ∧ h'.ar = h.ar ∧ (∀ g a, g ∉ B → h'.fi g a = h.fi g a) ∧ ∀ a, h.gl a ∉ A → h'.ai a = h.ai a ∧ h'.al a = h.al a
theorem Fm.rf {A B : List Nat} {h : HP} : Fm A B h h := ⟨rfl, rfl, rfl, rfl, fun _ _ _ => rfl, fun _ _ => ⟨rfl, rfl⟩⟩
theorem Fm.tr {A B : List Nat} {h h1 h2 : HP} (a : Fm A B h h1) (b : Fm A B h1 h2) : Fm A B h h2 := by
  obtain ⟨a1, a2, a3, a4, a5, a6⟩ := a
  obtain ⟨b1, b2, b3, b4, b5, b6⟩ := b
  exact ⟨b1.trans a1, b2.trans a2, b3.trans a3, b4.trans a4, fun g x hg => (b5 g x hg).trans (a5 g x hg), fun x hx => ⟨(b6 x (by rw [a3]; exact hx)).1.trans (a6 x hx).1, (b6 x (by rw [a3]; exact hx)).2.trans (a6 x hx).2⟩⟩
theorem Fm.mono {A B A' B' : List Nat} {h h' : HP} (a : Fm A B h h') (hA : ∀ x ∈ A, x ∈ A') (hB : ∀ x ∈ B, x ∈ B') : Fm A' B' h h' := by
  obtain ⟨a1, a2, a3, a4, a5, a6⟩ := a
  exact ⟨a1, a2, a3, a4, fun g x hg => a5 g x (fun e => hg (hB g e)), fun x hx => a6 x (fun e => hx (hA _ e))⟩
theorem Fm.row {A B : List Nat} {h h' : HP} (a : Fm A B h h') {b : Nat} {f : Nat → Int32} (hb : h.gl b ∈ A) : Fm A B h (h'.row b f) := by
  obtain ⟨a1, a2, a3, a4, a5, a6⟩ := a
  refine ⟨a1, a2, a3, a4, a5, fun x hx => ⟨?_, (a6 x hx).2⟩⟩
  rw [ai_row_ne (fun e => hx (by rw [e]; exact hb))]
  exact (a6 x hx).1
theorem Fm.rowL {A B : List Nat} {h h' : HP} (a : Fm A B h h') {b : Nat} {f : Nat → Int64} (hb : h.gl b ∈ A) : Fm A B h (h'.rowL b f) := by
  obtain ⟨a1, a2, a3, a4, a5, a6⟩ := a
  refine ⟨a1, a2, a3, a4, a5, fun x hx => ⟨(a6 x hx).1, ?_⟩⟩
  rw [al_rowL_ne (fun e => hx (by rw [e]; exact hb))]
  exact (a6 x hx).2
theorem Fm.setI {A B : List Nat} {h h' : HP} (a : Fm A B h h') {g b : Nat} {v : Int32} (hg : g ∈ B) : Fm A B h (h'.setI g b v) := by
  obtain ⟨a1, a2, a3, a4, a5, a6⟩ := a
  exact ⟨a1, a2, a3, a4, fun g' x hg' => by rw [fi_ne (fun e => hg' (by rw [e]; exact hg))]; exact a5 g' x hg', a6⟩
theorem LM.fm {A B : List Nat} {h h' : HP} {m : Nat} (F : Fm A B h h') (hm : LM h.kd h.gl h.fr m) : LM h'.kd h'.gl h'.fr m := by
  rw [F.1, F.2.1, F.2.2.1]; exact hm
theorem MR.fm {σ : SG} {A B : List Nat} {h h' : HP} {m : Nat} (F : Fm A B h h') (hm : LM h.kd h.gl h.fr m) (hA : ∀ x ∈ mP, x ∉ A) (hB : 472 ∉ B ∧ 485 ∉ B ∧ 483 ∉ B) (M : MR σ h m) : MR σ h' m := by
  obtain ⟨h1, h2, h3, a0, a1, a2, a3, a4, a5, a6, a7, a8, a9, a10⟩ := M
  obtain ⟨f1, f2, f3, f4, f5, f6⟩ := F
  have key : ∀ (g : Nat), g ∈ mP → h.gl (h.fr g m) = g → h'.ai (h'.fr g m) = h.ai (h.fr g m) := fun g hg e => by
    rw [f2]; exact (f6 _ (by rw [e]; exact hA g hg)).1
  refine ⟨(f5 _ _ hB.1).trans h1, (f5 _ _ hB.2.1).trans h2, (f5 _ _ hB.2.2).trans h3, ?_, ?_, ?_, ?_, ?_, ?_, ?_, ?_, ?_, ?_, ?_⟩
  · rw [key 473 (by decide) hm.g473]; exact a0
  · rw [key 474 (by decide) hm.g474]; exact a1
  · rw [key 475 (by decide) hm.g475]; exact a2
  · rw [key 476 (by decide) hm.g476]; exact a3
  · rw [key 477 (by decide) hm.g477]; exact a4
  · rw [key 478 (by decide) hm.g478]; exact a5
  · rw [key 479 (by decide) hm.g479]; exact a6
  · rw [key 480 (by decide) hm.g480]; exact a7
  · rw [key 481 (by decide) hm.g481]; exact a8
  · rw [key 482 (by decide) hm.g482]; exact a9
  · rw [key 484 (by decide) hm.g484]; exact a10
theorem Fm.sc {A B : List Nat} {h h' : HP} {m : Nat} {f g : Nat → Int32} (a : Fm A B h h') (hm : LM h.kd h.gl h.fr m) (h1 : 486 ∈ A) (h2 : 487 ∈ A) : Fm A B h (scr h' m f g) := by
  unfold scr
  refine Fm.row (Fm.row a ?_) ?_
  · rw [a.2.1, hm.g486]; exact h1
  · rw [a.2.1, hm.g487]; exact h2
theorem ride_of {x : Int32} {n : Nat} (hn : n ≤ 10) (h : 0 ≤ x ∧ x < nI n) : ∃ r, r < n ∧ x = nI r := by
  obtain ⟨j, hj, rfl⟩ := nI_of (Int32.not_lt.mpr h.1)
  exact ⟨j, (nI_ltI hj (by omega)).mp h.2, rfl⟩
theorem ride_ok {r n : Nat} (hn : n ≤ 10) (h : r < n) : 0 ≤ nI r ∧ nI r < nI n := ⟨nI_pos' (by omega), nI_lt h (by omega)⟩
/-- the place of a spot at x, y -/
def plc (x y : Int32) (t : Bool) : Nat := (2 * (12 * y + x) + (if t then 1 else 0) : Int32).toNatClampNeg
theorem plc_of {x y : Int32} {t : Bool} (h : hasC x y = true) : ∃ a b : Nat, a < 12 ∧ b < 10 ∧ x = nI a ∧ y = nI b ∧ plc x y t < 240 ∧ (2 : Int32) * (12 * y + x) + (if t then 1 else 0) = nI (plc x y t) ∧ plc x y t = 2 * (12 * b + a) + (if t then 1 else 0) := by
  obtain ⟨a, b, ha, hb, rfl, rfl⟩ := hasC_of h
  have e : plc (nI a) (nI b) t = 2 * (12 * b + a) + (if t then 1 else 0) := by
    unfold plc; rw [placeOf_nI]; exact nI_clamp (by split <;> omega)
  refine ⟨a, b, ha, hb, rfl, rfl, ?_, ?_, e⟩
  · rw [e]; split <;> omega
  · rw [placeOf_nI, e]
/-! the answers -/
noncomputable def fitsV (σ : SG) (x a b : Int32) (t : Bool) : Int32 := cif (0 ≤ x ∧ x < nI σ.n) (cif (σ.li x.toNatClampNeg < 240) (-1) (cif (hasC a b = true ∧ σ.fit x.toNatClampNeg (plc a b t)) 1 0)) (-1)
/-- lay: whether it is done -/
def layP (σ : SG) (x a b : Int32) (t : Bool) : Prop := (0 ≤ x ∧ x < nI σ.n) ∧ ¬ σ.li x.toNatClampNeg < 240 ∧ hasC a b = true ∧ σ.fit x.toNatClampNeg (plc a b t)
def upN {α : Type} (f : Nat → α) (k : Nat) (v : α) : Nat → α := fun j => if j = k then v else f j
theorem upN_s {α : Type} {f : Nat → α} {k : Nat} {v : α} : upN f k v k = v := if_pos rfl
theorem upN_n {α : Type} {f : Nat → α} {k j : Nat} {v : α} (h : j ≠ k) : upN f k v j = f j := if_neg h
theorem MR.li_up {σ : SG} {h : HP} {m r p : Nat} (hm : LM h.kd h.gl h.fr m) (M : MR σ h m) {v : Int32} (hv : v = pl p) : MR (σ.li_ (upN σ.li r p)) (h.row (h.fr 478 m) (upd (h.ai (h.fr 478 m)) r v)) m := by
  obtain ⟨h1, h2, h3, a0, a1, a2, a3, a4, a5, a6, a7, a8, a9, a10⟩ := M
  have key : ∀ (g : Nat), h.gl (h.fr g m) = g → g ≠ 478 → (h.row (h.fr 478 m) (upd (h.ai (h.fr 478 m)) r v)).ai (h.fr g m) = h.ai (h.fr g m) := fun g e hg => ai_row_ne (gl_ne e hm.g478 hg)
  refine ⟨h1, h2, h3, ?_, ?_, ?_, ?_, ?_, ?_, ?_, ?_, ?_, ?_, ?_⟩
  · rw [fr_row, key 473 hm.g473 (by decide)]; exact a0
  · rw [fr_row, key 474 hm.g474 (by decide)]; exact a1
  · rw [fr_row, key 475 hm.g475 (by decide)]; exact a2
  · rw [fr_row, key 476 hm.g476 (by decide)]; exact a3
  · rw [fr_row, key 477 hm.g477 (by decide)]; exact a4
  · intro j hj
    rw [fr_row, ai_row_eq]
    show (if j = r then v else h.ai (h.fr 478 m) j) = pl (upN σ.li r p j)
    by_cases e : j = r
    · rw [if_pos e, e, upN_s, hv]
    · rw [if_neg e, upN_n e]; exact a5 j hj
  · rw [fr_row, key 479 hm.g479 (by decide)]; exact a6
  · rw [fr_row, key 480 hm.g480 (by decide)]; exact a7
  · rw [fr_row, key 481 hm.g481 (by decide)]; exact a8
  · rw [fr_row, key 482 hm.g482 (by decide)]; exact a9
  · rw [fr_row, key 484 hm.g484 (by decide)]; exact a10
def lyN (σ : SG) (k : Nat) : Nat := cnt (fun r => decide (σ.li r < 240)) k
theorem lyN_y {σ : SG} {k : Nat} (h : σ.li k < 240) : lyN σ (k + 1) = lyN σ k + 1 := by simp [lyN, cnt, h]
theorem lyN_n {σ : SG} {k : Nat} (h : ¬ σ.li k < 240) : lyN σ (k + 1) = lyN σ k := by simp [lyN, cnt, h]
theorem lyN_le (σ : SG) (k : Nat) : lyN σ k ≤ k := cnt_le _ _

theorem c_X7_fitsAt {G : GT} {h : HP} {m : Nat} {σ : SG} {r p : Nat} (hm : LM h.kd h.gl h.fr m) (M : MR σ h m) (W : WF σ) (hr : r < σ.n) (hp : p < 240) : Con G 7 0 0 yX7_fitsAt cX7_fitsAt 4 (some .boolean) [rv m, .int (nI r), .int (nI p)] h (PI (fun v h' => ∃ (t : Bool) (f g : Nat → Int32), b2i t = v ∧ (t = true ↔ σ.fit r p) ∧ scr h m f g = h')) := by
  refine Con.of (lv := [some (rv m), some (.int (nI r)), some (.int (nI p)), none]) (by decide) (by simp only [lvE_r, lvE_i, lvE_l, lvE_s, lvE_0]; rfl) (by simp only [lgl_r, lgl_i, lgl_l, lgl_s, lgl_0]; decide) (fun Γ C R => ?_)
  have r10 := W.n10
  have g10 := W.gr10
  have M2 : ∀ f, MR σ (h.row (h.fr 486 m) f) m := fun f => M.row hm (by rw [hm.g486]; decide)
  have hne : h.fr 487 m ≠ h.fr 486 m := gl_ne hm.g487 hm.g486 (by decide)
  refine r_aload_n (q := 1) (z := 0) C 0 rfl (by decide +kernel) rfl rfl ?_
  refine r_iload_n (q := 2) (z := 1) C 1 rfl (by decide +kernel) rfl rfl ?_
  refine r_iload_n (q := 3) (z := 2) C 2 rfl (by decide +kernel) rfl rfl ?_
  refine cV2I (q := 6) C R rfl (by decide +kernel) lk_X7_313 (c_X7_isRoom hm M W hr hp) (by decide) (by decide) (by decide) rfl (by first | exact Nat.le_of_ble_eq_true rfl | (simp only [List.map_cons, List.map_nil, List.sum_cons, List.sum_nil, rv_cat]; exact Nat.le_of_ble_eq_true rfl)) rfl hm.1 ?_
  rintro _ _ ⟨t3, rfl, ht3, rfl⟩
  refine r_if_ne (q := 9) (off := 5) (tgt := 11) C rfl (by decide +kernel) (by decide) (fun c6 => ?_) (fun c6 => ?_)
  · refine r_aload_n (q := 12) (z := 0) C 0 rfl (by decide +kernel) rfl rfl ?_
    refine cV0V (q := 15) C R rfl (by decide +kernel) lk_X7_298 (c_X7_barsAll hm M W) (by decide) (by decide) (by decide) rfl (by first | exact Nat.le_of_ble_eq_true rfl | (simp only [List.map_cons, List.map_nil, List.sum_cons, List.sum_nil, rv_cat]; exact Nat.le_of_ble_eq_true rfl)) rfl hm.1 ?_
    rintro _ rfl
    refine r_iconst (q := 16) (z := 0) (v := 0) C rfl (by decide +kernel) (by decide) ?_
    refine r_istore_n (q := 17) (z := 3) C 3 rfl (by decide +kernel) rfl (by decide) (by first | rfl | exact okst_rv rfl) ?_
    dsimp only [List.set]
    have L17 : ∀ (fuel17 : Nat) (i : Nat), 120 - i < fuel17 → (i ≤ 120) → wX G Γ (qM G Γ (PI (fun v h' => ∃ (t : Bool) (f g : Nat → Int32), b2i t = v ∧ (t = true ↔ σ.fit r p) ∧ scr h m f g = h')) 0 0) 0 0 (h.row (h.fr 486 m) (mix (fun c => b2i (σ.bar r p c)) (mix (fun c => b2i (!σ.fre c)) (h.ai (h.fr 486 m)) 120) i)) 17 [some (rv m), some (.int (nI r)), some (.int (nI p)), some (.int (nI i))] [] := by
      intro fuel17
      induction fuel17 with
      | zero =>
        intro i hm17
        exact absurd hm17 (Nat.not_lt_zero _)
      | succ fuel17 ih17 =>
        intro i hm17 hi
        refine r_iload_n (q := 18) (z := 3) C 3 rfl (by decide +kernel) rfl rfl ?_
        refine r_bipush (q := 20) (z := 120) (v := 120) C rfl (by decide +kernel) (by decide) ?_
        refine r_icmp_ge (q := 23) (off := 39) (tgt := 59) C rfl (by decide +kernel) (by decide) (fun c20 => ?_) (fun c20 => ?_)
        · have ez : i = 120 := by have := (nI_leI (a := 120) (by omega) (by omega)).mp c20; omega
          subst ez
          refine r_aload_n (q := 60) (z := 0) C 0 rfl (by decide +kernel) rfl rfl ?_
          refine cV0I (q := 63) C R rfl (by decide +kernel) lk_X7_301 (c_X7_areDoorsJoined (bar := σ.bar r p) hm (M2 _) W (fun c hc => by rw [fr_row, ai_row_eq, mix_in hc])) (by decide) (by decide) (by decide) rfl (by first | exact Nat.le_of_ble_eq_true rfl | (simp only [List.map_cons, List.map_nil, List.sum_cons, List.sum_nil, rv_cat]; exact Nat.le_of_ble_eq_true rfl)) rfl hm.1 ?_
          rintro _ _ ⟨f60, rb60, t60, rfl, rfl, hF60, hR60, ht60⟩
          refine r_if_eq (q := 66) (off := 21) (tgt := 84) C rfl (by decide +kernel) (by decide) (fun c63 => ?_) (fun c63 => ?_)
          · refine r_iconst (q := 85) (z := 0) (v := 0) C rfl (by decide +kernel) (by decide) ?_
            exact r_zret C (by decide +kernel) rfl (by first | decide | exact b2i_nar _) (by decide) (by decide) ⟨_, rfl, (by first | exact ⟨false, _, _, rfl, ⟨(fun e => nomatch e), fun e => by have := ht60.mpr (fun q hq hl => (hR60 _ (W.dr hq hl)).mpr (e.2.1 q hq hl)); rw [(b2i_0 _).mp c63] at this; exact this⟩, rfl⟩ | exact ⟨false, _, _, rfl, ⟨(fun e => nomatch e), fun e => by have := (hR60 _ hdl).mpr e.2.2; rw [(b2i_0 _).mp c77] at this; exact this⟩, rfl⟩ | exact ⟨true, _, _, rfl, ⟨fun _ => ⟨ht3.mp ((b2i_n0 _).mp c6), fun q hq hl => (hR60 _ (W.dr hq hl)).mp (ht60.mp ((b2i_n0 _).mp c63) q hq hl), (hR60 _ hdl).mp ((b2i_n0 _).mp c77)⟩, fun _ => rfl⟩, rfl⟩)⟩
          · have hon := (ht3.mp ((b2i_n0 _).mp c6)).1
            have hdl := hon.door W hr
            refine r_aload_n (q := 67) (z := 0) C 0 rfl (by decide +kernel) rfl rfl ?_
            refine r_getR (q := 70) C 7 39 487 rfl (by decide +kernel) rfl (by decide) rfl rfl wf_X7_124 win7 hm.1 ?_
            refine r_aload_n (q := 71) (z := 0) C 0 rfl (by decide +kernel) rfl rfl ?_
            refine r_iload_n (q := 72) (z := 1) C 1 rfl (by decide +kernel) rfl rfl ?_
            refine r_iload_n (q := 73) (z := 2) C 2 rfl (by decide +kernel) rfl rfl ?_
            refine cV2I (q := 76) C R rfl (by decide +kernel) lk_X7_274 (c_X7_doorAt hm (MR.row (h := h.row (h.fr 486 m) _) hm (M2 _) (by rw [gl_row, fr_row, hm.g487]; decide)) W hr hp) (by decide) (by decide) (by decide) rfl (by first | exact Nat.le_of_ble_eq_true rfl | (simp only [List.map_cons, List.map_nil, List.sum_cons, List.sum_nil, rv_cat]; exact Nat.le_of_ble_eq_true rfl)) rfl hm.1 ?_
            rintro _ _ ⟨rfl, rfl⟩
            refine r_zald (q := 77) C rfl (by decide +kernel) hm.k487 (vp_in_nI hdl (by decide)) ?_
            try simp only [fr_row]
            rw [nI_clamp (by omega), ai_row_eq, hF60 _ hdl]
            refine r_if_eq (q := 80) (off := 7) (tgt := 84) C rfl (by decide +kernel) (by decide) (fun c77 => ?_) (fun c77 => ?_)
            · refine r_iconst (q := 85) (z := 0) (v := 0) C rfl (by decide +kernel) (by decide) ?_
              exact r_zret C (by decide +kernel) rfl (by first | decide | exact b2i_nar _) (by decide) (by decide) ⟨_, rfl, (by first | exact ⟨false, _, _, rfl, ⟨(fun e => nomatch e), fun e => by have := ht60.mpr (fun q hq hl => (hR60 _ (W.dr hq hl)).mpr (e.2.1 q hq hl)); rw [(b2i_0 _).mp c63] at this; exact this⟩, rfl⟩ | exact ⟨false, _, _, rfl, ⟨(fun e => nomatch e), fun e => by have := (hR60 _ hdl).mpr e.2.2; rw [(b2i_0 _).mp c77] at this; exact this⟩, rfl⟩ | exact ⟨true, _, _, rfl, ⟨fun _ => ⟨ht3.mp ((b2i_n0 _).mp c6), fun q hq hl => (hR60 _ (W.dr hq hl)).mp (ht60.mp ((b2i_n0 _).mp c63) q hq hl), (hR60 _ hdl).mp ((b2i_n0 _).mp c77)⟩, fun _ => rfl⟩, rfl⟩)⟩
            · refine r_iconst (q := 81) (z := 1) (v := 1) C rfl (by decide +kernel) (by decide) ?_
              refine r_goto (off := 4) (tgt := 85) C (by decide +kernel) (by decide) ?_
              exact r_zret C (by decide +kernel) rfl (by first | decide | exact b2i_nar _) (by decide) (by decide) ⟨_, rfl, (by first | exact ⟨false, _, _, rfl, ⟨(fun e => nomatch e), fun e => by have := ht60.mpr (fun q hq hl => (hR60 _ (W.dr hq hl)).mpr (e.2.1 q hq hl)); rw [(b2i_0 _).mp c63] at this; exact this⟩, rfl⟩ | exact ⟨false, _, _, rfl, ⟨(fun e => nomatch e), fun e => by have := (hR60 _ hdl).mpr e.2.2; rw [(b2i_0 _).mp c77] at this; exact this⟩, rfl⟩ | exact ⟨true, _, _, rfl, ⟨fun _ => ⟨ht3.mp ((b2i_n0 _).mp c6), fun q hq hl => (hR60 _ (W.dr hq hl)).mp (ht60.mp ((b2i_n0 _).mp c63) q hq hl), (hR60 _ hdl).mp ((b2i_n0 _).mp c77)⟩, fun _ => rfl⟩, rfl⟩)⟩
        · have hlt : i < 120 := Nat.lt_of_not_le (fun e => c20 (nI_le (a := 120) e (by omega)))
          refine r_aload_n (q := 24) (z := 0) C 0 rfl (by decide +kernel) rfl rfl ?_
          refine r_getR (q := 27) C 7 38 486 rfl (by decide +kernel) rfl (by decide) rfl rfl wf_X7_121 win7 hm.1 ?_
          refine r_iload_n (q := 28) (z := 3) C 3 rfl (by decide +kernel) rfl rfl ?_
          refine r_aload_n (q := 29) (z := 0) C 0 rfl (by decide +kernel) rfl rfl ?_
          refine r_getR (q := 32) C 7 38 486 rfl (by decide +kernel) rfl (by decide) rfl rfl wf_X7_121 win7 hm.1 ?_
          refine r_iload_n (q := 33) (z := 3) C 3 rfl (by decide +kernel) rfl rfl ?_
          refine r_zald (q := 34) C rfl (by decide +kernel) hm.k486 (vp_in_nI hlt (by decide)) ?_
          try simp only [fr_row]
          rw [nI_clamp (by omega), ai_row_eq, mix_out (Nat.le_refl i), mix_in hlt]
          refine r_if_ne (q := 37) (off := 13) (tgt := 47) C rfl (by decide +kernel) (by decide) (fun c34 => ?_) (fun c34 => ?_)
          · have e52 : b2i (σ.bar r p i) = 1 := by rw [show σ.bar r p i = true by unfold SG.bar; rw [(b2i_n0 _).mp c34]; rfl]; rfl
            refine r_iconst (q := 48) (z := 1) (v := b2i (σ.bar r p i)) C rfl (by decide +kernel) (by rw [e52]; decide) ?_
            refine r_goto (off := 4) (tgt := 52) C (by decide +kernel) (by decide) ?_
            refine r_zast (q := 53) C rfl (by decide +kernel) (by first | exact b2i_vn _ | rfl) hm.k486 (vp_in_nI hlt (by decide)) ?_
            try simp only [fr_row]
            rw [row_stI, nI_clamp (by omega), mix_s (fun c => b2i (σ.bar r p c))]
            refine r_iinc (q := 56) (z := 1) (v := 1) C 3 rfl (by decide +kernel) rfl (by decide) (by decide) (by first | rfl | exact okst_rv rfl) ?_
            dsimp only [List.set]
            rw [nI_1]
            refine r_goto (off := -39) (tgt := 17) C (by decide +kernel) (by decide) ?_
            exact ih17 (i + 1) (by omega) (by omega)
          · refine r_aload_n (q := 38) (z := 0) C 0 rfl (by decide +kernel) rfl rfl ?_
            refine r_iload_n (q := 39) (z := 1) C 1 rfl (by decide +kernel) rfl rfl ?_
            refine r_iload_n (q := 40) (z := 2) C 2 rfl (by decide +kernel) rfl rfl ?_
            refine r_iload_n (q := 41) (z := 3) C 3 rfl (by decide +kernel) rfl rfl ?_
            refine cV3I (q := 44) C R rfl (by decide +kernel) lk_X7_263 (c_X7_coversAt hm (M2 _) W hr hp (by omega)) (by decide) (by decide) (by decide) rfl (by first | exact Nat.le_of_ble_eq_true rfl | (simp only [List.map_cons, List.map_nil, List.sum_cons, List.sum_nil, rv_cat]; exact Nat.le_of_ble_eq_true rfl)) rfl hm.1 ?_
            rintro _ _ ⟨rfl, rfl⟩
            refine r_if_eq (q := 47) (off := 7) (tgt := 51) C rfl (by decide +kernel) (by decide) (fun c44 => ?_) (fun c44 => ?_)
            · have e52 : b2i (σ.bar r p i) = 0 := by rw [show σ.bar r p i = false by unfold SG.bar; rw [(b2i_0 _).mp c34, (b2i_0 _).mp c44]; rfl]; rfl
              refine r_iconst (q := 52) (z := 0) (v := b2i (σ.bar r p i)) C rfl (by decide +kernel) (by rw [e52]; decide) ?_
              refine r_zast (q := 53) C rfl (by decide +kernel) (by first | exact b2i_vn _ | rfl) hm.k486 (vp_in_nI hlt (by decide)) ?_
              try simp only [fr_row]
              rw [row_stI, nI_clamp (by omega), mix_s (fun c => b2i (σ.bar r p c))]
              refine r_iinc (q := 56) (z := 1) (v := 1) C 3 rfl (by decide +kernel) rfl (by decide) (by decide) (by first | rfl | exact okst_rv rfl) ?_
              dsimp only [List.set]
              rw [nI_1]
              refine r_goto (off := -39) (tgt := 17) C (by decide +kernel) (by decide) ?_
              exact ih17 (i + 1) (by omega) (by omega)
            · have e52 : b2i (σ.bar r p i) = 1 := by rw [show σ.bar r p i = true by unfold SG.bar; rw [(b2i_n0 _).mp c44, Bool.or_true]]; rfl
              refine r_iconst (q := 48) (z := 1) (v := b2i (σ.bar r p i)) C rfl (by decide +kernel) (by rw [e52]; decide) ?_
              refine r_goto (off := 4) (tgt := 52) C (by decide +kernel) (by decide) ?_
              refine r_zast (q := 53) C rfl (by decide +kernel) (by first | exact b2i_vn _ | rfl) hm.k486 (vp_in_nI hlt (by decide)) ?_
              try simp only [fr_row]
              rw [row_stI, nI_clamp (by omega), mix_s (fun c => b2i (σ.bar r p c))]
              refine r_iinc (q := 56) (z := 1) (v := 1) C 3 rfl (by decide +kernel) rfl (by decide) (by decide) (by first | rfl | exact okst_rv rfl) ?_
              dsimp only [List.set]
              rw [nI_1]
              refine r_goto (off := -39) (tgt := 17) C (by decide +kernel) (by decide) ?_
              exact ih17 (i + 1) (by omega) (by omega)
    have z0 := L17 121 0 (by omega) (by omega)
    rw [mix_0] at z0
    exact z0
  · refine r_iconst (q := 10) (z := 0) (v := 0) C rfl (by decide +kernel) (by decide) ?_
    exact r_zret C (by decide +kernel) rfl (by first | decide | exact b2i_nar _) (by decide) (by decide) ⟨_, rfl, ⟨false, _, _, rfl, ⟨(fun e => nomatch e), fun e => by rw [(b2i_0 _).mp c6] at ht3; exact ht3.mpr e.1⟩, scr_self⟩⟩
theorem c_X7_placeOf {G : GT} {h : HP} {x y : Int32} {t : Bool} : Con G 1 0 0 yX7_placeOf cX7_placeOf 3 (some .int) [.int x, .int y, .int (b2i t)] h (PI (fun v h' => 2 * (12 * y + x) + (if t then 1 else 0) = v ∧ h = h')) := by
  refine Con.of (lv := [some (.int x), some (.int y), some (.int (b2i t))]) (by decide) (by simp only [lvE_r, lvE_i, lvE_l, lvE_s, lvE_0]; rfl) (by simp only [lgl_r, lgl_i, lgl_l, lgl_s, lgl_0]; decide) (fun Γ C R => ?_)
  refine r_iconst (q := 1) (z := 2) (v := 2) C rfl (by decide +kernel) (by decide) ?_
  refine r_bipush (q := 3) (z := 12) (v := 12) C rfl (by decide +kernel) (by decide) ?_
  refine r_iload_n (q := 4) (z := 1) C 1 rfl (by decide +kernel) rfl rfl ?_
  refine r_imul (q := 5) C rfl (by decide +kernel) ?_
  refine r_iload_n (q := 6) (z := 0) C 0 rfl (by decide +kernel) rfl rfl ?_
  refine r_iadd (q := 7) C rfl (by decide +kernel) ?_
  refine r_imul (q := 8) C rfl (by decide +kernel) ?_
  refine r_iload_n (q := 9) (z := 2) C 2 rfl (by decide +kernel) rfl rfl ?_
  refine r_if_eq (q := 12) (off := 7) (tgt := 16) C rfl (by decide +kernel) (by decide) (fun c9 => ?_) (fun c9 => ?_)
  · refine r_iconst (q := 17) (z := 0) (v := 0) C rfl (by decide +kernel) (by decide) ?_
    refine r_iadd (q := 18) C rfl (by decide +kernel) ?_
    exact r_iret C (by decide +kernel) rfl (by decide) (by decide) ⟨_, rfl, ⟨by clear C R; simp_all [b2i_0, b2i_n0], rfl⟩⟩
  · refine r_iconst (q := 13) (z := 1) (v := 1) C rfl (by decide +kernel) (by decide) ?_
    refine r_goto (off := 4) (tgt := 17) C (by decide +kernel) (by decide) ?_
    refine r_iadd (q := 18) C rfl (by decide +kernel) ?_
    exact r_iret C (by decide +kernel) rfl (by decide) (by decide) ⟨_, rfl, ⟨by clear C R; simp_all [b2i_0, b2i_n0], rfl⟩⟩
theorem c_X7_fits {G : GT} {h : HP} {m : Nat} {σ : SG} {x a b : Int32} {t : Bool} (hm : LM h.kd h.gl h.fr m) (M : MR σ h m) (W : WF σ) : Con G 8 0 0 yX7_fits cX7_fits 5 (some .int) [rv m, .int x, .int a, .int b, .int (b2i t)] h (PI (fun v h' => fitsV σ x a b t = v ∧ MR σ h' m ∧ Fm [486, 487] [448] h h')) := by
  refine Con.of (lv := [some (rv m), some (.int x), some (.int a), some (.int b), some (.int (b2i t))]) (by decide) (by simp only [lvE_r, lvE_i, lvE_l, lvE_s, lvE_0]; rfl) (by simp only [lgl_r, lgl_i, lgl_l, lgl_s, lgl_0]; decide) (fun Γ C R => ?_)
  have r10 := W.n10
  have M1 : MR σ (h.setI 448 m 0) m := M.setI (by decide) (by decide) (by decide)
  refine r_aload_n (q := 1) (z := 0) C 0 rfl (by decide +kernel) rfl rfl ?_
  refine r_iconst (q := 2) (z := 0) (v := 0) C rfl (by decide +kernel) (by decide) ?_
  refine r_putI (q := 5) C 7 0 448 rfl (by decide +kernel) rfl (by decide) rfl rfl wf_X7_1 win7 tyX7 tyX7_ok nmX7 rfl (tyX7_ok 0 (by decide)) rfl wnd7 rfl rfl hm.1 ?_
  refine r_aload_n (q := 6) (z := 0) C 0 rfl (by decide +kernel) rfl rfl ?_
  refine r_iload_n (q := 7) (z := 1) C 1 rfl (by decide +kernel) rfl rfl ?_
  refine cV1I (q := 10) C R rfl (by decide +kernel) lk_X7_316 (c_X7_isRide hm M1) (by decide) (by decide) (by decide) rfl (by first | exact Nat.le_of_ble_eq_true rfl | (simp only [List.map_cons, List.map_nil, List.sum_cons, List.sum_nil, rv_cat]; exact Nat.le_of_ble_eq_true rfl)) rfl hm.1 ?_
  rintro _ _ ⟨rfl, rfl⟩
  refine r_if_eq (q := 13) (off := 12) (tgt := 22) C rfl (by decide +kernel) (by decide) (fun c10 => ?_) (fun c10 => ?_)
  · have c10 := of_decide_eq_false ((b2i_0 _).mp c10)
    refine r_iconst (q := 23) (z := (-1)) (v := (-1)) C rfl (by decide +kernel) (by decide) ?_
    exact r_iret C (by decide +kernel) rfl (by decide) (by decide) ⟨_, rfl, ⟨by first | exact cif_f c10 | (rw [fitsV, cif_t c10, nI_clamp (by omega), cif_t c19]), M1, Fm.rf.setI (by decide)⟩⟩
  · have c10 := of_decide_eq_true ((b2i_n0 _).mp c10)
    obtain ⟨r, hr, rfl⟩ := ride_of r10 c10
    refine r_aload_n (q := 14) (z := 0) C 0 rfl (by decide +kernel) rfl rfl ?_
    refine r_getR (q := 17) C 7 30 478 rfl (by decide +kernel) rfl (by decide) rfl rfl wf_X7_103 win7 hm.1 ?_
    refine r_iload_n (q := 18) (z := 1) C 1 rfl (by decide +kernel) rfl rfl ?_
    refine r_iald (q := 19) C rfl (by decide +kernel) hm.k478 (vp_in_nI (by omega) (by decide)) ?_
    rw [nI_clamp (by omega), M1.ali (by omega)]
    refine r_if_lt (q := 22) (off := 5) (tgt := 24) C rfl (by decide +kernel) (by decide) (fun c19 => ?_) (fun c19 => ?_)
    · have c19 := pl_neg.mp c19
      refine r_iload_n (q := 25) (z := 2) C 2 rfl (by decide +kernel) rfl rfl ?_
      refine r_iload_n (q := 26) (z := 3) C 3 rfl (by decide +kernel) rfl rfl ?_
      refine cS2I (q := 29) C R rfl (by decide +kernel) lk_X7_295 (c_X7_isCell ) (by decide) (by decide) (by decide) rfl (by first | exact Nat.le_of_ble_eq_true rfl | (simp only [List.map_cons, List.map_nil, List.sum_cons, List.sum_nil, rv_cat]; exact Nat.le_of_ble_eq_true rfl))  ?_
      rintro _ _ ⟨rfl, rfl⟩
      refine r_if_eq (q := 32) (off := 22) (tgt := 51) C rfl (by decide +kernel) (by decide) (fun c29 => ?_) (fun c29 => ?_)
      · have c29 := (b2i_0 _).mp c29
        refine r_iconst (q := 52) (z := 0) (v := 0) C rfl (by decide +kernel) (by decide) ?_
        exact r_iret C (by decide +kernel) rfl (by decide) (by decide) ⟨_, rfl, (by first | exact ⟨by rw [fitsV, cif_t c10, nI_clamp (by omega), cif_f c19, cif_f (fun e => by rw [c29] at e; exact absurd e.1 (by decide))], M1, Fm.rf.setI (by decide)⟩ | exact ⟨by rw [fitsV, cif_t c10, nI_clamp (by omega), cif_f c19, cif_f (fun e => by have := ht41.mpr e.2; rw [(b2i_0 _).mp c44] at this; cases this)], M1.scr hm, (Fm.rf.setI (by decide)).sc hm (by decide) (by decide)⟩ | exact ⟨by rw [fitsV, cif_t c10, nI_clamp (by omega), cif_f c19, cif_t ⟨c29, ht41.mp ((b2i_n0 _).mp c44)⟩], M1.scr hm, (Fm.rf.setI (by decide)).sc hm (by decide) (by decide)⟩)⟩
      · have c29 := (b2i_n0 _).mp c29
        obtain ⟨a0, b0, ha0, hb0, ea, eb, hp, ep, -⟩ := plc_of (t := t) c29
        refine r_aload_n (q := 33) (z := 0) C 0 rfl (by decide +kernel) rfl rfl ?_
        refine r_iload_n (q := 34) (z := 1) C 1 rfl (by decide +kernel) rfl rfl ?_
        refine r_iload_n (q := 35) (z := 2) C 2 rfl (by decide +kernel) rfl rfl ?_
        refine r_iload_n (q := 36) (z := 3) C 3 rfl (by decide +kernel) rfl rfl ?_
        refine r_iload (q := 38) C 4 rfl (by decide +kernel) rfl ?_
        refine cS3I (q := 41) C R rfl (by decide +kernel) lk_X7_319 (c_X7_placeOf ) (by decide) (by decide) (by decide) rfl (by first | exact Nat.le_of_ble_eq_true rfl | (simp only [List.map_cons, List.map_nil, List.sum_cons, List.sum_nil, rv_cat]; exact Nat.le_of_ble_eq_true rfl))  ?_
        rintro _ _ ⟨rfl, rfl⟩
        rw [ep]
        refine cV2I (q := 44) C R rfl (by decide +kernel) lk_X7_323 (c_X7_fitsAt hm M1 W hr hp) (by decide) (by decide) (by decide) rfl (by first | exact Nat.le_of_ble_eq_true rfl | (simp only [List.map_cons, List.map_nil, List.sum_cons, List.sum_nil, rv_cat]; exact Nat.le_of_ble_eq_true rfl)) rfl hm.1 ?_
        rintro _ _ ⟨t41, f41, g41, rfl, ht41, rfl⟩
        refine r_if_eq (q := 47) (off := 7) (tgt := 51) C rfl (by decide +kernel) (by decide) (fun c44 => ?_) (fun c44 => ?_)
        · refine r_iconst (q := 52) (z := 0) (v := 0) C rfl (by decide +kernel) (by decide) ?_
          exact r_iret C (by decide +kernel) rfl (by decide) (by decide) ⟨_, rfl, (by first | exact ⟨by rw [fitsV, cif_t c10, nI_clamp (by omega), cif_f c19, cif_f (fun e => by rw [c29] at e; exact absurd e.1 (by decide))], M1, Fm.rf.setI (by decide)⟩ | exact ⟨by rw [fitsV, cif_t c10, nI_clamp (by omega), cif_f c19, cif_f (fun e => by have := ht41.mpr e.2; rw [(b2i_0 _).mp c44] at this; cases this)], M1.scr hm, (Fm.rf.setI (by decide)).sc hm (by decide) (by decide)⟩ | exact ⟨by rw [fitsV, cif_t c10, nI_clamp (by omega), cif_f c19, cif_t ⟨c29, ht41.mp ((b2i_n0 _).mp c44)⟩], M1.scr hm, (Fm.rf.setI (by decide)).sc hm (by decide) (by decide)⟩)⟩
        · refine r_iconst (q := 48) (z := 1) (v := 1) C rfl (by decide +kernel) (by decide) ?_
          refine r_goto (off := 4) (tgt := 52) C (by decide +kernel) (by decide) ?_
          exact r_iret C (by decide +kernel) rfl (by decide) (by decide) ⟨_, rfl, (by first | exact ⟨by rw [fitsV, cif_t c10, nI_clamp (by omega), cif_f c19, cif_f (fun e => by rw [c29] at e; exact absurd e.1 (by decide))], M1, Fm.rf.setI (by decide)⟩ | exact ⟨by rw [fitsV, cif_t c10, nI_clamp (by omega), cif_f c19, cif_f (fun e => by have := ht41.mpr e.2; rw [(b2i_0 _).mp c44] at this; cases this)], M1.scr hm, (Fm.rf.setI (by decide)).sc hm (by decide) (by decide)⟩ | exact ⟨by rw [fitsV, cif_t c10, nI_clamp (by omega), cif_f c19, cif_t ⟨c29, ht41.mp ((b2i_n0 _).mp c44)⟩], M1.scr hm, (Fm.rf.setI (by decide)).sc hm (by decide) (by decide)⟩)⟩
    · have c19 := pl_nn.mp c19
      refine r_iconst (q := 23) (z := (-1)) (v := (-1)) C rfl (by decide +kernel) (by decide) ?_
      exact r_iret C (by decide +kernel) rfl (by decide) (by decide) ⟨_, rfl, ⟨by first | exact cif_f c10 | (rw [fitsV, cif_t c10, nI_clamp (by omega), cif_t c19]), M1, Fm.rf.setI (by decide)⟩⟩
theorem c_X7_lay_ {G : GT} {h : HP} {m : Nat} {σ : SG} {x a b : Int32} {t : Bool} (hm : LM h.kd h.gl h.fr m) (M : MR σ h m) (W : WF σ) : Con G 8 0 0 yX7_lay_ cX7_lay_ 5 (some .boolean) [rv m, .int x, .int a, .int b, .int (b2i t)] h (PI (fun v h' => cif (layP σ x a b t) 1 0 = v ∧ MR (cif (layP σ x a b t) (σ.li_ (upN σ.li x.toNatClampNeg (plc a b t))) σ) h' m ∧ Fm [486, 487, 478] [448] h h')) := by
  refine Con.of (lv := [some (rv m), some (.int x), some (.int a), some (.int b), some (.int (b2i t))]) (by decide) (by simp only [lvE_r, lvE_i, lvE_l, lvE_s, lvE_0]; rfl) (by simp only [lgl_r, lgl_i, lgl_l, lgl_s, lgl_0]; decide) (fun Γ C R => ?_)
  have r10 := W.n10
  have M1 : MR σ (h.setI 448 m 0) m := M.setI (by decide) (by decide) (by decide)
  refine r_aload_n (q := 1) (z := 0) C 0 rfl (by decide +kernel) rfl rfl ?_
  refine r_iconst (q := 2) (z := 0) (v := 0) C rfl (by decide +kernel) (by decide) ?_
  refine r_putI (q := 5) C 7 0 448 rfl (by decide +kernel) rfl (by decide) rfl rfl wf_X7_1 win7 tyX7 tyX7_ok nmX7 rfl (tyX7_ok 0 (by decide)) rfl wnd7 rfl rfl hm.1 ?_
  refine r_aload_n (q := 6) (z := 0) C 0 rfl (by decide +kernel) rfl rfl ?_
  refine r_iload_n (q := 7) (z := 1) C 1 rfl (by decide +kernel) rfl rfl ?_
  refine cV1I (q := 10) C R rfl (by decide +kernel) lk_X7_316 (c_X7_isRide hm M1) (by decide) (by decide) (by decide) rfl (by first | exact Nat.le_of_ble_eq_true rfl | (simp only [List.map_cons, List.map_nil, List.sum_cons, List.sum_nil, rv_cat]; exact Nat.le_of_ble_eq_true rfl)) rfl hm.1 ?_
  rintro _ _ ⟨rfl, rfl⟩
  refine r_if_eq (q := 13) (off := 35) (tgt := 45) C rfl (by decide +kernel) (by decide) (fun c10 => ?_) (fun c10 => ?_)
  · have c10 := of_decide_eq_false ((b2i_0 _).mp c10)
    refine r_iconst (q := 46) (z := 0) (v := 0) C rfl (by decide +kernel) (by decide) ?_
    exact r_zret C (by decide +kernel) rfl (by first | decide | exact b2i_nar _) (by decide) (by decide) ⟨_, rfl, (by
          first | (have hn : ¬ layP σ x a b t := fun e => c10 e.1
                   rw [cif_f hn, cif_f hn]) | (have hn : ¬ layP σ (nI r) a b t := fun e => e.2.1 (by rw [nI_clamp (by omega)]; exact c19)
                                               rw [cif_f hn, cif_f hn]) | (have hn : ¬ layP σ (nI r) a b t := fun e => absurd e.2.2.1 (by rw [c27]; decide)
                                                                           rw [cif_f hn, cif_f hn]) | (have hn : ¬ layP σ (nI r) a b t := fun e => by have h1 := e.2.2.2; rw [nI_clamp (by omega)] at h1; have := ht39.mpr h1; rw [(b2i_0 _).mp c42] at this; cases this
                                                                                                       rw [cif_f hn, cif_f hn])
          first | exact ⟨rfl, M1.scr hm, (Fm.rf.setI (by decide)).sc hm (by decide) (by decide)⟩ | exact ⟨rfl, M1, Fm.rf.setI (by decide)⟩)⟩
  · have c10 := of_decide_eq_true ((b2i_n0 _).mp c10)
    obtain ⟨r, hr, rfl⟩ := ride_of r10 c10
    refine r_aload_n (q := 14) (z := 0) C 0 rfl (by decide +kernel) rfl rfl ?_
    refine r_getR (q := 17) C 7 30 478 rfl (by decide +kernel) rfl (by decide) rfl rfl wf_X7_103 win7 hm.1 ?_
    refine r_iload_n (q := 18) (z := 1) C 1 rfl (by decide +kernel) rfl rfl ?_
    refine r_iald (q := 19) C rfl (by decide +kernel) hm.k478 (vp_in_nI (by omega) (by decide)) ?_
    rw [nI_clamp (by omega), M1.ali (by omega)]
    refine r_if_ge (q := 22) (off := 26) (tgt := 45) C rfl (by decide +kernel) (by decide) (fun c19 => ?_) (fun c19 => ?_)
    · have c19 := pl_le.mp c19
      refine r_iconst (q := 46) (z := 0) (v := 0) C rfl (by decide +kernel) (by decide) ?_
      exact r_zret C (by decide +kernel) rfl (by first | decide | exact b2i_nar _) (by decide) (by decide) ⟨_, rfl, (by
            first | (have hn : ¬ layP σ x a b t := fun e => c10 e.1
                     rw [cif_f hn, cif_f hn]) | (have hn : ¬ layP σ (nI r) a b t := fun e => e.2.1 (by rw [nI_clamp (by omega)]; exact c19)
                                                 rw [cif_f hn, cif_f hn]) | (have hn : ¬ layP σ (nI r) a b t := fun e => absurd e.2.2.1 (by rw [c27]; decide)
                                                                             rw [cif_f hn, cif_f hn]) | (have hn : ¬ layP σ (nI r) a b t := fun e => by have h1 := e.2.2.2; rw [nI_clamp (by omega)] at h1; have := ht39.mpr h1; rw [(b2i_0 _).mp c42] at this; cases this
                                                                                                         rw [cif_f hn, cif_f hn])
            first | exact ⟨rfl, M1.scr hm, (Fm.rf.setI (by decide)).sc hm (by decide) (by decide)⟩ | exact ⟨rfl, M1, Fm.rf.setI (by decide)⟩)⟩
    · have c19 := mt pl_le.mpr c19
      refine r_iload_n (q := 23) (z := 2) C 2 rfl (by decide +kernel) rfl rfl ?_
      refine r_iload_n (q := 24) (z := 3) C 3 rfl (by decide +kernel) rfl rfl ?_
      refine cS2I (q := 27) C R rfl (by decide +kernel) lk_X7_295 (c_X7_isCell ) (by decide) (by decide) (by decide) rfl (by first | exact Nat.le_of_ble_eq_true rfl | (simp only [List.map_cons, List.map_nil, List.sum_cons, List.sum_nil, rv_cat]; exact Nat.le_of_ble_eq_true rfl))  ?_
      rintro _ _ ⟨rfl, rfl⟩
      refine r_if_eq (q := 30) (off := 18) (tgt := 45) C rfl (by decide +kernel) (by decide) (fun c27 => ?_) (fun c27 => ?_)
      · have c27 := (b2i_0 _).mp c27
        refine r_iconst (q := 46) (z := 0) (v := 0) C rfl (by decide +kernel) (by decide) ?_
        exact r_zret C (by decide +kernel) rfl (by first | decide | exact b2i_nar _) (by decide) (by decide) ⟨_, rfl, (by
              first | (have hn : ¬ layP σ x a b t := fun e => c10 e.1
                       rw [cif_f hn, cif_f hn]) | (have hn : ¬ layP σ (nI r) a b t := fun e => e.2.1 (by rw [nI_clamp (by omega)]; exact c19)
                                                   rw [cif_f hn, cif_f hn]) | (have hn : ¬ layP σ (nI r) a b t := fun e => absurd e.2.2.1 (by rw [c27]; decide)
                                                                               rw [cif_f hn, cif_f hn]) | (have hn : ¬ layP σ (nI r) a b t := fun e => by have h1 := e.2.2.2; rw [nI_clamp (by omega)] at h1; have := ht39.mpr h1; rw [(b2i_0 _).mp c42] at this; cases this
                                                                                                           rw [cif_f hn, cif_f hn])
              first | exact ⟨rfl, M1.scr hm, (Fm.rf.setI (by decide)).sc hm (by decide) (by decide)⟩ | exact ⟨rfl, M1, Fm.rf.setI (by decide)⟩)⟩
      · have c27 := (b2i_n0 _).mp c27
        obtain ⟨a0, b0, ha0, hb0, ea, eb, hp, ep, -⟩ := plc_of (t := t) c27
        refine r_aload_n (q := 31) (z := 0) C 0 rfl (by decide +kernel) rfl rfl ?_
        refine r_iload_n (q := 32) (z := 1) C 1 rfl (by decide +kernel) rfl rfl ?_
        refine r_iload_n (q := 33) (z := 2) C 2 rfl (by decide +kernel) rfl rfl ?_
        refine r_iload_n (q := 34) (z := 3) C 3 rfl (by decide +kernel) rfl rfl ?_
        refine r_iload (q := 36) C 4 rfl (by decide +kernel) rfl ?_
        refine cS3I (q := 39) C R rfl (by decide +kernel) lk_X7_319 (c_X7_placeOf ) (by decide) (by decide) (by decide) rfl (by first | exact Nat.le_of_ble_eq_true rfl | (simp only [List.map_cons, List.map_nil, List.sum_cons, List.sum_nil, rv_cat]; exact Nat.le_of_ble_eq_true rfl))  ?_
        rintro _ _ ⟨rfl, rfl⟩
        rw [ep]
        refine cV2I (q := 42) C R rfl (by decide +kernel) lk_X7_323 (c_X7_fitsAt hm M1 W hr hp) (by decide) (by decide) (by decide) rfl (by first | exact Nat.le_of_ble_eq_true rfl | (simp only [List.map_cons, List.map_nil, List.sum_cons, List.sum_nil, rv_cat]; exact Nat.le_of_ble_eq_true rfl)) rfl hm.1 ?_
        rintro _ _ ⟨t39, f39, g39, rfl, ht39, rfl⟩
        refine r_if_ne (q := 45) (off := 5) (tgt := 47) C rfl (by decide +kernel) (by decide) (fun c42 => ?_) (fun c42 => ?_)
        · refine r_aload_n (q := 48) (z := 0) C 0 rfl (by decide +kernel) rfl rfl ?_
          refine r_getR (q := 51) C 7 30 478 rfl (by decide +kernel) rfl (by decide) rfl rfl wf_X7_103 win7 hm.1 ?_
          refine r_iload_n (q := 52) (z := 1) C 1 rfl (by decide +kernel) rfl rfl ?_
          refine r_iload_n (q := 53) (z := 2) C 2 rfl (by decide +kernel) rfl rfl ?_
          refine r_iload_n (q := 54) (z := 3) C 3 rfl (by decide +kernel) rfl rfl ?_
          refine r_iload (q := 56) C 4 rfl (by decide +kernel) rfl ?_
          refine cS3I (q := 59) C R rfl (by decide +kernel) lk_X7_319 (c_X7_placeOf ) (by decide) (by decide) (by decide) rfl (by first | exact Nat.le_of_ble_eq_true rfl | (simp only [List.map_cons, List.map_nil, List.sum_cons, List.sum_nil, rv_cat]; exact Nat.le_of_ble_eq_true rfl))  ?_
          rintro _ _ ⟨rfl, rfl⟩
          rw [ep]
          refine r_iast (q := 60) C rfl (by decide +kernel) rfl hm.k478 (vp_in_nI (by omega) (by decide)) ?_
          rw [stI_row, nI_clamp (by omega)]
          refine r_iconst (q := 61) (z := 1) (v := 1) C rfl (by decide +kernel) (by decide) ?_
          exact r_zret C (by decide +kernel) rfl (by first | decide | exact b2i_nar _) (by decide) (by decide) ⟨_, rfl, (by
                have hy : layP σ (nI r) a b t := ⟨c10, by rw [nI_clamp (by omega)]; exact c19, c27, by rw [nI_clamp (by omega)]; exact ht39.mp ((b2i_n0 _).mp c42)⟩
                rw [cif_t hy, cif_t hy]
                try rw [nI_clamp (by omega)]
                exact ⟨rfl, MR.li_up (h := scr (h.setI 448 m 0) m f39 g39) hm (M1.scr hm) (pl_in hp).symm, Fm.row ((Fm.rf.setI (by decide)).sc hm (by decide) (by decide)) (by show h.gl (h.fr 478 m) ∈ _; rw [hm.g478]; decide)⟩)⟩
        · refine r_iconst (q := 46) (z := 0) (v := 0) C rfl (by decide +kernel) (by decide) ?_
          exact r_zret C (by decide +kernel) rfl (by first | decide | exact b2i_nar _) (by decide) (by decide) ⟨_, rfl, (by
                first | (have hn : ¬ layP σ x a b t := fun e => c10 e.1
                         rw [cif_f hn, cif_f hn]) | (have hn : ¬ layP σ (nI r) a b t := fun e => e.2.1 (by rw [nI_clamp (by omega)]; exact c19)
                                                     rw [cif_f hn, cif_f hn]) | (have hn : ¬ layP σ (nI r) a b t := fun e => absurd e.2.2.1 (by rw [c27]; decide)
                                                                                 rw [cif_f hn, cif_f hn]) | (have hn : ¬ layP σ (nI r) a b t := fun e => by have h1 := e.2.2.2; rw [nI_clamp (by omega)] at h1; have := ht39.mpr h1; rw [(b2i_0 _).mp c42] at this; cases this
                                                                                                             rw [cif_f hn, cif_f hn])
                first | exact ⟨rfl, M1.scr hm, (Fm.rf.setI (by decide)).sc hm (by decide) (by decide)⟩ | exact ⟨rfl, M1, Fm.rf.setI (by decide)⟩)⟩
theorem c_X7_take {G : GT} {h : HP} {m : Nat} {σ : SG} {x : Int32} (hm : LM h.kd h.gl h.fr m) (M : MR σ h m) (W : WF σ) : Con G 2 0 0 yX7_take cX7_take 2 (some .boolean) [rv m, .int x] h (PI (fun v h' => cif ((0 ≤ x ∧ x < nI σ.n) ∧ σ.li x.toNatClampNeg < 240) 1 0 = v ∧ MR (cif ((0 ≤ x ∧ x < nI σ.n) ∧ σ.li x.toNatClampNeg < 240) (σ.li_ (upN σ.li x.toNatClampNeg 240)) σ) h' m ∧ Fm [478] [448] h h')) := by
  refine Con.of (lv := [some (rv m), some (.int x)]) (by decide) (by simp only [lvE_r, lvE_i, lvE_l, lvE_s, lvE_0]; rfl) (by simp only [lgl_r, lgl_i, lgl_l, lgl_s, lgl_0]; decide) (fun Γ C R => ?_)
  have r10 := W.n10
  have M1 : MR σ (h.setI 448 m 0) m := M.setI (by decide) (by decide) (by decide)
  refine r_aload_n (q := 1) (z := 0) C 0 rfl (by decide +kernel) rfl rfl ?_
  refine r_iconst (q := 2) (z := 0) (v := 0) C rfl (by decide +kernel) (by decide) ?_
  refine r_putI (q := 5) C 7 0 448 rfl (by decide +kernel) rfl (by decide) rfl rfl wf_X7_1 win7 tyX7 tyX7_ok nmX7 rfl (tyX7_ok 0 (by decide)) rfl wnd7 rfl rfl hm.1 ?_
  refine r_aload_n (q := 6) (z := 0) C 0 rfl (by decide +kernel) rfl rfl ?_
  refine r_iload_n (q := 7) (z := 1) C 1 rfl (by decide +kernel) rfl rfl ?_
  refine cV1I (q := 10) C R rfl (by decide +kernel) lk_X7_316 (c_X7_isRide hm M1) (by decide) (by decide) (by decide) rfl (by first | exact Nat.le_of_ble_eq_true rfl | (simp only [List.map_cons, List.map_nil, List.sum_cons, List.sum_nil, rv_cat]; exact Nat.le_of_ble_eq_true rfl)) rfl hm.1 ?_
  rintro _ _ ⟨rfl, rfl⟩
  refine r_if_eq (q := 13) (off := 12) (tgt := 22) C rfl (by decide +kernel) (by decide) (fun c10 => ?_) (fun c10 => ?_)
  · have c10 := of_decide_eq_false ((b2i_0 _).mp c10)
    refine r_iconst (q := 23) (z := 0) (v := 0) C rfl (by decide +kernel) (by decide) ?_
    exact r_zret C (by decide +kernel) rfl (by first | decide | exact b2i_nar _) (by decide) (by decide) ⟨_, rfl, (by
          first | (have hn : ¬ ((0 ≤ x ∧ x < nI σ.n) ∧ σ.li x.toNatClampNeg < 240) := fun e => c10 e.1
                   rw [cif_f hn, cif_f hn]) | (have hn : ¬ ((0 ≤ nI r ∧ nI r < nI σ.n) ∧ σ.li r < 240) := fun e => c19 e.2
                                               rw [cif_f hn, cif_f hn])
          exact ⟨rfl, M1, Fm.rf.setI (by decide)⟩)⟩
  · have c10 := of_decide_eq_true ((b2i_n0 _).mp c10)
    obtain ⟨r, hr, rfl⟩ := ride_of r10 c10
    refine r_aload_n (q := 14) (z := 0) C 0 rfl (by decide +kernel) rfl rfl ?_
    refine r_getR (q := 17) C 7 30 478 rfl (by decide +kernel) rfl (by decide) rfl rfl wf_X7_103 win7 hm.1 ?_
    refine r_iload_n (q := 18) (z := 1) C 1 rfl (by decide +kernel) rfl rfl ?_
    refine r_iald (q := 19) C rfl (by decide +kernel) hm.k478 (vp_in_nI (by omega) (by decide)) ?_
    rw [nI_clamp (by omega), M1.ali (by omega)]
    refine r_if_ge (q := 22) (off := 5) (tgt := 24) C rfl (by decide +kernel) (by decide) (fun c19 => ?_) (fun c19 => ?_)
    · have c19 := pl_le.mp c19
      refine r_aload_n (q := 25) (z := 0) C 0 rfl (by decide +kernel) rfl rfl ?_
      refine r_getR (q := 28) C 7 30 478 rfl (by decide +kernel) rfl (by decide) rfl rfl wf_X7_103 win7 hm.1 ?_
      refine r_iload_n (q := 29) (z := 1) C 1 rfl (by decide +kernel) rfl rfl ?_
      refine r_iconst (q := 30) (z := (-1)) (v := (-1)) C rfl (by decide +kernel) (by decide) ?_
      refine r_iast (q := 31) C rfl (by decide +kernel) rfl hm.k478 (vp_in_nI (by omega) (by decide)) ?_
      rw [stI_row, nI_clamp (by omega)]
      refine r_iconst (q := 32) (z := 1) (v := 1) C rfl (by decide +kernel) (by decide) ?_
      exact r_zret C (by decide +kernel) rfl (by first | decide | exact b2i_nar _) (by decide) (by decide) ⟨_, rfl, (by
            have hy : (0 ≤ nI r ∧ nI r < nI σ.n) ∧ σ.li r < 240 := ⟨c10, c19⟩
            rw [cif_t hy, cif_t hy]
            try rw [nI_clamp (by omega)]
            exact ⟨rfl, MR.li_up (h := h.setI 448 m 0) hm M1 (pl_out (by decide)).symm, Fm.row (Fm.rf.setI (by decide)) (by show h.gl (h.fr 478 m) ∈ _; rw [hm.g478]; decide)⟩)⟩
    · have c19 := mt pl_le.mpr c19
      refine r_iconst (q := 23) (z := 0) (v := 0) C rfl (by decide +kernel) (by decide) ?_
      exact r_zret C (by decide +kernel) rfl (by first | decide | exact b2i_nar _) (by decide) (by decide) ⟨_, rfl, (by
            first | (have hn : ¬ ((0 ≤ x ∧ x < nI σ.n) ∧ σ.li x.toNatClampNeg < 240) := fun e => c10 e.1
                     rw [cif_f hn, cif_f hn]) | (have hn : ¬ ((0 ≤ nI r ∧ nI r < nI σ.n) ∧ σ.li r < 240) := fun e => c19 e.2
                                                 rw [cif_f hn, cif_f hn])
            exact ⟨rfl, M1, Fm.rf.setI (by decide)⟩)⟩
theorem c_X7_lying {G : GT} {h : HP} {m : Nat} {σ : SG}  (hm : LM h.kd h.gl h.fr m) (M : MR σ h m) (W : WF σ) : Con G 1 0 0 yX7_lying cX7_lying 3 (some .int) [rv m] h (PI (fun v h' => nI (lyN σ σ.n) = v ∧ h = h')) := by
  refine Con.of (lv := [some (rv m), none, none]) (by decide) (by simp only [lvE_r, lvE_i, lvE_l, lvE_s, lvE_0]; rfl) (by simp only [lgl_r, lgl_i, lgl_l, lgl_s, lgl_0]; decide) (fun Γ C R => ?_)
  have r10 := W.n10
  refine r_iconst (q := 1) (z := 0) (v := 0) C rfl (by decide +kernel) (by decide) ?_
  refine r_istore_n (q := 2) (z := 1) C 1 rfl (by decide +kernel) rfl (by decide) (by first | rfl | exact okst_rv rfl) ?_
  dsimp only [List.set]
  refine r_iconst (q := 3) (z := 0) (v := 0) C rfl (by decide +kernel) (by decide) ?_
  refine r_istore_n (q := 4) (z := 2) C 2 rfl (by decide +kernel) rfl (by decide) (by first | rfl | exact okst_rv rfl) ?_
  dsimp only [List.set]
  have L4 : ∀ (fuel4 : Nat) (k : Nat), σ.n - k < fuel4 → (k ≤ σ.n) → wX G Γ (qM G Γ (PI (fun v h' => nI (lyN σ σ.n) = v ∧ h = h')) 0 0) 0 0 (h) 4 [some (rv m), some (.int (nI (lyN σ k))), some (.int (nI k))] [] := by
    intro fuel4
    induction fuel4 with
    | zero =>
      intro k hm4
      exact absurd hm4 (Nat.not_lt_zero _)
    | succ fuel4 ih4 =>
      intro k hm4 hk
      refine r_iload_n (q := 5) (z := 2) C 2 rfl (by decide +kernel) rfl rfl ?_
      refine r_aload_n (q := 6) (z := 0) C 0 rfl (by decide +kernel) rfl rfl ?_
      refine r_getI (q := 9) C 7 24 472 rfl (by decide +kernel) rfl (by decide) rfl rfl wf_X7_243 win7 hm.1 ?_
      rw [M.fn]
      refine r_icmp_ge (q := 12) (off := 26) (tgt := 35) C rfl (by decide +kernel) (by decide) (fun c9 => ?_) (fun c9 => ?_)
      · have ek : k = σ.n := by have := (nI_leI (by omega) (by omega)).mp c9; omega
        subst ek
        refine r_iload_n (q := 36) (z := 1) C 1 rfl (by decide +kernel) rfl rfl ?_
        exact r_iret C (by decide +kernel) rfl (by decide) (by decide) ⟨_, rfl, ⟨rfl, rfl⟩⟩
      · have hlt : k < σ.n := Nat.lt_of_not_le (fun e => c9 (nI_le e (by omega)))
        refine r_iload_n (q := 13) (z := 1) C 1 rfl (by decide +kernel) rfl rfl ?_
        refine r_aload_n (q := 14) (z := 0) C 0 rfl (by decide +kernel) rfl rfl ?_
        refine r_getR (q := 17) C 7 30 478 rfl (by decide +kernel) rfl (by decide) rfl rfl wf_X7_103 win7 hm.1 ?_
        refine r_iload_n (q := 18) (z := 2) C 2 rfl (by decide +kernel) rfl rfl ?_
        refine r_iald (q := 19) C rfl (by decide +kernel) hm.k478 (vp_in_nI (by omega) (by decide)) ?_
        rw [nI_clamp (by omega), M.ali (by omega)]
        refine r_if_lt (q := 22) (off := 7) (tgt := 26) C rfl (by decide +kernel) (by decide) (fun c19 => ?_) (fun c19 => ?_)
        · have e27 : nI (lyN σ k) + 0 = nI (lyN σ (k + 1)) := by rw [lyN_n (pl_neg.mp c19)]; exact nI_add _ 0
          refine r_iconst (q := 27) (z := 0) (v := 0) C rfl (by decide +kernel) (by decide) ?_
          refine r_iadd (q := 28) C rfl (by decide +kernel) ?_
          rw [e27]
          refine r_istore_n (q := 29) (z := 1) C 1 rfl (by decide +kernel) rfl (by decide) (by first | rfl | exact okst_rv rfl) ?_
          dsimp only [List.set]
          refine r_iinc (q := 32) (z := 1) (v := 1) C 2 rfl (by decide +kernel) rfl (by decide) (by decide) (by first | rfl | exact okst_rv rfl) ?_
          dsimp only [List.set]
          rw [nI_1]
          refine r_goto (off := -28) (tgt := 4) C (by decide +kernel) (by decide) ?_
          exact ih4 (k + 1) (by omega) (by omega)
        · have e27 : nI (lyN σ k) + 1 = nI (lyN σ (k + 1)) := by rw [lyN_y (pl_nn.mp c19)]; exact nI_1 _
          refine r_iconst (q := 23) (z := 1) (v := 1) C rfl (by decide +kernel) (by decide) ?_
          refine r_goto (off := 4) (tgt := 27) C (by decide +kernel) (by decide) ?_
          refine r_iadd (q := 28) C rfl (by decide +kernel) ?_
          rw [e27]
          refine r_istore_n (q := 29) (z := 1) C 1 rfl (by decide +kernel) rfl (by decide) (by first | rfl | exact okst_rv rfl) ?_
          dsimp only [List.set]
          refine r_iinc (q := 32) (z := 1) (v := 1) C 2 rfl (by decide +kernel) rfl (by decide) (by decide) (by first | rfl | exact okst_rv rfl) ?_
          dsimp only [List.set]
          rw [nI_1]
          refine r_goto (off := -28) (tgt := 4) C (by decide +kernel) (by decide) ?_
          exact ih4 (k + 1) (by omega) (by omega)
  exact L4 (σ.n + 1) 0 (by omega) (by omega)
end
section
theorem MR.wd_up {σ : SG} {h : HP} {m r : Nat} {p : Nat} (hm : LM h.kd h.gl h.fr m) (M : MR σ h m) {v : Int32} (hv : v = nI p) : MR (σ.wd_ (upN σ.wd r p)) (h.row (h.fr 473 m) (upd (h.ai (h.fr 473 m)) r v)) m := by
  obtain ⟨h1, h2, h3, a0, a1, a2, a3, a4, a5, a6, a7, a8, a9, a10⟩ := M
  have key : ∀ (g : Nat), h.gl (h.fr g m) = g → g ≠ 473 → (h.row (h.fr 473 m) (upd (h.ai (h.fr 473 m)) r v)).ai (h.fr g m) = h.ai (h.fr g m) := fun g e hg => ai_row_ne (gl_ne e hm.g473 hg)
  refine ⟨h1, h2, h3, ?_, ?_, ?_, ?_, ?_, ?_, ?_, ?_, ?_, ?_, ?_⟩
  · intro j hj
    rw [fr_row, ai_row_eq]
    show (if j = r then v else h.ai (h.fr 473 m) j) = nI (upN σ.wd r p j)
    by_cases e : j = r
    · rw [if_pos e, e, upN_s, hv]
    · rw [if_neg e, upN_n e]; exact a0 j hj
  · rw [fr_row, key 474 hm.g474 (by decide)]; exact a1
  · rw [fr_row, key 475 hm.g475 (by decide)]; exact a2
  · rw [fr_row, key 476 hm.g476 (by decide)]; exact a3
  · rw [fr_row, key 477 hm.g477 (by decide)]; exact a4
  · rw [fr_row, key 478 hm.g478 (by decide)]; exact a5
  · rw [fr_row, key 479 hm.g479 (by decide)]; exact a6
  · rw [fr_row, key 480 hm.g480 (by decide)]; exact a7
  · rw [fr_row, key 481 hm.g481 (by decide)]; exact a8
  · rw [fr_row, key 482 hm.g482 (by decide)]; exact a9
  · rw [fr_row, key 484 hm.g484 (by decide)]; exact a10
theorem MR.hg_up {σ : SG} {h : HP} {m r : Nat} {p : Nat} (hm : LM h.kd h.gl h.fr m) (M : MR σ h m) {v : Int32} (hv : v = nI p) : MR (σ.hg_ (upN σ.hg r p)) (h.row (h.fr 474 m) (upd (h.ai (h.fr 474 m)) r v)) m := by
  obtain ⟨h1, h2, h3, a0, a1, a2, a3, a4, a5, a6, a7, a8, a9, a10⟩ := M
  have key : ∀ (g : Nat), h.gl (h.fr g m) = g → g ≠ 474 → (h.row (h.fr 474 m) (upd (h.ai (h.fr 474 m)) r v)).ai (h.fr g m) = h.ai (h.fr g m) := fun g e hg => ai_row_ne (gl_ne e hm.g474 hg)
  refine ⟨h1, h2, h3, ?_, ?_, ?_, ?_, ?_, ?_, ?_, ?_, ?_, ?_, ?_⟩
  · rw [fr_row, key 473 hm.g473 (by decide)]; exact a0
  · intro j hj
    rw [fr_row, ai_row_eq]
    show (if j = r then v else h.ai (h.fr 474 m) j) = nI (upN σ.hg r p j)
    by_cases e : j = r
    · rw [if_pos e, e, upN_s, hv]
    · rw [if_neg e, upN_n e]; exact a1 j hj
  · rw [fr_row, key 475 hm.g475 (by decide)]; exact a2
  · rw [fr_row, key 476 hm.g476 (by decide)]; exact a3
  · rw [fr_row, key 477 hm.g477 (by decide)]; exact a4
  · rw [fr_row, key 478 hm.g478 (by decide)]; exact a5
  · rw [fr_row, key 479 hm.g479 (by decide)]; exact a6
  · rw [fr_row, key 480 hm.g480 (by decide)]; exact a7
  · rw [fr_row, key 481 hm.g481 (by decide)]; exact a8
  · rw [fr_row, key 482 hm.g482 (by decide)]; exact a9
  · rw [fr_row, key 484 hm.g484 (by decide)]; exact a10
theorem MR.pw_up {σ : SG} {h : HP} {m r : Nat} {p : Nat} (hm : LM h.kd h.gl h.fr m) (M : MR σ h m) {v : Int32} (hv : v = nI p) : MR (σ.pw_ (upN σ.pw r p)) (h.row (h.fr 475 m) (upd (h.ai (h.fr 475 m)) r v)) m := by
  obtain ⟨h1, h2, h3, a0, a1, a2, a3, a4, a5, a6, a7, a8, a9, a10⟩ := M
  have key : ∀ (g : Nat), h.gl (h.fr g m) = g → g ≠ 475 → (h.row (h.fr 475 m) (upd (h.ai (h.fr 475 m)) r v)).ai (h.fr g m) = h.ai (h.fr g m) := fun g e hg => ai_row_ne (gl_ne e hm.g475 hg)
  refine ⟨h1, h2, h3, ?_, ?_, ?_, ?_, ?_, ?_, ?_, ?_, ?_, ?_, ?_⟩
  · rw [fr_row, key 473 hm.g473 (by decide)]; exact a0
  · rw [fr_row, key 474 hm.g474 (by decide)]; exact a1
  · intro j hj
    rw [fr_row, ai_row_eq]
    show (if j = r then v else h.ai (h.fr 475 m) j) = nI (upN σ.pw r p j)
    by_cases e : j = r
    · rw [if_pos e, e, upN_s, hv]
    · rw [if_neg e, upN_n e]; exact a2 j hj
  · rw [fr_row, key 476 hm.g476 (by decide)]; exact a3
  · rw [fr_row, key 477 hm.g477 (by decide)]; exact a4
  · rw [fr_row, key 478 hm.g478 (by decide)]; exact a5
  · rw [fr_row, key 479 hm.g479 (by decide)]; exact a6
  · rw [fr_row, key 480 hm.g480 (by decide)]; exact a7
  · rw [fr_row, key 481 hm.g481 (by decide)]; exact a8
  · rw [fr_row, key 482 hm.g482 (by decide)]; exact a9
  · rw [fr_row, key 484 hm.g484 (by decide)]; exact a10
theorem MR.ns_up {σ : SG} {h : HP} {m r : Nat} {p : Nat} (hm : LM h.kd h.gl h.fr m) (M : MR σ h m) {v : Int32} (hv : v = nI p) : MR (σ.ns_ (upN σ.ns r p)) (h.row (h.fr 476 m) (upd (h.ai (h.fr 476 m)) r v)) m := by
  obtain ⟨h1, h2, h3, a0, a1, a2, a3, a4, a5, a6, a7, a8, a9, a10⟩ := M
  have key : ∀ (g : Nat), h.gl (h.fr g m) = g → g ≠ 476 → (h.row (h.fr 476 m) (upd (h.ai (h.fr 476 m)) r v)).ai (h.fr g m) = h.ai (h.fr g m) := fun g e hg => ai_row_ne (gl_ne e hm.g476 hg)
  refine ⟨h1, h2, h3, ?_, ?_, ?_, ?_, ?_, ?_, ?_, ?_, ?_, ?_, ?_⟩
  · rw [fr_row, key 473 hm.g473 (by decide)]; exact a0
  · rw [fr_row, key 474 hm.g474 (by decide)]; exact a1
  · rw [fr_row, key 475 hm.g475 (by decide)]; exact a2
  · intro j hj
    rw [fr_row, ai_row_eq]
    show (if j = r then v else h.ai (h.fr 476 m) j) = nI (upN σ.ns r p j)
    by_cases e : j = r
    · rw [if_pos e, e, upN_s, hv]
    · rw [if_neg e, upN_n e]; exact a3 j hj
  · rw [fr_row, key 477 hm.g477 (by decide)]; exact a4
  · rw [fr_row, key 478 hm.g478 (by decide)]; exact a5
  · rw [fr_row, key 479 hm.g479 (by decide)]; exact a6
  · rw [fr_row, key 480 hm.g480 (by decide)]; exact a7
  · rw [fr_row, key 481 hm.g481 (by decide)]; exact a8
  · rw [fr_row, key 482 hm.g482 (by decide)]; exact a9
  · rw [fr_row, key 484 hm.g484 (by decide)]; exact a10
theorem MR.rk_up {σ : SG} {h : HP} {m r : Nat} {p : Nat} (hm : LM h.kd h.gl h.fr m) (M : MR σ h m) {v : Int32} (hv : v = nI p) : MR (σ.rk_ (upN σ.rk r p)) (h.row (h.fr 477 m) (upd (h.ai (h.fr 477 m)) r v)) m := by
  obtain ⟨h1, h2, h3, a0, a1, a2, a3, a4, a5, a6, a7, a8, a9, a10⟩ := M
  have key : ∀ (g : Nat), h.gl (h.fr g m) = g → g ≠ 477 → (h.row (h.fr 477 m) (upd (h.ai (h.fr 477 m)) r v)).ai (h.fr g m) = h.ai (h.fr g m) := fun g e hg => ai_row_ne (gl_ne e hm.g477 hg)
  refine ⟨h1, h2, h3, ?_, ?_, ?_, ?_, ?_, ?_, ?_, ?_, ?_, ?_, ?_⟩
  · rw [fr_row, key 473 hm.g473 (by decide)]; exact a0
  · rw [fr_row, key 474 hm.g474 (by decide)]; exact a1
  · rw [fr_row, key 475 hm.g475 (by decide)]; exact a2
  · rw [fr_row, key 476 hm.g476 (by decide)]; exact a3
  · intro j hj
    rw [fr_row, ai_row_eq]
    show (if j = r then v else h.ai (h.fr 477 m) j) = nI (upN σ.rk r p j)
    by_cases e : j = r
    · rw [if_pos e, e, upN_s, hv]
    · rw [if_neg e, upN_n e]; exact a4 j hj
  · rw [fr_row, key 478 hm.g478 (by decide)]; exact a5
  · rw [fr_row, key 479 hm.g479 (by decide)]; exact a6
  · rw [fr_row, key 480 hm.g480 (by decide)]; exact a7
  · rw [fr_row, key 481 hm.g481 (by decide)]; exact a8
  · rw [fr_row, key 482 hm.g482 (by decide)]; exact a9
  · rw [fr_row, key 484 hm.g484 (by decide)]; exact a10
theorem MR.rt_up {σ : SG} {h : HP} {m r : Nat} {p : Nat} (hm : LM h.kd h.gl h.fr m) (M : MR σ h m) {v : Int32} (hv : v = pl p) : MR (σ.rt_ (upN σ.rt r p)) (h.row (h.fr 479 m) (upd (h.ai (h.fr 479 m)) r v)) m := by
  obtain ⟨h1, h2, h3, a0, a1, a2, a3, a4, a5, a6, a7, a8, a9, a10⟩ := M
  have key : ∀ (g : Nat), h.gl (h.fr g m) = g → g ≠ 479 → (h.row (h.fr 479 m) (upd (h.ai (h.fr 479 m)) r v)).ai (h.fr g m) = h.ai (h.fr g m) := fun g e hg => ai_row_ne (gl_ne e hm.g479 hg)
  refine ⟨h1, h2, h3, ?_, ?_, ?_, ?_, ?_, ?_, ?_, ?_, ?_, ?_, ?_⟩
  · rw [fr_row, key 473 hm.g473 (by decide)]; exact a0
  · rw [fr_row, key 474 hm.g474 (by decide)]; exact a1
  · rw [fr_row, key 475 hm.g475 (by decide)]; exact a2
  · rw [fr_row, key 476 hm.g476 (by decide)]; exact a3
  · rw [fr_row, key 477 hm.g477 (by decide)]; exact a4
  · rw [fr_row, key 478 hm.g478 (by decide)]; exact a5
  · intro j hj
    rw [fr_row, ai_row_eq]
    show (if j = r then v else h.ai (h.fr 479 m) j) = pl (upN σ.rt r p j)
    by_cases e : j = r
    · rw [if_pos e, e, upN_s, hv]
    · rw [if_neg e, upN_n e]; exact a6 j hj
  · rw [fr_row, key 480 hm.g480 (by decide)]; exact a7
  · rw [fr_row, key 481 hm.g481 (by decide)]; exact a8
  · rw [fr_row, key 482 hm.g482 (by decide)]; exact a9
  · rw [fr_row, key 484 hm.g484 (by decide)]; exact a10
theorem MR.hd_up {σ : SG} {h : HP} {m r : Nat} {p : Nat} (hm : LM h.kd h.gl h.fr m) (M : MR σ h m) {v : Int32} (hv : v = nI p) : MR (σ.hd_ (upN σ.hd r p)) (h.row (h.fr 480 m) (upd (h.ai (h.fr 480 m)) r v)) m := by
  obtain ⟨h1, h2, h3, a0, a1, a2, a3, a4, a5, a6, a7, a8, a9, a10⟩ := M
  have key : ∀ (g : Nat), h.gl (h.fr g m) = g → g ≠ 480 → (h.row (h.fr 480 m) (upd (h.ai (h.fr 480 m)) r v)).ai (h.fr g m) = h.ai (h.fr g m) := fun g e hg => ai_row_ne (gl_ne e hm.g480 hg)
  refine ⟨h1, h2, h3, ?_, ?_, ?_, ?_, ?_, ?_, ?_, ?_, ?_, ?_, ?_⟩
  · rw [fr_row, key 473 hm.g473 (by decide)]; exact a0
  · rw [fr_row, key 474 hm.g474 (by decide)]; exact a1
  · rw [fr_row, key 475 hm.g475 (by decide)]; exact a2
  · rw [fr_row, key 476 hm.g476 (by decide)]; exact a3
  · rw [fr_row, key 477 hm.g477 (by decide)]; exact a4
  · rw [fr_row, key 478 hm.g478 (by decide)]; exact a5
  · rw [fr_row, key 479 hm.g479 (by decide)]; exact a6
  · intro j hj
    rw [fr_row, ai_row_eq]
    show (if j = r then v else h.ai (h.fr 480 m) j) = nI (upN σ.hd r p j)
    by_cases e : j = r
    · rw [if_pos e, e, upN_s, hv]
    · rw [if_neg e, upN_n e]; exact a7 j hj
  · rw [fr_row, key 481 hm.g481 (by decide)]; exact a8
  · rw [fr_row, key 482 hm.g482 (by decide)]; exact a9
  · rw [fr_row, key 484 hm.g484 (by decide)]; exact a10
theorem MR.ms_up {σ : SG} {h : HP} {m r : Nat} {p : Nat} (hm : LM h.kd h.gl h.fr m) (M : MR σ h m) {v : Int32} (hv : v = nI p) : MR (σ.ms_ (upN σ.ms r p)) (h.row (h.fr 481 m) (upd (h.ai (h.fr 481 m)) r v)) m := by
  obtain ⟨h1, h2, h3, a0, a1, a2, a3, a4, a5, a6, a7, a8, a9, a10⟩ := M
  have key : ∀ (g : Nat), h.gl (h.fr g m) = g → g ≠ 481 → (h.row (h.fr 481 m) (upd (h.ai (h.fr 481 m)) r v)).ai (h.fr g m) = h.ai (h.fr g m) := fun g e hg => ai_row_ne (gl_ne e hm.g481 hg)
  refine ⟨h1, h2, h3, ?_, ?_, ?_, ?_, ?_, ?_, ?_, ?_, ?_, ?_, ?_⟩
  · rw [fr_row, key 473 hm.g473 (by decide)]; exact a0
  · rw [fr_row, key 474 hm.g474 (by decide)]; exact a1
  · rw [fr_row, key 475 hm.g475 (by decide)]; exact a2
  · rw [fr_row, key 476 hm.g476 (by decide)]; exact a3
  · rw [fr_row, key 477 hm.g477 (by decide)]; exact a4
  · rw [fr_row, key 478 hm.g478 (by decide)]; exact a5
  · rw [fr_row, key 479 hm.g479 (by decide)]; exact a6
  · rw [fr_row, key 480 hm.g480 (by decide)]; exact a7
  · intro j hj
    rw [fr_row, ai_row_eq]
    show (if j = r then v else h.ai (h.fr 481 m) j) = nI (upN σ.ms r p j)
    by_cases e : j = r
    · rw [if_pos e, e, upN_s, hv]
    · rw [if_neg e, upN_n e]; exact a8 j hj
  · rw [fr_row, key 482 hm.g482 (by decide)]; exact a9
  · rw [fr_row, key 484 hm.g484 (by decide)]; exact a10
theorem MR.sk_up {σ : SG} {h : HP} {m r : Nat} {p : Bool} (hm : LM h.kd h.gl h.fr m) (M : MR σ h m) {v : Int32} (hv : v = b2i p) : MR (σ.sk_ (upN σ.sk r p)) (h.row (h.fr 482 m) (upd (h.ai (h.fr 482 m)) r v)) m := by
  obtain ⟨h1, h2, h3, a0, a1, a2, a3, a4, a5, a6, a7, a8, a9, a10⟩ := M
  have key : ∀ (g : Nat), h.gl (h.fr g m) = g → g ≠ 482 → (h.row (h.fr 482 m) (upd (h.ai (h.fr 482 m)) r v)).ai (h.fr g m) = h.ai (h.fr g m) := fun g e hg => ai_row_ne (gl_ne e hm.g482 hg)
  refine ⟨h1, h2, h3, ?_, ?_, ?_, ?_, ?_, ?_, ?_, ?_, ?_, ?_, ?_⟩
  · rw [fr_row, key 473 hm.g473 (by decide)]; exact a0
  · rw [fr_row, key 474 hm.g474 (by decide)]; exact a1
  · rw [fr_row, key 475 hm.g475 (by decide)]; exact a2
  · rw [fr_row, key 476 hm.g476 (by decide)]; exact a3
  · rw [fr_row, key 477 hm.g477 (by decide)]; exact a4
  · rw [fr_row, key 478 hm.g478 (by decide)]; exact a5
  · rw [fr_row, key 479 hm.g479 (by decide)]; exact a6
  · rw [fr_row, key 480 hm.g480 (by decide)]; exact a7
  · rw [fr_row, key 481 hm.g481 (by decide)]; exact a8
  · intro j hj
    rw [fr_row, ai_row_eq]
    show (if j = r then v else h.ai (h.fr 482 m) j) = b2i (upN σ.sk r p j)
    by_cases e : j = r
    · rw [if_pos e, e, upN_s, hv]
    · rw [if_neg e, upN_n e]; exact a9 j hj
  · rw [fr_row, key 484 hm.g484 (by decide)]; exact a10
theorem MR.cl_up {σ : SG} {h : HP} {m r : Nat} {p : Bool} (hm : LM h.kd h.gl h.fr m) (M : MR σ h m) {v : Int32} (hv : v = b2i p) : MR (σ.cl_ (upN σ.cl r p)) (h.row (h.fr 484 m) (upd (h.ai (h.fr 484 m)) r v)) m := by
  obtain ⟨h1, h2, h3, a0, a1, a2, a3, a4, a5, a6, a7, a8, a9, a10⟩ := M
  have key : ∀ (g : Nat), h.gl (h.fr g m) = g → g ≠ 484 → (h.row (h.fr 484 m) (upd (h.ai (h.fr 484 m)) r v)).ai (h.fr g m) = h.ai (h.fr g m) := fun g e hg => ai_row_ne (gl_ne e hm.g484 hg)
  refine ⟨h1, h2, h3, ?_, ?_, ?_, ?_, ?_, ?_, ?_, ?_, ?_, ?_, ?_⟩
  · rw [fr_row, key 473 hm.g473 (by decide)]; exact a0
  · rw [fr_row, key 474 hm.g474 (by decide)]; exact a1
  · rw [fr_row, key 475 hm.g475 (by decide)]; exact a2
  · rw [fr_row, key 476 hm.g476 (by decide)]; exact a3
  · rw [fr_row, key 477 hm.g477 (by decide)]; exact a4
  · rw [fr_row, key 478 hm.g478 (by decide)]; exact a5
  · rw [fr_row, key 479 hm.g479 (by decide)]; exact a6
  · rw [fr_row, key 480 hm.g480 (by decide)]; exact a7
  · rw [fr_row, key 481 hm.g481 (by decide)]; exact a8
  · rw [fr_row, key 482 hm.g482 (by decide)]; exact a9
  · intro j hj
    rw [fr_row, ai_row_eq]
    show (if j = r then v else h.ai (h.fr 484 m) j) = b2i (upN σ.cl r p j)
    by_cases e : j = r
    · rw [if_pos e, e, upN_s, hv]
    · rw [if_neg e, upN_n e]; exact a10 j hj
theorem upN_self {α : Type} {f : Nat → α} {k : Nat} : upN f k (f k) = f := funext fun j => by unfold upN; split <;> simp_all
theorem MR.gr_up {σ : SG} {h : HP} {m g : Nat} (M : MR σ h m) : MR (σ.gr_ g) (h.setI 485 m (nI g)) m := ⟨(fi_ne (by decide)).trans M.1, fi_eq, (fi_ne (by decide)).trans M.2.2.1, M.2.2.2⟩
theorem MR.n_up {σ : SG} {h : HP} {m k : Nat} (M : MR σ h m) : MR (σ.n_ k) (h.setI 472 m (nI k)) m := ⟨fi_eq, (fi_ne (by decide)).trans M.2.1, (fi_ne (by decide)).trans M.2.2.1, M.2.2.2⟩
theorem MR.yr_up {σ : SG} {h : HP} {m k : Nat} (M : MR σ h m) : MR (σ.yr_ k) (h.setI 483 m (nI k)) m := ⟨(fi_ne (by decide)).trans M.1, (fi_ne (by decide)).trans M.2.1, fi_eq, M.2.2.2⟩
/-! close -/
def SG.bad (σ : SG) (c : Nat) : Prop := anyb (fun r => σ.cv r c) σ.n = true ∨ c = 12 * σ.gr ∨ ∃ r, r < σ.n ∧ σ.li r < 240 ∧ σ.dr r = c
def SG.jn (σ : SG) (c : Nat) : Prop := ∀ q, q < σ.n → σ.li q < 240 → RS (fun k => !σ.fre k || decide (k = c)) (12 * σ.gr) (σ.dr q)
def clP (σ : SG) (x y : Int32) (t : Bool) : Prop := hasC x y = true ∧ ¬ σ.bad (12 * y + x).toNatClampNeg ∧ (t = true → σ.jn (12 * y + x).toNatClampNeg)
def gtP (σ : SG) (y : Int32) : Prop := (0 ≤ y ∧ y < 10) ∧ lyN σ σ.n = 0 ∧ σ.cl (12 * y.toNatClampNeg) = false
def rdP (σ : SG) (w z p s k : Int32) : Prop := (1 ≤ w ∧ w ≤ 4) ∧ (1 ≤ z ∧ z ≤ 4) ∧ (0 ≤ p ∧ p ≤ 100) ∧ (0 ≤ s ∧ s ≤ 9) ∧ (0 ≤ k ∧ k ≤ 99) ∧ σ.n < 10
def SG.add (σ : SG) (w z p s k : Nat) : SG := (((((σ.wd_ (upN σ.wd σ.n w)).hg_ (upN σ.hg σ.n z)).pw_ (upN σ.pw σ.n p)).ns_ (upN σ.ns σ.n s)).rk_ (upN σ.rk σ.n k)).n_ (σ.n + 1)
theorem nI_rng {x : Int32} {a b : Nat} (hb : b < 1000) (h1 : nI a ≤ x) (h2 : x ≤ nI b) (ha : a < 1000) : a ≤ x.toNatClampNeg ∧ x.toNatClampNeg ≤ b ∧ x = nI x.toNatClampNeg := by
  have e0 : ¬ x < 0 := fun e => absurd (Int32.lt_of_le_of_lt h1 e) (nI_pos (by omega))
  obtain ⟨j, hj, rfl⟩ := nI_of e0
  rw [nI_clamp hj]
  exact ⟨(nI_leI (by omega) hj).mp h1, (nI_leI hj (by omega)).mp h2, rfl⟩
/-- money and power -/
def MB (be sh : Nat → Nat) (ra : Nat) (h : HP) (m : Nat) : Prop := (∀ k, k < 3 → h.ai (h.fr 492 m) k = nI (be k) ∧ be k ≤ 1000) ∧ (∀ k, k < 3 → h.ai (h.fr 494 m) k = nI (sh k) ∧ 1 ≤ sh k ∧ sh k ≤ 1000) ∧ h.fi 493 m = nI ra ∧ ra ≤ 1000
theorem MB.fm {be sh : Nat → Nat} {ra : Nat} {A B : List Nat} {h h' : HP} {m : Nat} (F : Fm A B h h') (hm : LM h.kd h.gl h.fr m) (hA : 492 ∉ A ∧ 494 ∉ A) (hB : 493 ∉ B) (M : MB be sh ra h m) : MB be sh ra h' m := by
  obtain ⟨f1, f2, f3, f4, f5, f6⟩ := F
  obtain ⟨m1, m2, m3, m4⟩ := M
  refine ⟨?_, ?_, (f5 _ _ hB).trans m3, m4⟩
  · rw [f2, (f6 _ (by rw [hm.g492]; exact hA.1)).1]; exact m1
  · rw [f2, (f6 _ (by rw [hm.g494]; exact hA.2)).1]; exact m2
def rentN (σ : SG) (ra : Nat) : Nat → Nat
  | 0 => 0
  | k + 1 => rentN σ ra k + (if σ.li k < 240 then σ.wd k * σ.hg k * ra else 0)

def lookV (σ : SG) (r : Nat) (w : Int32) : Int32 := if w = 0 then (if σ.li r < 240 then 1 else 0) else if w = 1 then pl (σ.li r) else if w = 2 then (if σ.li r < 240 then nI (σ.dr r) else -1) else if w = 3 then pl (σ.rt r) else if w = 4 then nI (σ.hd r) else nI (σ.ms r)
def lkP (σ : SG) (x w : Int32) : Prop := (0 ≤ x ∧ x < nI σ.n) ∧ 0 ≤ w ∧ w ≤ 5
def frN (σ : SG) (k : Nat) : Nat := cnt σ.fre k
def rtN (σ : SG) (k : Nat) : Nat := cnt (fun r => decide (σ.rt r < 240)) k
theorem frN_y {σ : SG} {k : Nat} (h : σ.fre k = true) : frN σ (k + 1) = frN σ k + 1 := by simp [frN, cnt, h]
theorem frN_n {σ : SG} {k : Nat} (h : σ.fre k = false) : frN σ (k + 1) = frN σ k := by simp [frN, cnt, h]
theorem rtN_y {σ : SG} {k : Nat} (h : σ.rt k < 240) : rtN σ (k + 1) = rtN σ k + 1 := by simp [rtN, cnt, h]
theorem rtN_n {σ : SG} {k : Nat} (h : ¬ σ.rt k < 240) : rtN σ (k + 1) = rtN σ k := by simp [rtN, cnt, h]
def countV (σ : SG) (ra : Nat) (ln tp w : Int32) : Int32 := if w = 0 then nI σ.n else if w = 1 then nI (lyN σ σ.n) else if w = 2 then nI σ.yr else if w = 3 then nI (frN σ 120) else if w = 4 then nI (rtN σ σ.n) else if w = 5 then ln else if w = 6 then tp else if w = 7 then nI (rentN σ ra σ.n) else -1

theorem c_X7_thrown {G : GT} {h : HP} {m : Nat} (hm : LM h.kd h.gl h.fr m) : Con G 1 0 0 yX7_thrown cX7_thrown 1 (some .int) [rv m] h (PI (fun v h' => h.fi 448 m = v ∧ h = h')) := by
  refine Con.of (lv := [some (rv m)]) (by decide) (by simp only [lvE_r, lvE_i, lvE_l, lvE_s, lvE_0]; rfl) (by simp only [lgl_r, lgl_i, lgl_l, lgl_s, lgl_0]; decide) (fun Γ C R => ?_)
  refine r_aload_n (q := 1) (z := 0) C 0 rfl (by decide +kernel) rfl rfl ?_
  refine r_getI (q := 4) C 7 0 448 rfl (by decide +kernel) rfl (by decide) rfl rfl wf_X7_1 win7 hm.1 ?_
  exact r_iret C (by decide +kernel) rfl (by decide) (by decide) ⟨_, rfl, ⟨rfl, rfl⟩⟩
theorem c_X7_sick {G : GT} {h : HP} {m : Nat} {σ : SG} {x : Int32} (hm : LM h.kd h.gl h.fr m) (M : MR σ h m) (W : WF σ) : Con G 2 0 0 yX7_sick cX7_sick 2 (some .boolean) [rv m, .int x] h (PI (fun v h' => cif ((0 ≤ x ∧ x < nI σ.n) ∧ σ.sk x.toNatClampNeg = false ∧ ¬ σ.li x.toNatClampNeg < 240) 1 0 = v ∧ MR (cif ((0 ≤ x ∧ x < nI σ.n) ∧ σ.sk x.toNatClampNeg = false ∧ ¬ σ.li x.toNatClampNeg < 240) (σ.sk_ (upN σ.sk x.toNatClampNeg true)) σ) h' m ∧ Fm [482] [448] h h')) := by
  refine Con.of (lv := [some (rv m), some (.int x)]) (by decide) (by simp only [lvE_r, lvE_i, lvE_l, lvE_s, lvE_0]; rfl) (by simp only [lgl_r, lgl_i, lgl_l, lgl_s, lgl_0]; decide) (fun Γ C R => ?_)
  have r10 := W.n10
  have M1 : MR σ (h.setI 448 m 0) m := M.setI (by decide) (by decide) (by decide)
  refine r_aload_n (q := 1) (z := 0) C 0 rfl (by decide +kernel) rfl rfl ?_
  refine r_iconst (q := 2) (z := 0) (v := 0) C rfl (by decide +kernel) (by decide) ?_
  refine r_putI (q := 5) C 7 0 448 rfl (by decide +kernel) rfl (by decide) rfl rfl wf_X7_1 win7 tyX7 tyX7_ok nmX7 rfl (tyX7_ok 0 (by decide)) rfl wnd7 rfl rfl hm.1 ?_
  refine r_aload_n (q := 6) (z := 0) C 0 rfl (by decide +kernel) rfl rfl ?_
  refine r_iload_n (q := 7) (z := 1) C 1 rfl (by decide +kernel) rfl rfl ?_
  refine cV1I (q := 10) C R rfl (by decide +kernel) lk_X7_316 (c_X7_isRide hm M1) (by decide) (by decide) (by decide) rfl (by first | exact Nat.le_of_ble_eq_true rfl | (simp only [List.map_cons, List.map_nil, List.sum_cons, List.sum_nil, rv_cat]; exact Nat.le_of_ble_eq_true rfl)) rfl hm.1 ?_
  rintro _ _ ⟨rfl, rfl⟩
  refine r_if_eq (q := 13) (off := 21) (tgt := 31) C rfl (by decide +kernel) (by decide) (fun c10 => ?_) (fun c10 => ?_)
  · have c10 := of_decide_eq_false ((b2i_0 _).mp c10)
    refine r_iconst (q := 32) (z := 0) (v := 0) C rfl (by decide +kernel) (by decide) ?_
    exact r_zret C (by decide +kernel) rfl (by first | decide | exact b2i_nar _) (by decide) (by decide) ⟨_, rfl, (by
          first | (have hn : ¬ ((0 ≤ x ∧ x < nI σ.n) ∧ σ.sk x.toNatClampNeg = false ∧ ¬ σ.li x.toNatClampNeg < 240) := fun e => c10 e.1
                   rw [cif_f hn, cif_f hn]) | (have hn : ¬ ((0 ≤ nI r ∧ nI r < nI σ.n) ∧ σ.sk r = false ∧ ¬ σ.li r < 240) := fun e => e.2.2 c28
                                               rw [cif_f hn, cif_f hn]) | (have hn : ¬ ((0 ≤ nI r ∧ nI r < nI σ.n) ∧ σ.sk r = false ∧ ¬ σ.li r < 240) := fun e => absurd e.2.1 (by rw [(b2i_n0 _).mp c19]; decide)
                                                                           rw [cif_f hn, cif_f hn])
          exact ⟨rfl, M1, Fm.rf.setI (by decide)⟩)⟩
  · have c10 := of_decide_eq_true ((b2i_n0 _).mp c10)
    obtain ⟨r, hr, rfl⟩ := ride_of r10 c10
    refine r_aload_n (q := 14) (z := 0) C 0 rfl (by decide +kernel) rfl rfl ?_
    refine r_getR (q := 17) C 7 34 482 rfl (by decide +kernel) rfl (by decide) rfl rfl wf_X7_115 win7 hm.1 ?_
    refine r_iload_n (q := 18) (z := 1) C 1 rfl (by decide +kernel) rfl rfl ?_
    refine r_zald (q := 19) C rfl (by decide +kernel) hm.k482 (vp_in_nI (by omega) (by decide)) ?_
    rw [nI_clamp (by omega), M1.ask (by omega)]
    refine r_if_ne (q := 22) (off := 12) (tgt := 31) C rfl (by decide +kernel) (by decide) (fun c19 => ?_) (fun c19 => ?_)
    · refine r_iconst (q := 32) (z := 0) (v := 0) C rfl (by decide +kernel) (by decide) ?_
      exact r_zret C (by decide +kernel) rfl (by first | decide | exact b2i_nar _) (by decide) (by decide) ⟨_, rfl, (by
            first | (have hn : ¬ ((0 ≤ x ∧ x < nI σ.n) ∧ σ.sk x.toNatClampNeg = false ∧ ¬ σ.li x.toNatClampNeg < 240) := fun e => c10 e.1
                     rw [cif_f hn, cif_f hn]) | (have hn : ¬ ((0 ≤ nI r ∧ nI r < nI σ.n) ∧ σ.sk r = false ∧ ¬ σ.li r < 240) := fun e => e.2.2 c28
                                                 rw [cif_f hn, cif_f hn]) | (have hn : ¬ ((0 ≤ nI r ∧ nI r < nI σ.n) ∧ σ.sk r = false ∧ ¬ σ.li r < 240) := fun e => absurd e.2.1 (by rw [(b2i_n0 _).mp c19]; decide)
                                                                             rw [cif_f hn, cif_f hn])
            exact ⟨rfl, M1, Fm.rf.setI (by decide)⟩)⟩
    · refine r_aload_n (q := 23) (z := 0) C 0 rfl (by decide +kernel) rfl rfl ?_
      refine r_getR (q := 26) C 7 30 478 rfl (by decide +kernel) rfl (by decide) rfl rfl wf_X7_103 win7 hm.1 ?_
      refine r_iload_n (q := 27) (z := 1) C 1 rfl (by decide +kernel) rfl rfl ?_
      refine r_iald (q := 28) C rfl (by decide +kernel) hm.k478 (vp_in_nI (by omega) (by decide)) ?_
      rw [nI_clamp (by omega), M1.ali (by omega)]
      refine r_if_lt (q := 31) (off := 5) (tgt := 33) C rfl (by decide +kernel) (by decide) (fun c28 => ?_) (fun c28 => ?_)
      · have c28 := pl_neg.mp c28
        refine r_aload_n (q := 34) (z := 0) C 0 rfl (by decide +kernel) rfl rfl ?_
        refine r_getR (q := 37) C 7 34 482 rfl (by decide +kernel) rfl (by decide) rfl rfl wf_X7_115 win7 hm.1 ?_
        refine r_iload_n (q := 38) (z := 1) C 1 rfl (by decide +kernel) rfl rfl ?_
        refine r_iconst (q := 39) (z := 1) (v := 1) C rfl (by decide +kernel) (by decide) ?_
        refine r_zast (q := 40) C rfl (by decide +kernel) (show vp_nar .boolean 1 = 1 by decide) hm.k482 (vp_in_nI (by omega) (by decide)) ?_
        rw [stI_row, nI_clamp (by omega)]
        refine r_iconst (q := 41) (z := 1) (v := 1) C rfl (by decide +kernel) (by decide) ?_
        exact r_zret C (by decide +kernel) rfl (by first | decide | exact b2i_nar _) (by decide) (by decide) ⟨_, rfl, (by
              have hy : (0 ≤ nI r ∧ nI r < nI σ.n) ∧ σ.sk r = false ∧ ¬ σ.li r < 240 := ⟨c10, (b2i_0 _).mp c19, c28⟩
              rw [cif_t hy, cif_t hy]
              exact ⟨rfl, MR.sk_up (h := h.setI 448 m 0) hm M1 rfl, Fm.row (Fm.rf.setI (by decide)) (by show h.gl (h.fr 482 m) ∈ _; rw [hm.g482]; decide)⟩)⟩
      · have c28 := pl_nn.mp c28
        refine r_iconst (q := 32) (z := 0) (v := 0) C rfl (by decide +kernel) (by decide) ?_
        exact r_zret C (by decide +kernel) rfl (by first | decide | exact b2i_nar _) (by decide) (by decide) ⟨_, rfl, (by
              first | (have hn : ¬ ((0 ≤ x ∧ x < nI σ.n) ∧ σ.sk x.toNatClampNeg = false ∧ ¬ σ.li x.toNatClampNeg < 240) := fun e => c10 e.1
                       rw [cif_f hn, cif_f hn]) | (have hn : ¬ ((0 ≤ nI r ∧ nI r < nI σ.n) ∧ σ.sk r = false ∧ ¬ σ.li r < 240) := fun e => e.2.2 c28
                                                   rw [cif_f hn, cif_f hn]) | (have hn : ¬ ((0 ≤ nI r ∧ nI r < nI σ.n) ∧ σ.sk r = false ∧ ¬ σ.li r < 240) := fun e => absurd e.2.1 (by rw [(b2i_n0 _).mp c19]; decide)
                                                                               rw [cif_f hn, cif_f hn])
              exact ⟨rfl, M1, Fm.rf.setI (by decide)⟩)⟩
theorem c_X7_gate {G : GT} {h : HP} {m : Nat} {σ : SG} {y : Int32} (hm : LM h.kd h.gl h.fr m) (M : MR σ h m) (W : WF σ) : Con G 2 0 0 yX7_gate cX7_gate 2 (some .boolean) [rv m, .int y] h (PI (fun v h' => cif (gtP σ y) 1 0 = v ∧ MR (cif (gtP σ y) (σ.gr_ y.toNatClampNeg) σ) h' m ∧ Fm [] [448, 485] h h')) := by
  refine Con.of (lv := [some (rv m), some (.int y)]) (by decide) (by simp only [lvE_r, lvE_i, lvE_l, lvE_s, lvE_0]; rfl) (by simp only [lgl_r, lgl_i, lgl_l, lgl_s, lgl_0]; decide) (fun Γ C R => ?_)
  have r10 := W.n10
  have M1 : MR σ (h.setI 448 m 0) m := M.setI (by decide) (by decide) (by decide)
  refine r_aload_n (q := 1) (z := 0) C 0 rfl (by decide +kernel) rfl rfl ?_
  refine r_iconst (q := 2) (z := 0) (v := 0) C rfl (by decide +kernel) (by decide) ?_
  refine r_putI (q := 5) C 7 0 448 rfl (by decide +kernel) rfl (by decide) rfl rfl wf_X7_1 win7 tyX7 tyX7_ok nmX7 rfl (tyX7_ok 0 (by decide)) rfl wnd7 rfl rfl hm.1 ?_
  refine r_iload_n (q := 6) (z := 1) C 1 rfl (by decide +kernel) rfl rfl ?_
  refine r_if_lt (q := 9) (off := 28) (tgt := 34) C rfl (by decide +kernel) (by decide) (fun c6 => ?_) (fun c6 => ?_)
  · refine r_iconst (q := 35) (z := 0) (v := 0) C rfl (by decide +kernel) (by decide) ?_
    exact r_zret C (by decide +kernel) rfl (by first | decide | exact b2i_nar _) (by decide) (by decide) ⟨_, rfl, (by
          first | (have hn : ¬ gtP σ y := fun e => absurd e.1.1 (Int32.not_le.mpr c6)
                   rw [cif_f hn, cif_f hn]) | (have hn : ¬ gtP σ y := fun e => absurd e.1.2 (Int32.not_lt.mpr c12)
                                               rw [cif_f hn, cif_f hn]) | (have hn : ¬ gtP σ (nI g) := fun e => c19 e.2.1
                                                                           rw [cif_f hn, cif_f hn]) | (have hn : ¬ gtP σ (nI g) := fun e => absurd e.2.2 (by rw [nI_clamp (by omega), (b2i_n0 _).mp c31]; decide)
                                                                                                       rw [cif_f hn, cif_f hn])
          exact ⟨rfl, M1, Fm.rf.setI (by decide)⟩)⟩
  · refine r_iload_n (q := 10) (z := 1) C 1 rfl (by decide +kernel) rfl rfl ?_
    refine r_bipush (q := 12) (z := 10) (v := 10) C rfl (by decide +kernel) (by decide) ?_
    refine r_icmp_ge (q := 15) (off := 22) (tgt := 34) C rfl (by decide +kernel) (by decide) (fun c12 => ?_) (fun c12 => ?_)
    · refine r_iconst (q := 35) (z := 0) (v := 0) C rfl (by decide +kernel) (by decide) ?_
      exact r_zret C (by decide +kernel) rfl (by first | decide | exact b2i_nar _) (by decide) (by decide) ⟨_, rfl, (by
            first | (have hn : ¬ gtP σ y := fun e => absurd e.1.1 (Int32.not_le.mpr c6)
                     rw [cif_f hn, cif_f hn]) | (have hn : ¬ gtP σ y := fun e => absurd e.1.2 (Int32.not_lt.mpr c12)
                                                 rw [cif_f hn, cif_f hn]) | (have hn : ¬ gtP σ (nI g) := fun e => c19 e.2.1
                                                                             rw [cif_f hn, cif_f hn]) | (have hn : ¬ gtP σ (nI g) := fun e => absurd e.2.2 (by rw [nI_clamp (by omega), (b2i_n0 _).mp c31]; decide)
                                                                                                         rw [cif_f hn, cif_f hn])
            exact ⟨rfl, M1, Fm.rf.setI (by decide)⟩)⟩
    · have hy9 : ∃ g, g < 10 ∧ y = nI g := by
        obtain ⟨j, hj, rfl⟩ := nI_of c6
        exact ⟨j, (nI_ltI (b := 10) hj (by decide)).mp (Int32.not_le.mp c12), rfl⟩
      obtain ⟨g, hg, rfl⟩ := hy9
      have hl10 := lyN_le σ σ.n
      refine r_aload_n (q := 16) (z := 0) C 0 rfl (by decide +kernel) rfl rfl ?_
      refine cV0I (q := 19) C R rfl (by decide +kernel) lk_X7_304 (c_X7_lying hm M1 W) (by decide) (by decide) (by decide) rfl (by first | exact Nat.le_of_ble_eq_true rfl | (simp only [List.map_cons, List.map_nil, List.sum_cons, List.sum_nil, rv_cat]; exact Nat.le_of_ble_eq_true rfl)) rfl hm.1 ?_
      rintro _ _ ⟨rfl, rfl⟩
      refine r_if_gt (q := 22) (off := 15) (tgt := 34) C rfl (by decide +kernel) (by decide) (fun c19 => ?_) (fun c19 => ?_)
      · have c19 : ¬ lyN σ σ.n = 0 := fun e => by rw [e] at c19; exact absurd c19 (by decide)
        refine r_iconst (q := 35) (z := 0) (v := 0) C rfl (by decide +kernel) (by decide) ?_
        exact r_zret C (by decide +kernel) rfl (by first | decide | exact b2i_nar _) (by decide) (by decide) ⟨_, rfl, (by
              first | (have hn : ¬ gtP σ y := fun e => absurd e.1.1 (Int32.not_le.mpr c6)
                       rw [cif_f hn, cif_f hn]) | (have hn : ¬ gtP σ y := fun e => absurd e.1.2 (Int32.not_lt.mpr c12)
                                                   rw [cif_f hn, cif_f hn]) | (have hn : ¬ gtP σ (nI g) := fun e => c19 e.2.1
                                                                               rw [cif_f hn, cif_f hn]) | (have hn : ¬ gtP σ (nI g) := fun e => absurd e.2.2 (by rw [nI_clamp (by omega), (b2i_n0 _).mp c31]; decide)
                                                                                                           rw [cif_f hn, cif_f hn])
              exact ⟨rfl, M1, Fm.rf.setI (by decide)⟩)⟩
      · have c19 : lyN σ σ.n = 0 := by
          rcases Nat.eq_zero_or_pos (lyN σ σ.n) with e | e
          · exact e
          · exact absurd (nI_lt (a := 0) e (by omega)) c19
        refine r_aload_n (q := 23) (z := 0) C 0 rfl (by decide +kernel) rfl rfl ?_
        refine r_getR (q := 26) C 7 36 484 rfl (by decide +kernel) rfl (by decide) rfl rfl wf_X7_118 win7 hm.1 ?_
        refine r_bipush (q := 28) (z := 12) (v := 12) C rfl (by decide +kernel) (by decide) ?_
        refine r_iload_n (q := 29) (z := 1) C 1 rfl (by decide +kernel) rfl rfl ?_
        refine r_imul (q := 30) C rfl (by decide +kernel) ?_
        rw [show (12 : Int32) = nI 12 from rfl, pk_mul]
        refine r_zald (q := 31) C rfl (by decide +kernel) hm.k484 (vp_in_nI (by omega) (by decide)) ?_
        rw [nI_clamp (n := 12 * g) (by omega), M1.acl (by omega)]
        refine r_if_eq (q := 34) (off := 5) (tgt := 36) C rfl (by decide +kernel) (by decide) (fun c31 => ?_) (fun c31 => ?_)
        · refine r_aload_n (q := 37) (z := 0) C 0 rfl (by decide +kernel) rfl rfl ?_
          refine r_iload_n (q := 38) (z := 1) C 1 rfl (by decide +kernel) rfl rfl ?_
          refine r_putI (q := 41) C 7 37 485 rfl (by decide +kernel) rfl (by decide) rfl rfl wf_X7_277 win7 tyX7 tyX7_ok nmX7 rfl (tyX7_ok 37 (by decide)) rfl wnd7 rfl rfl hm.1 ?_
          refine r_iconst (q := 42) (z := 1) (v := 1) C rfl (by decide +kernel) (by decide) ?_
          exact r_zret C (by decide +kernel) rfl (by first | decide | exact b2i_nar _) (by decide) (by decide) ⟨_, rfl, (by
                have hy : gtP σ (nI g) := ⟨⟨nI_pos' (by omega), nI_lt (b := 10) hg (by decide)⟩, c19, by rw [nI_clamp (by omega)]; exact (b2i_0 _).mp c31⟩
                rw [cif_t hy, cif_t hy, nI_clamp (by omega)]
                exact ⟨rfl, MR.gr_up M1, (Fm.rf.setI (by decide)).setI (by decide)⟩)⟩
        · refine r_iconst (q := 35) (z := 0) (v := 0) C rfl (by decide +kernel) (by decide) ?_
          exact r_zret C (by decide +kernel) rfl (by first | decide | exact b2i_nar _) (by decide) (by decide) ⟨_, rfl, (by
                first | (have hn : ¬ gtP σ y := fun e => absurd e.1.1 (Int32.not_le.mpr c6)
                         rw [cif_f hn, cif_f hn]) | (have hn : ¬ gtP σ y := fun e => absurd e.1.2 (Int32.not_lt.mpr c12)
                                                     rw [cif_f hn, cif_f hn]) | (have hn : ¬ gtP σ (nI g) := fun e => c19 e.2.1
                                                                                 rw [cif_f hn, cif_f hn]) | (have hn : ¬ gtP σ (nI g) := fun e => absurd e.2.2 (by rw [nI_clamp (by omega), (b2i_n0 _).mp c31]; decide)
                                                                                                             rw [cif_f hn, cif_f hn])
                exact ⟨rfl, M1, Fm.rf.setI (by decide)⟩)⟩
theorem c_X7_ride {G : GT} {h : HP} {m : Nat} {σ : SG} {w z p s k : Int32} (hm : LM h.kd h.gl h.fr m) (M : MR σ h m) (W : WF σ) : Con G 2 0 0 yX7_ride cX7_ride 6 (some .int) [rv m, .int w, .int z, .int p, .int s, .int k] h (PI (fun v h' => cif (rdP σ w z p s k) (nI σ.n) (-1) = v ∧ MR (cif (rdP σ w z p s k) (σ.add w.toNatClampNeg z.toNatClampNeg p.toNatClampNeg s.toNatClampNeg k.toNatClampNeg) σ) h' m ∧ Fm [473, 474, 475, 476, 477] [448, 472] h h')) := by
  refine Con.of (lv := [some (rv m), some (.int w), some (.int z), some (.int p), some (.int s), some (.int k)]) (by decide) (by simp only [lvE_r, lvE_i, lvE_l, lvE_s, lvE_0]; rfl) (by simp only [lgl_r, lgl_i, lgl_l, lgl_s, lgl_0]; decide) (fun Γ C R => ?_)
  have r10 := W.n10
  have M1 : MR σ (h.setI 448 m 0) m := M.setI (by decide) (by decide) (by decide)
  refine r_aload_n (q := 1) (z := 0) C 0 rfl (by decide +kernel) rfl rfl ?_
  refine r_iconst (q := 2) (z := 0) (v := 0) C rfl (by decide +kernel) (by decide) ?_
  refine r_putI (q := 5) C 7 0 448 rfl (by decide +kernel) rfl (by decide) rfl rfl wf_X7_1 win7 tyX7 tyX7_ok nmX7 rfl (tyX7_ok 0 (by decide)) rfl wnd7 rfl rfl hm.1 ?_
  have J68 : (¬ rdP σ w z p s k) → wX G Γ (qM G Γ (PI (fun v h' => cif (rdP σ w z p s k) (nI σ.n) (-1) = v ∧ MR (cif (rdP σ w z p s k) (σ.add w.toNatClampNeg z.toNatClampNeg p.toNatClampNeg s.toNatClampNeg k.toNatClampNeg) σ) h' m ∧ Fm [473, 474, 475, 476, 477] [448, 472] h h')) 0 0) 0 0 (h.setI 448 m 0) 68 [some (rv m), some (.int w), some (.int z), some (.int p), some (.int s), some (.int k)] [] := by
    intro  hn
    refine r_iconst (q := 69) (z := (-1)) (v := (-1)) C rfl (by decide +kernel) (by decide) ?_
    exact r_iret C (by decide +kernel) rfl (by decide) (by decide) ⟨_, rfl, (by
          rw [cif_f hn, cif_f hn]
          exact ⟨rfl, M1, Fm.rf.setI (by decide)⟩)⟩
  refine r_iload_n (q := 6) (z := 1) C 1 rfl (by decide +kernel) rfl rfl ?_
  refine r_iconst (q := 7) (z := 1) (v := 1) C rfl (by decide +kernel) (by decide) ?_
  refine r_icmp_lt (q := 10) (off := 61) (tgt := 68) C rfl (by decide +kernel) (by decide) (fun c7 => ?_) (fun c7 => ?_)
  · exact J68 (fun e => absurd e.1.1 (Int32.not_le.mpr c7))
  · refine r_iload_n (q := 11) (z := 1) C 1 rfl (by decide +kernel) rfl rfl ?_
    refine r_iconst (q := 12) (z := 4) (v := 4) C rfl (by decide +kernel) (by decide) ?_
    refine r_icmp_gt (q := 15) (off := 56) (tgt := 68) C rfl (by decide +kernel) (by decide) (fun c12 => ?_) (fun c12 => ?_)
    · exact J68 (fun e => absurd e.1.2 (Int32.not_le.mpr c12))
    · refine r_iload_n (q := 16) (z := 2) C 2 rfl (by decide +kernel) rfl rfl ?_
      refine r_iconst (q := 17) (z := 1) (v := 1) C rfl (by decide +kernel) (by decide) ?_
      refine r_icmp_lt (q := 20) (off := 51) (tgt := 68) C rfl (by decide +kernel) (by decide) (fun c17 => ?_) (fun c17 => ?_)
      · exact J68 (fun e => absurd e.2.1.1 (Int32.not_le.mpr c17))
      · refine r_iload_n (q := 21) (z := 2) C 2 rfl (by decide +kernel) rfl rfl ?_
        refine r_iconst (q := 22) (z := 4) (v := 4) C rfl (by decide +kernel) (by decide) ?_
        refine r_icmp_gt (q := 25) (off := 46) (tgt := 68) C rfl (by decide +kernel) (by decide) (fun c22 => ?_) (fun c22 => ?_)
        · exact J68 (fun e => absurd e.2.1.2 (Int32.not_le.mpr c22))
        · refine r_iload_n (q := 26) (z := 3) C 3 rfl (by decide +kernel) rfl rfl ?_
          refine r_if_lt (q := 29) (off := 42) (tgt := 68) C rfl (by decide +kernel) (by decide) (fun c26 => ?_) (fun c26 => ?_)
          · exact J68 (fun e => absurd e.2.2.1.1 (Int32.not_le.mpr c26))
          · refine r_iload_n (q := 30) (z := 3) C 3 rfl (by decide +kernel) rfl rfl ?_
            refine r_bipush (q := 32) (z := 100) (v := 100) C rfl (by decide +kernel) (by decide) ?_
            refine r_icmp_gt (q := 35) (off := 36) (tgt := 68) C rfl (by decide +kernel) (by decide) (fun c32 => ?_) (fun c32 => ?_)
            · exact J68 (fun e => absurd e.2.2.1.2 (Int32.not_le.mpr c32))
            · refine r_iload (q := 37) C 4 rfl (by decide +kernel) rfl ?_
              refine r_if_lt (q := 40) (off := 31) (tgt := 68) C rfl (by decide +kernel) (by decide) (fun c37 => ?_) (fun c37 => ?_)
              · exact J68 (fun e => absurd e.2.2.2.1.1 (Int32.not_le.mpr c37))
              · refine r_iload (q := 42) C 4 rfl (by decide +kernel) rfl ?_
                refine r_bipush (q := 44) (z := 9) (v := 9) C rfl (by decide +kernel) (by decide) ?_
                refine r_icmp_gt (q := 47) (off := 24) (tgt := 68) C rfl (by decide +kernel) (by decide) (fun c44 => ?_) (fun c44 => ?_)
                · exact J68 (fun e => absurd e.2.2.2.1.2 (Int32.not_le.mpr c44))
                · refine r_iload (q := 49) C 5 rfl (by decide +kernel) rfl ?_
                  refine r_if_lt (q := 52) (off := 19) (tgt := 68) C rfl (by decide +kernel) (by decide) (fun c49 => ?_) (fun c49 => ?_)
                  · exact J68 (fun e => absurd e.2.2.2.2.1.1 (Int32.not_le.mpr c49))
                  · refine r_iload (q := 54) C 5 rfl (by decide +kernel) rfl ?_
                    refine r_bipush (q := 56) (z := 99) (v := 99) C rfl (by decide +kernel) (by decide) ?_
                    refine r_icmp_gt (q := 59) (off := 12) (tgt := 68) C rfl (by decide +kernel) (by decide) (fun c56 => ?_) (fun c56 => ?_)
                    · exact J68 (fun e => absurd e.2.2.2.2.1.2 (Int32.not_le.mpr c56))
                    · refine r_aload_n (q := 60) (z := 0) C 0 rfl (by decide +kernel) rfl rfl ?_
                      refine r_getI (q := 63) C 7 24 472 rfl (by decide +kernel) rfl (by decide) rfl rfl wf_X7_243 win7 hm.1 ?_
                      rw [M1.fn]
                      refine r_bipush (q := 65) (z := 10) (v := 10) C rfl (by decide +kernel) (by decide) ?_
                      refine r_icmp_ne (q := 68) (off := 5) (tgt := 70) C rfl (by decide +kernel) (by decide) (fun c65 => ?_) (fun c65 => ?_)
                      · have hlt : σ.n < 10 := by
                          rcases Nat.lt_or_ge σ.n 10 with e | e
                          · exact e
                          · exact absurd (by rw [show σ.n = 10 by omega]; rfl) c65
                        have hy : rdP σ w z p s k := ⟨⟨Int32.not_lt.mp c7, Int32.not_lt.mp c12⟩, ⟨Int32.not_lt.mp c17, Int32.not_lt.mp c22⟩, ⟨Int32.not_lt.mp c26, Int32.not_lt.mp c32⟩, ⟨Int32.not_lt.mp c37, Int32.not_lt.mp c44⟩, ⟨Int32.not_lt.mp c49, Int32.not_lt.mp c56⟩, hlt⟩
                        obtain ⟨w1, w2, w3⟩ := nI_rng (a := 1) (b := 4) (by decide) hy.1.1 hy.1.2 (by decide)
                        obtain ⟨z1, z2, z3⟩ := nI_rng (a := 1) (b := 4) (by decide) hy.2.1.1 hy.2.1.2 (by decide)
                        obtain ⟨p1, p2, p3⟩ := nI_rng (a := 0) (b := 100) (by decide) hy.2.2.1.1 hy.2.2.1.2 (by decide)
                        obtain ⟨s1, s2, s3⟩ := nI_rng (a := 0) (b := 9) (by decide) hy.2.2.2.1.1 hy.2.2.2.1.2 (by decide)
                        obtain ⟨k1, k2, k3⟩ := nI_rng (a := 0) (b := 99) (by decide) hy.2.2.2.2.1.1 hy.2.2.2.2.1.2 (by decide)
                        refine r_aload_n (q := 71) (z := 0) C 0 rfl (by decide +kernel) rfl rfl ?_
                        refine r_getR (q := 74) C 7 25 473 rfl (by decide +kernel) rfl (by decide) rfl rfl wf_X7_88 win7 hm.1 ?_
                        refine r_aload_n (q := 75) (z := 0) C 0 rfl (by decide +kernel) rfl rfl ?_
                        refine r_getI (q := 78) C 7 24 472 rfl (by decide +kernel) rfl (by decide) rfl rfl wf_X7_243 win7 hm.1 ?_
                        rw [M1.fn]
                        refine r_iload_n (q := 79) (z := 1) C 1 rfl (by decide +kernel) rfl rfl ?_
                        refine r_iast (q := 80) C rfl (by decide +kernel) rfl hm.k473 (vp_in_nI hlt (by decide)) ?_
                        rw [stI_row, nI_clamp (by omega)]
                        have M2 := MR.wd_up (h := h.setI 448 m 0) (r := σ.n) hm M1 w3
                        refine r_aload_n (q := 81) (z := 0) C 0 rfl (by decide +kernel) rfl rfl ?_
                        refine r_getR (q := 84) C 7 26 474 rfl (by decide +kernel) rfl (by decide) rfl rfl wf_X7_91 win7 hm.1 ?_
                        refine r_aload_n (q := 85) (z := 0) C 0 rfl (by decide +kernel) rfl rfl ?_
                        refine r_getI (q := 88) C 7 24 472 rfl (by decide +kernel) rfl (by decide) rfl rfl wf_X7_243 win7 hm.1 ?_
                        rw [fi_row, M1.fn]
                        refine r_iload_n (q := 89) (z := 2) C 2 rfl (by decide +kernel) rfl rfl ?_
                        refine r_iast (q := 90) C rfl (by decide +kernel) rfl hm.k474 (vp_in_nI hlt (by decide)) ?_
                        try simp only [fr_row]
                        rw [stI_row, nI_clamp (by omega)]
                        have M3 := MR.hg_up (h := (h.setI 448 m 0).row _ _) (r := σ.n) hm M2 z3
                        refine r_aload_n (q := 91) (z := 0) C 0 rfl (by decide +kernel) rfl rfl ?_
                        refine r_getR (q := 94) C 7 27 475 rfl (by decide +kernel) rfl (by decide) rfl rfl wf_X7_94 win7 hm.1 ?_
                        refine r_aload_n (q := 95) (z := 0) C 0 rfl (by decide +kernel) rfl rfl ?_
                        refine r_getI (q := 98) C 7 24 472 rfl (by decide +kernel) rfl (by decide) rfl rfl wf_X7_243 win7 hm.1 ?_
                        simp only [fi_row]
                        rw [M1.fn]
                        refine r_iload_n (q := 99) (z := 3) C 3 rfl (by decide +kernel) rfl rfl ?_
                        refine r_iast (q := 100) C rfl (by decide +kernel) rfl hm.k475 (vp_in_nI hlt (by decide)) ?_
                        try simp only [fr_row]
                        rw [stI_row, nI_clamp (by omega)]
                        have M4 := MR.pw_up (h := ((h.setI 448 m 0).row _ _).row _ _) (r := σ.n) hm M3 p3
                        refine r_aload_n (q := 101) (z := 0) C 0 rfl (by decide +kernel) rfl rfl ?_
                        refine r_getR (q := 104) C 7 28 476 rfl (by decide +kernel) rfl (by decide) rfl rfl wf_X7_97 win7 hm.1 ?_
                        refine r_aload_n (q := 105) (z := 0) C 0 rfl (by decide +kernel) rfl rfl ?_
                        refine r_getI (q := 108) C 7 24 472 rfl (by decide +kernel) rfl (by decide) rfl rfl wf_X7_243 win7 hm.1 ?_
                        simp only [fi_row]
                        rw [M1.fn]
                        refine r_iload (q := 110) C 4 rfl (by decide +kernel) rfl ?_
                        refine r_iast (q := 111) C rfl (by decide +kernel) rfl hm.k476 (vp_in_nI hlt (by decide)) ?_
                        try simp only [fr_row]
                        rw [stI_row, nI_clamp (by omega)]
                        have M5 := MR.ns_up (h := (((h.setI 448 m 0).row _ _).row _ _).row _ _) (r := σ.n) hm M4 s3
                        refine r_aload_n (q := 112) (z := 0) C 0 rfl (by decide +kernel) rfl rfl ?_
                        refine r_getR (q := 115) C 7 29 477 rfl (by decide +kernel) rfl (by decide) rfl rfl wf_X7_100 win7 hm.1 ?_
                        refine r_aload_n (q := 116) (z := 0) C 0 rfl (by decide +kernel) rfl rfl ?_
                        refine r_getI (q := 119) C 7 24 472 rfl (by decide +kernel) rfl (by decide) rfl rfl wf_X7_243 win7 hm.1 ?_
                        simp only [fi_row]
                        rw [M1.fn]
                        refine r_iload (q := 121) C 5 rfl (by decide +kernel) rfl ?_
                        refine r_iast (q := 122) C rfl (by decide +kernel) rfl hm.k477 (vp_in_nI hlt (by decide)) ?_
                        try simp only [fr_row]
                        rw [stI_row, nI_clamp (by omega)]
                        have M6 := MR.rk_up (h := ((((h.setI 448 m 0).row _ _).row _ _).row _ _).row _ _) (r := σ.n) hm M5 k3
                        refine r_aload_n (q := 123) (z := 0) C 0 rfl (by decide +kernel) rfl rfl ?_
                        refine r_dup (q := 124) C rfl (by decide +kernel) (by first | rfl | exact rv_cat _) ?_
                        refine r_getI (q := 127) C 7 24 472 rfl (by decide +kernel) rfl (by decide) rfl rfl wf_X7_243 win7 hm.1 ?_
                        simp only [fi_row]
                        rw [M1.fn]
                        refine r_iconst (q := 128) (z := 1) (v := 1) C rfl (by decide +kernel) (by decide) ?_
                        refine r_iadd (q := 129) C rfl (by decide +kernel) ?_
                        rw [nI_1]
                        refine r_putI (q := 132) C 7 24 472 rfl (by decide +kernel) rfl (by decide) rfl rfl wf_X7_243 win7 tyX7 tyX7_ok nmX7 rfl (tyX7_ok 24 (by decide)) rfl wnd7 rfl rfl hm.1 ?_
                        refine r_aload_n (q := 133) (z := 0) C 0 rfl (by decide +kernel) rfl rfl ?_
                        refine r_getI (q := 136) C 7 24 472 rfl (by decide +kernel) rfl (by decide) rfl rfl wf_X7_243 win7 hm.1 ?_
                        rw [fi_eq]
                        refine r_iconst (q := 137) (z := 1) (v := 1) C rfl (by decide +kernel) (by decide) ?_
                        refine r_isub (q := 138) C rfl (by decide +kernel) ?_
                        rw [nI_pred]
                        exact r_iret C (by decide +kernel) rfl (by decide) (by decide) ⟨_, rfl, (by
                              rw [cif_t hy, cif_t hy]
                              refine ⟨rfl, MR.n_up M6, Fm.setI (Fm.row (Fm.row (Fm.row (Fm.row (Fm.row (Fm.rf.setI (by decide)) ?_) ?_) ?_) ?_) ?_) (by decide)⟩
                              · show h.gl (h.fr 473 m) ∈ _; rw [hm.g473]; decide
                              · show h.gl (h.fr 474 m) ∈ _; rw [hm.g474]; decide
                              · show h.gl (h.fr 475 m) ∈ _; rw [hm.g475]; decide
                              · show h.gl (h.fr 476 m) ∈ _; rw [hm.g476]; decide
                              · show h.gl (h.fr 477 m) ∈ _; rw [hm.g477]; decide)⟩
                      · have c65 : σ.n = 10 := (nI_eq (b := 10) (by omega) (by decide)).mp c65
                        exact J68 (fun e => absurd e.2.2.2.2.2 (by omega))
theorem c_X7_cell {G : GT} {h : HP} {m : Nat} {σ : SG} {x y : Int32} (hm : LM h.kd h.gl h.fr m) (M : MR σ h m) (W : WF σ) : Con G 5 0 0 yX7_cell cX7_cell 3 (some .int) [rv m, .int x, .int y] h (PI (fun v h' => (if hasC x y then (if σ.cl (12 * y + x).toNatClampNeg then -2 else covN σ (12 * y + x).toNatClampNeg σ.n) else -3) = v ∧ h.setI 448 m 0 = h')) := by
  refine Con.of (lv := [some (rv m), some (.int x), some (.int y)]) (by decide) (by simp only [lvE_r, lvE_i, lvE_l, lvE_s, lvE_0]; rfl) (by simp only [lgl_r, lgl_i, lgl_l, lgl_s, lgl_0]; decide) (fun Γ C R => ?_)
  have r10 := W.n10
  have M1 : MR σ (h.setI 448 m 0) m := M.setI (by decide) (by decide) (by decide)
  refine r_aload_n (q := 1) (z := 0) C 0 rfl (by decide +kernel) rfl rfl ?_
  refine r_iconst (q := 2) (z := 0) (v := 0) C rfl (by decide +kernel) (by decide) ?_
  refine r_putI (q := 5) C 7 0 448 rfl (by decide +kernel) rfl (by decide) rfl rfl wf_X7_1 win7 tyX7 tyX7_ok nmX7 rfl (tyX7_ok 0 (by decide)) rfl wnd7 rfl rfl hm.1 ?_
  refine r_iload_n (q := 6) (z := 1) C 1 rfl (by decide +kernel) rfl rfl ?_
  refine r_iload_n (q := 7) (z := 2) C 2 rfl (by decide +kernel) rfl rfl ?_
  refine cS2I (q := 10) C R rfl (by decide +kernel) lk_X7_295 (c_X7_isCell ) (by decide) (by decide) (by decide) rfl (by first | exact Nat.le_of_ble_eq_true rfl | (simp only [List.map_cons, List.map_nil, List.sum_cons, List.sum_nil, rv_cat]; exact Nat.le_of_ble_eq_true rfl))  ?_
  rintro _ _ ⟨rfl, rfl⟩
  refine r_if_ne (q := 13) (off := 6) (tgt := 16) C rfl (by decide +kernel) (by decide) (fun c10 => ?_) (fun c10 => ?_)
  · have c10 := (b2i_n0 _).mp c10
    obtain ⟨c0, hc0, hcl⟩ := cAt_of c10
    have h120 := hc0.2.2
    refine r_aload_n (q := 17) (z := 0) C 0 rfl (by decide +kernel) rfl rfl ?_
    refine r_getR (q := 20) C 7 36 484 rfl (by decide +kernel) rfl (by decide) rfl rfl wf_X7_118 win7 hm.1 ?_
    refine r_bipush (q := 22) (z := 12) (v := 12) C rfl (by decide +kernel) (by decide) ?_
    refine r_iload_n (q := 23) (z := 2) C 2 rfl (by decide +kernel) rfl rfl ?_
    refine r_imul (q := 24) C rfl (by decide +kernel) ?_
    refine r_iload_n (q := 25) (z := 1) C 1 rfl (by decide +kernel) rfl rfl ?_
    refine r_iadd (q := 26) C rfl (by decide +kernel) ?_
    rw [hc0.2.1]
    refine r_zald (q := 27) C rfl (by decide +kernel) hm.k484 (vp_in_nI h120 (by decide)) ?_
    rw [nI_clamp (by omega), M1.acl h120]
    refine r_if_eq (q := 30) (off := 8) (tgt := 35) C rfl (by decide +kernel) (by decide) (fun c27 => ?_) (fun c27 => ?_)
    · refine r_aload_n (q := 36) (z := 0) C 0 rfl (by decide +kernel) rfl rfl ?_
      refine r_bipush (q := 38) (z := 12) (v := 12) C rfl (by decide +kernel) (by decide) ?_
      refine r_iload_n (q := 39) (z := 2) C 2 rfl (by decide +kernel) rfl rfl ?_
      refine r_imul (q := 40) C rfl (by decide +kernel) ?_
      refine r_iload_n (q := 41) (z := 1) C 1 rfl (by decide +kernel) rfl rfl ?_
      refine r_iadd (q := 42) C rfl (by decide +kernel) ?_
      rw [hc0.2.1]
      refine cV1I (q := 45) C R rfl (by decide +kernel) lk_X7_271 (c_X7_coveredBy hm M1 W (by omega)) (by decide) (by decide) (by decide) rfl (by first | exact Nat.le_of_ble_eq_true rfl | (simp only [List.map_cons, List.map_nil, List.sum_cons, List.sum_nil, rv_cat]; exact Nat.le_of_ble_eq_true rfl)) rfl hm.1 ?_
      rintro _ _ ⟨rfl, rfl⟩
      exact r_iret C (by decide +kernel) rfl (by decide) (by decide) ⟨_, rfl, ⟨by rw [if_pos c10]; first | (rw [nI_clamp (by omega), (b2i_n0 _).mp c27]; rfl) | (rw [nI_clamp (by omega), (b2i_0 _).mp c27]; rfl) | (rw [(b2i_n0 _).mp c27]; rfl) | (rw [(b2i_0 _).mp c27]; rfl), rfl⟩⟩
    · refine r_bipush (q := 32) (z := (-2)) (v := (-2)) C rfl (by decide +kernel) (by decide) ?_
      refine r_goto (off := 13) (tgt := 45) C (by decide +kernel) (by decide) ?_
      exact r_iret C (by decide +kernel) rfl (by decide) (by decide) ⟨_, rfl, ⟨by rw [if_pos c10]; first | (rw [nI_clamp (by omega), (b2i_n0 _).mp c27]; rfl) | (rw [nI_clamp (by omega), (b2i_0 _).mp c27]; rfl) | (rw [(b2i_n0 _).mp c27]; rfl) | (rw [(b2i_0 _).mp c27]; rfl), rfl⟩⟩
  · have c10 := (b2i_0 _).mp c10
    refine r_bipush (q := 15) (z := (-3)) (v := (-3)) C rfl (by decide +kernel) (by decide) ?_
    exact r_iret C (by decide +kernel) rfl (by decide) (by decide) ⟨_, rfl, ⟨by rw [c10]; rfl, rfl⟩⟩
theorem c_X7_rents {G : GT} {h : HP} {m : Nat} {σ : SG} {be sh : Nat → Nat} {ra : Nat} (hm : LM h.kd h.gl h.fr m) (M : MR σ h m) (W : WF σ) (Mb : MB be sh ra h m) : Con G 1 0 0 yX7_rents cX7_rents 3 (some .int) [rv m] h (PI (fun v h' => nI (rentN σ ra σ.n) = v ∧ h = h')) := by
  refine Con.of (lv := [some (rv m), none, none]) (by decide) (by simp only [lvE_r, lvE_i, lvE_l, lvE_s, lvE_0]; rfl) (by simp only [lgl_r, lgl_i, lgl_l, lgl_s, lgl_0]; decide) (fun Γ C R => ?_)
  have r10 := W.n10
  refine r_iconst (q := 1) (z := 0) (v := 0) C rfl (by decide +kernel) (by decide) ?_
  refine r_istore_n (q := 2) (z := 1) C 1 rfl (by decide +kernel) rfl (by decide) (by first | rfl | exact okst_rv rfl) ?_
  dsimp only [List.set]
  refine r_iconst (q := 3) (z := 0) (v := 0) C rfl (by decide +kernel) (by decide) ?_
  refine r_istore_n (q := 4) (z := 2) C 2 rfl (by decide +kernel) rfl (by decide) (by first | rfl | exact okst_rv rfl) ?_
  dsimp only [List.set]
  have L4 : ∀ (fuel4 : Nat) (k : Nat), σ.n - k < fuel4 → (k ≤ σ.n) → wX G Γ (qM G Γ (PI (fun v h' => nI (rentN σ ra σ.n) = v ∧ h = h')) 0 0) 0 0 (h) 4 [some (rv m), some (.int (nI (rentN σ ra k))), some (.int (nI k))] [] := by
    intro fuel4
    induction fuel4 with
    | zero =>
      intro k hm4
      exact absurd hm4 (Nat.not_lt_zero _)
    | succ fuel4 ih4 =>
      intro k hm4 hk
      refine r_iload_n (q := 5) (z := 2) C 2 rfl (by decide +kernel) rfl rfl ?_
      refine r_aload_n (q := 6) (z := 0) C 0 rfl (by decide +kernel) rfl rfl ?_
      refine r_getI (q := 9) C 7 24 472 rfl (by decide +kernel) rfl (by decide) rfl rfl wf_X7_243 win7 hm.1 ?_
      rw [M.fn]
      refine r_icmp_ge (q := 12) (off := 43) (tgt := 52) C rfl (by decide +kernel) (by decide) (fun c9 => ?_) (fun c9 => ?_)
      · have ek : k = σ.n := by have := (nI_leI (by omega) (by omega)).mp c9; omega
        subst ek
        refine r_iload_n (q := 53) (z := 1) C 1 rfl (by decide +kernel) rfl rfl ?_
        exact r_iret C (by decide +kernel) rfl (by decide) (by decide) ⟨_, rfl, ⟨rfl, rfl⟩⟩
      · have hlt : k < σ.n := Nat.lt_of_not_le (fun e => c9 (nI_le e (by omega)))
        refine r_iload_n (q := 13) (z := 1) C 1 rfl (by decide +kernel) rfl rfl ?_
        refine r_aload_n (q := 14) (z := 0) C 0 rfl (by decide +kernel) rfl rfl ?_
        refine r_getR (q := 17) C 7 30 478 rfl (by decide +kernel) rfl (by decide) rfl rfl wf_X7_103 win7 hm.1 ?_
        refine r_iload_n (q := 18) (z := 2) C 2 rfl (by decide +kernel) rfl rfl ?_
        refine r_iald (q := 19) C rfl (by decide +kernel) hm.k478 (vp_in_nI (by omega) (by decide)) ?_
        rw [nI_clamp (by omega), M.ali (by omega)]
        refine r_if_lt (q := 22) (off := 24) (tgt := 43) C rfl (by decide +kernel) (by decide) (fun c19 => ?_) (fun c19 => ?_)
        · have e44 : nI (rentN σ ra k) + 0 = nI (rentN σ ra (k + 1)) := by rw [rentN, if_neg (pl_neg.mp c19)]; exact nI_add _ 0
          refine r_iconst (q := 44) (z := 0) (v := 0) C rfl (by decide +kernel) (by decide) ?_
          refine r_iadd (q := 45) C rfl (by decide +kernel) ?_
          rw [e44]
          refine r_istore_n (q := 46) (z := 1) C 1 rfl (by decide +kernel) rfl (by decide) (by first | rfl | exact okst_rv rfl) ?_
          dsimp only [List.set]
          refine r_iinc (q := 49) (z := 1) (v := 1) C 2 rfl (by decide +kernel) rfl (by decide) (by decide) (by first | rfl | exact okst_rv rfl) ?_
          dsimp only [List.set]
          rw [nI_1]
          refine r_goto (off := -45) (tgt := 4) C (by decide +kernel) (by decide) ?_
          exact ih4 (k + 1) (by omega) (by omega)
        · have e44 : nI (rentN σ ra k) + nI (σ.wd k * σ.hg k * ra) = nI (rentN σ ra (k + 1)) := by rw [rentN, if_pos (pl_nn.mp c19)]; exact nI_add _ _
          refine r_aload_n (q := 23) (z := 0) C 0 rfl (by decide +kernel) rfl rfl ?_
          refine r_getR (q := 26) C 7 25 473 rfl (by decide +kernel) rfl (by decide) rfl rfl wf_X7_88 win7 hm.1 ?_
          refine r_iload_n (q := 27) (z := 2) C 2 rfl (by decide +kernel) rfl rfl ?_
          refine r_iald (q := 28) C rfl (by decide +kernel) hm.k473 (vp_in_nI (by omega) (by decide)) ?_
          rw [nI_clamp (by omega), M.awd (by omega)]
          refine r_aload_n (q := 29) (z := 0) C 0 rfl (by decide +kernel) rfl rfl ?_
          refine r_getR (q := 32) C 7 26 474 rfl (by decide +kernel) rfl (by decide) rfl rfl wf_X7_91 win7 hm.1 ?_
          refine r_iload_n (q := 33) (z := 2) C 2 rfl (by decide +kernel) rfl rfl ?_
          refine r_iald (q := 34) C rfl (by decide +kernel) hm.k474 (vp_in_nI (by omega) (by decide)) ?_
          rw [nI_clamp (by omega), M.ahg (by omega)]
          refine r_imul (q := 35) C rfl (by decide +kernel) ?_
          rw [pk_mul]
          refine r_aload_n (q := 36) (z := 0) C 0 rfl (by decide +kernel) rfl rfl ?_
          refine r_getI (q := 39) C 7 45 493 rfl (by decide +kernel) rfl (by decide) rfl rfl wf_X7_142 win7 hm.1 ?_
          rw [Mb.2.2.1]
          refine r_imul (q := 40) C rfl (by decide +kernel) ?_
          rw [pk_mul]
          refine r_goto (off := 4) (tgt := 44) C (by decide +kernel) (by decide) ?_
          refine r_iadd (q := 45) C rfl (by decide +kernel) ?_
          rw [e44]
          refine r_istore_n (q := 46) (z := 1) C 1 rfl (by decide +kernel) rfl (by decide) (by first | rfl | exact okst_rv rfl) ?_
          dsimp only [List.set]
          refine r_iinc (q := 49) (z := 1) (v := 1) C 2 rfl (by decide +kernel) rfl (by decide) (by decide) (by first | rfl | exact okst_rv rfl) ?_
          dsimp only [List.set]
          rw [nI_1]
          refine r_goto (off := -45) (tgt := 4) C (by decide +kernel) (by decide) ?_
          exact ih4 (k + 1) (by omega) (by omega)
  exact L4 (σ.n + 1) 0 (by omega) (by omega)
end
section
theorem eqP {P PP : Option Value → HP → Prop} (e : P = PP) {v : Option Value} {h : HP} (hp : P v h) : PP v h := e ▸ hp
theorem Fl.scr486 {h : HP} {m : Nat} {f : Nat → Int32} {rb : Nat → Bool} (hf : Fl f rb 120) : Fl ((h.row (h.fr 486 m) f).ai (h.fr 486 m)) rb 120 := by rw [ai_row_eq]; exact hf
theorem cl_self (σ : SG) : σ.cl_ σ.cl = σ := rfl
theorem m1_ne {c : Nat} (h : c < 1000) : ¬ (-1 : Int32) = nI c := fun e => by
  have := congrArg Int32.toInt e
  rw [nI_toInt (by omega)] at this
  rw [show (-1 : Int32).toInt = -1 from by decide] at this
  omega
theorem MB.be_up {be sh : Nat → Nat} {ra : Nat} {h : HP} {m k : Nat} {v : Int32} (hm : LM h.kd h.gl h.fr m) (M : MB be sh ra h m) (h1 : v = nI v.toNatClampNeg) (h2 : v.toNatClampNeg ≤ 1000) : MB (upN be k v.toNatClampNeg) sh ra (h.row (h.fr 492 m) (upd (h.ai (h.fr 492 m)) k v)) m := by
  obtain ⟨m1, m2, m3, m4⟩ := M
  refine ⟨fun j hj => ?_, ?_, m3, m4⟩
  · rw [fr_row, ai_row_eq]
    show (if j = k then v else h.ai (h.fr 492 m) j) = nI (upN be k v.toNatClampNeg j) ∧ _
    by_cases e : j = k
    · rw [if_pos e, e, upN_s]; exact ⟨h1, h2⟩
    · rw [if_neg e, upN_n e]; exact m1 j hj
  · rw [fr_row, ai_row_ne (gl_ne hm.g494 hm.g492 (by decide))]; exact m2
theorem MB.sh_up {be sh : Nat → Nat} {ra : Nat} {h : HP} {m k : Nat} {v : Int32} (hm : LM h.kd h.gl h.fr m) (M : MB be sh ra h m) (h1 : v = nI v.toNatClampNeg) (h2 : 1 ≤ v.toNatClampNeg ∧ v.toNatClampNeg ≤ 1000) : MB be (upN sh k v.toNatClampNeg) ra (h.row (h.fr 494 m) (upd (h.ai (h.fr 494 m)) k v)) m := by
  obtain ⟨m1, m2, m3, m4⟩ := M
  refine ⟨?_, fun j hj => ?_, m3, m4⟩
  · rw [fr_row, ai_row_ne (gl_ne hm.g492 hm.g494 (by decide))]; exact m1
  · rw [fr_row, ai_row_eq]
    show (if j = k then v else h.ai (h.fr 494 m) j) = nI (upN sh k v.toNatClampNeg j) ∧ _
    by_cases e : j = k
    · rw [if_pos e, e, upN_s]; exact ⟨h1, h2⟩
    · rw [if_neg e, upN_n e]; exact m2 j hj
theorem MB.ra_up {be sh : Nat → Nat} {ra : Nat} {h : HP} {m : Nat} {v : Int32} (M : MB be sh ra h m) (h1 : v = nI v.toNatClampNeg) (h2 : v.toNatClampNeg ≤ 1000) : MB be sh v.toNatClampNeg (h.setI 493 m v) m := by
  obtain ⟨m1, m2, m3, m4⟩ := M
  exact ⟨m1, m2, fi_eq.trans h1, h2⟩
theorem MB.setI {be sh : Nat → Nat} {ra : Nat} {h : HP} {m g b : Nat} {v : Int32} (M : MB be sh ra h m) (hg : g ≠ 493) : MB be sh ra (h.setI g b v) m := ⟨M.1, M.2.1, (fi_ne (Ne.symm hg)).trans M.2.2.1, M.2.2.2⟩
def beP (x p : Int32) : Prop := (0 ≤ x ∧ x ≤ 2) ∧ 0 ≤ p ∧ p ≤ 1000
def shP (x p : Int32) : Prop := (0 ≤ x ∧ x ≤ 2) ∧ 1 ≤ p ∧ p ≤ 1000
theorem nI_rng2 {x : Int32} {a b : Nat} (hb : b < 100000) (h1 : nI a ≤ x) (h2 : x ≤ nI b) (ha : a < 100000) : a ≤ x.toNatClampNeg ∧ x.toNatClampNeg ≤ b ∧ x = nI x.toNatClampNeg := by
  have e0 : ¬ x < 0 := fun e => absurd (Int32.lt_of_le_of_lt h1 e) (nI_pos (by omega))
  obtain ⟨j, hj, rfl⟩ := nI_of e0
  rw [nI_clamp hj]
  exact ⟨(nI_leI (by omega) hj).mp h1, (nI_leI hj (by omega)).mp h2, rfl⟩

theorem c_X7_close {G : GT} {h : HP} {m : Nat} {σ : SG} {x y : Int32} {yes : Bool} (hm : LM h.kd h.gl h.fr m) (M : MR σ h m) (W : WF σ) : Con G 7 0 0 yX7_close cX7_close 7 (some .boolean) [rv m, .int x, .int y, .int (b2i yes)] h (PI (fun v h' => cif (clP σ x y yes) 1 0 = v ∧ MR (cif (clP σ x y yes) (σ.cl_ (upN σ.cl (12 * y + x).toNatClampNeg yes)) σ) h' m ∧ Fm [484, 486, 487] [448] h h')) := by
  refine Con.of (lv := [some (rv m), some (.int x), some (.int y), some (.int (b2i yes)), none, none, none]) (by decide) (by simp only [lvE_r, lvE_i, lvE_l, lvE_s, lvE_0]; rfl) (by simp only [lgl_r, lgl_i, lgl_l, lgl_s, lgl_0]; decide) (fun Γ C R => ?_)
  generalize hPP : (PI (fun v h' => cif (clP σ x y yes) 1 0 = v ∧ MR (cif (clP σ x y yes) (σ.cl_ (upN σ.cl (12 * y + x).toNatClampNeg yes)) σ) h' m ∧ Fm [484, 486, 487] [448] h h')) = PP
  have r10 := W.n10
  have M1 : MR σ (h.setI 448 m 0) m := M.setI (by decide) (by decide) (by decide)
  have g10 := W.gr10
  refine r_aload_n (q := 1) (z := 0) C 0 rfl (by decide +kernel) rfl rfl ?_
  refine r_iconst (q := 2) (z := 0) (v := 0) C rfl (by decide +kernel) (by decide) ?_
  refine r_putI (q := 5) C 7 0 448 rfl (by decide +kernel) rfl (by decide) rfl rfl wf_X7_1 win7 tyX7 tyX7_ok nmX7 rfl (tyX7_ok 0 (by decide)) rfl wnd7 rfl rfl hm.1 ?_
  refine r_iload_n (q := 6) (z := 1) C 1 rfl (by decide +kernel) rfl rfl ?_
  refine r_iload_n (q := 7) (z := 2) C 2 rfl (by decide +kernel) rfl rfl ?_
  refine cS2I (q := 10) C R rfl (by decide +kernel) lk_X7_295 (c_X7_isCell ) (by decide) (by decide) (by decide) rfl (by first | exact Nat.le_of_ble_eq_true rfl | (simp only [List.map_cons, List.map_nil, List.sum_cons, List.sum_nil, rv_cat]; exact Nat.le_of_ble_eq_true rfl))  ?_
  rintro _ _ ⟨rfl, rfl⟩
  refine r_if_ne (q := 13) (off := 5) (tgt := 15) C rfl (by decide +kernel) (by decide) (fun c10 => ?_) (fun c10 => ?_)
  · have c10 := (b2i_n0 _).mp c10
    obtain ⟨c, hc0, hcl⟩ := cAt_of c10
    have h120 := hc0.2.2
    refine r_bipush (q := 17) (z := 12) (v := 12) C rfl (by decide +kernel) (by decide) ?_
    refine r_iload_n (q := 18) (z := 2) C 2 rfl (by decide +kernel) rfl rfl ?_
    refine r_imul (q := 19) C rfl (by decide +kernel) ?_
    refine r_iload_n (q := 20) (z := 1) C 1 rfl (by decide +kernel) rfl rfl ?_
    refine r_iadd (q := 21) C rfl (by decide +kernel) ?_
    rw [hc0.2.1]
    refine r_istore (q := 23) C 4 rfl (by decide +kernel) (by decide) (by first | rfl | exact okst_rv rfl) ?_
    dsimp only [List.set]
    have L51 : ∀ (fuel51 : Nat) (k : Nat) (t : Bool), σ.n - k < fuel51 → (k ≤ σ.n) → (t = true ↔ anyb (fun r => σ.cv r c) σ.n = true ∨ c = 12 * σ.gr ∨ ∃ r, r < k ∧ σ.li r < 240 ∧ σ.dr r = c) → wX G Γ (qM G Γ PP 0 0) 0 0 (h.setI 448 m 0) 51 [some (rv m), some (.int x), some (.int y), some (.int (b2i yes)), some (.int (nI c)), some (.int (b2i t)), some (.int (nI k))] [] := by
      intro fuel51
      induction fuel51 with
      | zero =>
        intro k t hm51
        exact absurd hm51 (Nat.not_lt_zero _)
      | succ fuel51 ih51 =>
        intro k t hm51 hk ht
        refine r_iload (q := 53) C 6 rfl (by decide +kernel) rfl ?_
        refine r_aload_n (q := 54) (z := 0) C 0 rfl (by decide +kernel) rfl rfl ?_
        refine r_getI (q := 57) C 7 24 472 rfl (by decide +kernel) rfl (by decide) rfl rfl wf_X7_243 win7 hm.1 ?_
        rw [M1.fn]
        refine r_icmp_ge (q := 60) (off := 32) (tgt := 89) C rfl (by decide +kernel) (by decide) (fun c57 => ?_) (fun c57 => ?_)
        · have ek : k = σ.n := by have := (nI_leI (by omega) (by omega)).mp c57; omega
          subst ek
          refine r_iload (q := 91) C 5 rfl (by decide +kernel) rfl ?_
          refine r_if_eq (q := 94) (off := 5) (tgt := 96) C rfl (by decide +kernel) (by decide) (fun c91 => ?_) (fun c91 => ?_)
          · have hbad : ¬ σ.bad c := fun e => by have := ht.mpr e; rw [(b2i_0 _).mp c91] at this; cases this
            refine r_iload_n (q := 97) (z := 3) C 3 rfl (by decide +kernel) rfl rfl ?_
            refine r_if_ne (q := 100) (off := 13) (tgt := 110) C rfl (by decide +kernel) (by decide) (fun c97 => ?_) (fun c97 => ?_)
            · have hyes : yes = true := (b2i_n0 _).mp c97
              refine r_aload_n (q := 111) (z := 0) C 0 rfl (by decide +kernel) rfl rfl ?_
              refine cV0V (q := 114) C R rfl (by decide +kernel) lk_X7_298 (c_X7_barsAll hm M1 W) (by decide) (by decide) (by decide) rfl (by first | exact Nat.le_of_ble_eq_true rfl | (simp only [List.map_cons, List.map_nil, List.sum_cons, List.sum_nil, rv_cat]; exact Nat.le_of_ble_eq_true rfl)) rfl hm.1 ?_
              rintro _ rfl
              refine r_aload_n (q := 115) (z := 0) C 0 rfl (by decide +kernel) rfl rfl ?_
              refine r_getR (q := 118) C 7 38 486 rfl (by decide +kernel) rfl (by decide) rfl rfl wf_X7_121 win7 hm.1 ?_
              refine r_iload (q := 120) C 4 rfl (by decide +kernel) rfl ?_
              refine r_iconst (q := 121) (z := 1) (v := 1) C rfl (by decide +kernel) (by decide) ?_
              refine r_zast (q := 122) C rfl (by decide +kernel) (show vp_nar .boolean 1 = 1 by decide) hm.k486 (vp_in_nI h120 (by decide)) ?_
              try simp only [fr_row]
              rw [row_stI, nI_clamp (by omega)]
              have hFl : Fl (upd (mix (fun c => b2i (!σ.fre c)) ((h.setI 448 m 0).ai ((h.setI 448 m 0).fr 486 m)) 120) c 1) (fun k => !σ.fre k || decide (k = c)) 120 := Fl.upd (fun k hk => mix_in hk)
              refine r_aload_n (q := 123) (z := 0) C 0 rfl (by decide +kernel) rfl rfl ?_
              refine cV0I (q := 126) C R rfl (by decide +kernel) lk_X7_301 (c_X7_areDoorsJoined (bar := fun k => !σ.fre k || decide (k = c)) hm (M1.row hm (by show h.gl (h.fr 486 m) ∉ _; rw [hm.g486]; decide)) W (Fl.scr486 (h := h.setI 448 m 0) hFl)) (by decide) (by decide) (by decide) rfl (by first | exact Nat.le_of_ble_eq_true rfl | (simp only [List.map_cons, List.map_nil, List.sum_cons, List.sum_nil, rv_cat]; exact Nat.le_of_ble_eq_true rfl)) rfl hm.1 ?_
              rintro _ _ ⟨f1, rb1, t1, rfl, rfl, hF1, hR1, ht1⟩
              simp only [fr_row, fr_setI]
              have M9 : MR σ (((h.setI 448 m 0).row (h.fr 486 m) (upd (mix (fun c => b2i (!σ.fre c)) ((h.setI 448 m 0).ai (h.fr 486 m)) 120) c 1)).row (h.fr 487 m) f1) m := MR.scr (h := h.setI 448 m 0) hm M1
              refine r_istore (q := 128) C 6 rfl (by decide +kernel) (by decide) (by first | rfl | exact okst_rv rfl) ?_
              dsimp only [List.set]
              refine r_aload_n (q := 129) (z := 0) C 0 rfl (by decide +kernel) rfl rfl ?_
              refine r_getR (q := 132) C 7 36 484 rfl (by decide +kernel) rfl (by decide) rfl rfl wf_X7_118 win7 hm.1 ?_
              refine r_iload (q := 134) C 4 rfl (by decide +kernel) rfl ?_
              refine r_aload_n (q := 135) (z := 0) C 0 rfl (by decide +kernel) rfl rfl ?_
              refine r_getR (q := 138) C 7 36 484 rfl (by decide +kernel) rfl (by decide) rfl rfl wf_X7_118 win7 hm.1 ?_
              refine r_iload (q := 140) C 4 rfl (by decide +kernel) rfl ?_
              refine r_zald (q := 141) C rfl (by decide +kernel) hm.k484 (vp_in_nI h120 (by decide)) ?_
              rw [nI_clamp (by omega), M9.acl h120]
              refine r_if_ne (q := 144) (off := 8) (tgt := 149) C rfl (by decide +kernel) (by decide) (fun c141 => ?_) (fun c141 => ?_)
              · have ev : b2i (σ.cl c || t1) = 1 := by rw [(b2i_n0 _).mp c141]; rfl
                refine r_iconst (q := 150) (z := 1) (v := b2i (σ.cl c || t1)) C rfl (by decide +kernel) (by rw [ev]; decide) ?_
                refine r_goto (off := 4) (tgt := 154) C (by decide +kernel) (by decide) ?_
                refine r_zast (q := 155) C rfl (by decide +kernel) (by first | exact b2i_vn _ | rfl) hm.k484 (vp_in_nI h120 (by decide)) ?_
                rw [stI_row, nI_clamp (by omega)]
                refine r_iload (q := 157) C 6 rfl (by decide +kernel) rfl ?_
                exact r_zret C (by decide +kernel) rfl (by first | decide | exact b2i_nar _) (by decide) (by decide) (eqP hPP ⟨_, rfl, (by
                      subst hyes
                      have hF9 : Fm [484, 486, 487] [448] h ((((h.setI 448 m 0).row (h.fr 486 m) (upd (mix (fun c => b2i (!σ.fre c)) ((h.setI 448 m 0).ai (h.fr 486 m)) 120) c 1)).row (h.fr 487 m) f1).row (h.fr 484 m) (upd ((((h.setI 448 m 0).row (h.fr 486 m) (upd (mix (fun c => b2i (!σ.fre c)) ((h.setI 448 m 0).ai (h.fr 486 m)) 120) c 1)).row (h.fr 487 m) f1).ai (h.fr 484 m)) c (b2i (σ.cl c || t1)))) := by
                        refine Fm.row (Fm.row (Fm.row (Fm.rf.setI (by decide)) ?_) ?_) ?_
                        · rw [hm.g486]; decide
                        · rw [hm.g487]; decide
                        · rw [hm.g484]; decide
                      have hM9 := MR.cl_up (h := ((h.setI 448 m 0).row _ _).row _ _) (r := c) hm M9 (p := σ.cl c || t1) rfl
                      cases t1 with
                      | true =>
                        have hy : clP σ x y true := ⟨c10, by rw [hcl]; exact hbad, fun _ => by rw [hcl]; exact fun q hq hl => (hR1 _ (W.dr hq hl)).mp (ht1.mp rfl q hq hl)⟩
                        rw [cif_t hy, cif_t hy]
                        rw [hcl]
                        rw [Bool.or_true] at hM9
                        rw [Bool.or_true] at hF9 ⊢
                        exact ⟨rfl, hM9, hF9⟩
                      | false =>
                        have hn : ¬ clP σ x y true := fun e => by have := ht1.mpr (fun q hq hl => (hR1 _ (W.dr hq hl)).mpr (by have h9 := e.2.2 rfl; rw [hcl] at h9; exact h9 q hq hl)); cases this
                        rw [cif_f hn, cif_f hn]
                        rw [Bool.or_false, upN_self] at hM9
                        rw [Bool.or_false] at hF9 ⊢
                        exact ⟨rfl, hM9, hF9⟩)⟩)
              · refine r_iload (q := 146) C 6 rfl (by decide +kernel) rfl ?_
                refine r_if_eq (q := 149) (off := 7) (tgt := 153) C rfl (by decide +kernel) (by decide) (fun c146 => ?_) (fun c146 => ?_)
                · have ev : b2i (σ.cl c || t1) = 0 := by rw [(b2i_0 _).mp c141, (b2i_0 _).mp c146]; rfl
                  refine r_iconst (q := 154) (z := 0) (v := b2i (σ.cl c || t1)) C rfl (by decide +kernel) (by rw [ev]; decide) ?_
                  refine r_zast (q := 155) C rfl (by decide +kernel) (by first | exact b2i_vn _ | rfl) hm.k484 (vp_in_nI h120 (by decide)) ?_
                  rw [stI_row, nI_clamp (by omega)]
                  refine r_iload (q := 157) C 6 rfl (by decide +kernel) rfl ?_
                  exact r_zret C (by decide +kernel) rfl (by first | decide | exact b2i_nar _) (by decide) (by decide) (eqP hPP ⟨_, rfl, (by
                        subst hyes
                        have hF9 : Fm [484, 486, 487] [448] h ((((h.setI 448 m 0).row (h.fr 486 m) (upd (mix (fun c => b2i (!σ.fre c)) ((h.setI 448 m 0).ai (h.fr 486 m)) 120) c 1)).row (h.fr 487 m) f1).row (h.fr 484 m) (upd ((((h.setI 448 m 0).row (h.fr 486 m) (upd (mix (fun c => b2i (!σ.fre c)) ((h.setI 448 m 0).ai (h.fr 486 m)) 120) c 1)).row (h.fr 487 m) f1).ai (h.fr 484 m)) c (b2i (σ.cl c || t1)))) := by
                          refine Fm.row (Fm.row (Fm.row (Fm.rf.setI (by decide)) ?_) ?_) ?_
                          · rw [hm.g486]; decide
                          · rw [hm.g487]; decide
                          · rw [hm.g484]; decide
                        have hM9 := MR.cl_up (h := ((h.setI 448 m 0).row _ _).row _ _) (r := c) hm M9 (p := σ.cl c || t1) rfl
                        cases t1 with
                        | true =>
                          have hy : clP σ x y true := ⟨c10, by rw [hcl]; exact hbad, fun _ => by rw [hcl]; exact fun q hq hl => (hR1 _ (W.dr hq hl)).mp (ht1.mp rfl q hq hl)⟩
                          rw [cif_t hy, cif_t hy]
                          rw [hcl]
                          rw [Bool.or_true] at hM9
                          rw [Bool.or_true] at hF9 ⊢
                          exact ⟨rfl, hM9, hF9⟩
                        | false =>
                          have hn : ¬ clP σ x y true := fun e => by have := ht1.mpr (fun q hq hl => (hR1 _ (W.dr hq hl)).mpr (by have h9 := e.2.2 rfl; rw [hcl] at h9; exact h9 q hq hl)); cases this
                          rw [cif_f hn, cif_f hn]
                          rw [Bool.or_false, upN_self] at hM9
                          rw [Bool.or_false] at hF9 ⊢
                          exact ⟨rfl, hM9, hF9⟩)⟩)
                · have ev : b2i (σ.cl c || t1) = 1 := by rw [(b2i_n0 _).mp c146, Bool.or_true]; rfl
                  refine r_iconst (q := 150) (z := 1) (v := b2i (σ.cl c || t1)) C rfl (by decide +kernel) (by rw [ev]; decide) ?_
                  refine r_goto (off := 4) (tgt := 154) C (by decide +kernel) (by decide) ?_
                  refine r_zast (q := 155) C rfl (by decide +kernel) (by first | exact b2i_vn _ | rfl) hm.k484 (vp_in_nI h120 (by decide)) ?_
                  rw [stI_row, nI_clamp (by omega)]
                  refine r_iload (q := 157) C 6 rfl (by decide +kernel) rfl ?_
                  exact r_zret C (by decide +kernel) rfl (by first | decide | exact b2i_nar _) (by decide) (by decide) (eqP hPP ⟨_, rfl, (by
                        subst hyes
                        have hF9 : Fm [484, 486, 487] [448] h ((((h.setI 448 m 0).row (h.fr 486 m) (upd (mix (fun c => b2i (!σ.fre c)) ((h.setI 448 m 0).ai (h.fr 486 m)) 120) c 1)).row (h.fr 487 m) f1).row (h.fr 484 m) (upd ((((h.setI 448 m 0).row (h.fr 486 m) (upd (mix (fun c => b2i (!σ.fre c)) ((h.setI 448 m 0).ai (h.fr 486 m)) 120) c 1)).row (h.fr 487 m) f1).ai (h.fr 484 m)) c (b2i (σ.cl c || t1)))) := by
                          refine Fm.row (Fm.row (Fm.row (Fm.rf.setI (by decide)) ?_) ?_) ?_
                          · rw [hm.g486]; decide
                          · rw [hm.g487]; decide
                          · rw [hm.g484]; decide
                        have hM9 := MR.cl_up (h := ((h.setI 448 m 0).row _ _).row _ _) (r := c) hm M9 (p := σ.cl c || t1) rfl
                        cases t1 with
                        | true =>
                          have hy : clP σ x y true := ⟨c10, by rw [hcl]; exact hbad, fun _ => by rw [hcl]; exact fun q hq hl => (hR1 _ (W.dr hq hl)).mp (ht1.mp rfl q hq hl)⟩
                          rw [cif_t hy, cif_t hy]
                          rw [hcl]
                          rw [Bool.or_true] at hM9
                          rw [Bool.or_true] at hF9 ⊢
                          exact ⟨rfl, hM9, hF9⟩
                        | false =>
                          have hn : ¬ clP σ x y true := fun e => by have := ht1.mpr (fun q hq hl => (hR1 _ (W.dr hq hl)).mpr (by have h9 := e.2.2 rfl; rw [hcl] at h9; exact h9 q hq hl)); cases this
                          rw [cif_f hn, cif_f hn]
                          rw [Bool.or_false, upN_self] at hM9
                          rw [Bool.or_false] at hF9 ⊢
                          exact ⟨rfl, hM9, hF9⟩)⟩)
            · have hyes : yes = false := (b2i_0 _).mp (by first | exact c97 | exact Classical.not_not.mp c97)
              refine r_aload_n (q := 101) (z := 0) C 0 rfl (by decide +kernel) rfl rfl ?_
              refine r_getR (q := 104) C 7 36 484 rfl (by decide +kernel) rfl (by decide) rfl rfl wf_X7_118 win7 hm.1 ?_
              refine r_iload (q := 106) C 4 rfl (by decide +kernel) rfl ?_
              refine r_iconst (q := 107) (z := 0) (v := 0) C rfl (by decide +kernel) (by decide) ?_
              refine r_zast (q := 108) C rfl (by decide +kernel) (show vp_nar .boolean 0 = 0 by decide) hm.k484 (vp_in_nI h120 (by decide)) ?_
              rw [stI_row, nI_clamp (by omega)]
              refine r_iconst (q := 109) (z := 1) (v := 1) C rfl (by decide +kernel) (by decide) ?_
              exact r_zret C (by decide +kernel) rfl (by first | decide | exact b2i_nar _) (by decide) (by decide) (eqP hPP ⟨_, rfl, (by
                    have hy : clP σ x y yes := ⟨c10, by rw [hcl]; exact hbad, fun e => by rw [hyes] at e; cases e⟩
                    rw [cif_t hy, cif_t hy]
                    rw [hcl]
                    subst hyes
                    exact ⟨rfl, MR.cl_up (h := h.setI 448 m 0) hm M1 rfl, Fm.row (Fm.rf.setI (by decide)) (by show h.gl (h.fr 484 m) ∈ _; rw [hm.g484]; decide)⟩)⟩)
          · have hbad : σ.bad c := ht.mp ((b2i_n0 _).mp c91)
            refine r_iconst (q := 95) (z := 0) (v := 0) C rfl (by decide +kernel) (by decide) ?_
            exact r_zret C (by decide +kernel) rfl (by first | decide | exact b2i_nar _) (by decide) (by decide) (eqP hPP ⟨_, rfl, (by
                  have hn : ¬ clP σ x y yes := fun e => e.2.1 (by rw [hcl]; exact hbad)
                  rw [cif_f hn, cif_f hn]
                  exact ⟨rfl, M1, Fm.rf.setI (by decide)⟩)⟩)
        · have hlt : k < σ.n := Nat.lt_of_not_le (fun e => c57 (nI_le e (by omega)))
          refine r_iload (q := 62) C 5 rfl (by decide +kernel) rfl ?_
          refine r_if_ne (q := 65) (off := 14) (tgt := 76) C rfl (by decide +kernel) (by decide) (fun c62 => ?_) (fun c62 => ?_)
          · have ht2 : true = true ↔ anyb (fun r => σ.cv r c) σ.n = true ∨ c = 12 * σ.gr ∨ ∃ r, r < k + 1 ∧ σ.li r < 240 ∧ σ.dr r = c := ⟨fun _ => by
              rcases ht.mp ((b2i_n0 _).mp c62) with e | e | ⟨r, e1, e2⟩
              · exact Or.inl e
              · exact Or.inr (Or.inl e)
              · exact Or.inr (Or.inr ⟨r, by omega, e2⟩), fun _ => rfl⟩
            refine r_iconst (q := 77) (z := 1) (v := b2i true) C rfl (by decide +kernel) (by decide) ?_
            refine r_goto (off := 4) (tgt := 81) C (by decide +kernel) (by decide) ?_
            refine r_istore (q := 83) C 5 rfl (by decide +kernel) (by decide) (by first | rfl | exact okst_rv rfl) ?_
            dsimp only [List.set]
            refine r_iinc (q := 86) (z := 1) (v := 1) C 6 rfl (by decide +kernel) rfl (by decide) (by decide) (by first | rfl | exact okst_rv rfl) ?_
            dsimp only [List.set]
            rw [nI_1]
            refine r_goto (off := -35) (tgt := 51) C (by decide +kernel) (by decide) ?_
            exact ih51 (k + 1) _ (by omega) (by omega) ht2
          · refine r_aload_n (q := 66) (z := 0) C 0 rfl (by decide +kernel) rfl rfl ?_
            refine r_iload (q := 68) C 6 rfl (by decide +kernel) rfl ?_
            refine cV1I (q := 71) C R rfl (by decide +kernel) lk_X7_292 (c_X7_door hm M1 W hlt) (by decide) (by decide) (by decide) rfl (by first | exact Nat.le_of_ble_eq_true rfl | (simp only [List.map_cons, List.map_nil, List.sum_cons, List.sum_nil, rv_cat]; exact Nat.le_of_ble_eq_true rfl)) rfl hm.1 ?_
            rintro _ _ ⟨rfl, rfl⟩
            refine r_iload (q := 73) C 4 rfl (by decide +kernel) rfl ?_
            refine r_icmp_ne (q := 76) (off := 7) (tgt := 80) C rfl (by decide +kernel) (by decide) (fun c73 => ?_) (fun c73 => ?_)
            · have ht2 : false = true ↔ anyb (fun r => σ.cv r c) σ.n = true ∨ c = 12 * σ.gr ∨ ∃ r, r < k + 1 ∧ σ.li r < 240 ∧ σ.dr r = c := ⟨(fun e => nomatch e), fun e => by
                rw [(b2i_0 _).mp c62] at ht
                rcases e with e | e | ⟨r, e1, e2, e3⟩
                · exact ht.mpr (Or.inl e)
                · exact ht.mpr (Or.inr (Or.inl e))
                · by_cases er : r = k
                  · subst er; rw [if_pos e2, e3] at c73; exact absurd rfl c73
                  · exact ht.mpr (Or.inr (Or.inr ⟨r, by omega, e2, e3⟩))⟩
              refine r_iconst (q := 81) (z := 0) (v := b2i false) C rfl (by decide +kernel) (by decide) ?_
              refine r_istore (q := 83) C 5 rfl (by decide +kernel) (by decide) (by first | rfl | exact okst_rv rfl) ?_
              dsimp only [List.set]
              refine r_iinc (q := 86) (z := 1) (v := 1) C 6 rfl (by decide +kernel) rfl (by decide) (by decide) (by first | rfl | exact okst_rv rfl) ?_
              dsimp only [List.set]
              rw [nI_1]
              refine r_goto (off := -35) (tgt := 51) C (by decide +kernel) (by decide) ?_
              exact ih51 (k + 1) _ (by omega) (by omega) ht2
            · have ht2 : true = true ↔ anyb (fun r => σ.cv r c) σ.n = true ∨ c = 12 * σ.gr ∨ ∃ r, r < k + 1 ∧ σ.li r < 240 ∧ σ.dr r = c := ⟨fun _ => by
                by_cases hl : σ.li k < 240
                · rw [if_pos hl] at c73
                  exact Or.inr (Or.inr ⟨k, by omega, hl, (nI_eq (by have := W.dr hlt hl; omega) (by omega)).mp c73⟩)
                · rw [if_neg hl] at c73
                  exact absurd c73 (m1_ne (by omega)), fun _ => rfl⟩
              refine r_iconst (q := 77) (z := 1) (v := b2i true) C rfl (by decide +kernel) (by decide) ?_
              refine r_goto (off := 4) (tgt := 81) C (by decide +kernel) (by decide) ?_
              refine r_istore (q := 83) C 5 rfl (by decide +kernel) (by decide) (by first | rfl | exact okst_rv rfl) ?_
              dsimp only [List.set]
              refine r_iinc (q := 86) (z := 1) (v := 1) C 6 rfl (by decide +kernel) rfl (by decide) (by decide) (by first | rfl | exact okst_rv rfl) ?_
              dsimp only [List.set]
              rw [nI_1]
              refine r_goto (off := -35) (tgt := 51) C (by decide +kernel) (by decide) ?_
              exact ih51 (k + 1) _ (by omega) (by omega) ht2
    refine r_aload_n (q := 24) (z := 0) C 0 rfl (by decide +kernel) rfl rfl ?_
    refine r_iload (q := 26) C 4 rfl (by decide +kernel) rfl ?_
    refine cV1I (q := 29) C R rfl (by decide +kernel) lk_X7_271 (c_X7_coveredBy hm M1 W (by omega)) (by decide) (by decide) (by decide) rfl (by first | exact Nat.le_of_ble_eq_true rfl | (simp only [List.map_cons, List.map_nil, List.sum_cons, List.sum_nil, rv_cat]; exact Nat.le_of_ble_eq_true rfl)) rfl hm.1 ?_
    rintro _ _ ⟨rfl, rfl⟩
    refine r_if_ge (q := 32) (off := 12) (tgt := 41) C rfl (by decide +kernel) (by decide) (fun c29 => ?_) (fun c29 => ?_)
    · have ht0 : true = true ↔ anyb (fun r => σ.cv r c) σ.n = true ∨ c = 12 * σ.gr ∨ ∃ r, r < 0 ∧ σ.li r < 240 ∧ σ.dr r = c := ⟨fun _ => Or.inl (by cases e : anyb (fun r => σ.cv r c) σ.n with | true => rfl | false => exact absurd ((covN_neg r10).mpr e) (Int32.not_lt.mpr c29)), fun _ => rfl⟩
      refine r_iconst (q := 42) (z := 1) (v := b2i true) C rfl (by decide +kernel) (by decide) ?_
      refine r_goto (off := 4) (tgt := 46) C (by decide +kernel) (by decide) ?_
      refine r_istore (q := 48) C 5 rfl (by decide +kernel) (by decide) (by first | rfl | exact okst_rv rfl) ?_
      dsimp only [List.set]
      refine r_iconst (q := 49) (z := 0) (v := 0) C rfl (by decide +kernel) (by decide) ?_
      refine r_istore (q := 51) C 6 rfl (by decide +kernel) (by decide) (by first | rfl | exact okst_rv rfl) ?_
      dsimp only [List.set]
      exact L51 (σ.n + 1) 0 _ (by omega) (by omega) ht0
    · have c29 := (covN_neg r10).mp (Int32.not_le.mp c29)
      refine r_iload (q := 34) C 4 rfl (by decide +kernel) rfl ?_
      refine r_aload_n (q := 35) (z := 0) C 0 rfl (by decide +kernel) rfl rfl ?_
      refine cV0I (q := 38) C R rfl (by decide +kernel) lk_X7_280 (c_X7_gateCell hm M1 W) (by decide) (by decide) (by decide) rfl (by first | exact Nat.le_of_ble_eq_true rfl | (simp only [List.map_cons, List.map_nil, List.sum_cons, List.sum_nil, rv_cat]; exact Nat.le_of_ble_eq_true rfl)) rfl hm.1 ?_
      rintro _ _ ⟨rfl, rfl⟩
      refine r_icmp_ne (q := 41) (off := 7) (tgt := 45) C rfl (by decide +kernel) (by decide) (fun c38 => ?_) (fun c38 => ?_)
      · have ht0 : false = true ↔ anyb (fun r => σ.cv r c) σ.n = true ∨ c = 12 * σ.gr ∨ ∃ r, r < 0 ∧ σ.li r < 240 ∧ σ.dr r = c := ⟨(fun e => nomatch e), fun e => by
          rcases e with e | e | ⟨r, e, -⟩
          · rw [c29] at e; exact e
          · exact absurd (by rw [e]) c38
          · exact absurd e (Nat.not_lt_zero r)⟩
        refine r_iconst (q := 46) (z := 0) (v := b2i false) C rfl (by decide +kernel) (by decide) ?_
        refine r_istore (q := 48) C 5 rfl (by decide +kernel) (by decide) (by first | rfl | exact okst_rv rfl) ?_
        dsimp only [List.set]
        refine r_iconst (q := 49) (z := 0) (v := 0) C rfl (by decide +kernel) (by decide) ?_
        refine r_istore (q := 51) C 6 rfl (by decide +kernel) (by decide) (by first | rfl | exact okst_rv rfl) ?_
        dsimp only [List.set]
        exact L51 (σ.n + 1) 0 _ (by omega) (by omega) ht0
      · have ht0 : true = true ↔ anyb (fun r => σ.cv r c) σ.n = true ∨ c = 12 * σ.gr ∨ ∃ r, r < 0 ∧ σ.li r < 240 ∧ σ.dr r = c := ⟨fun _ => Or.inr (Or.inl ((nI_eq (by omega) (by omega)).mp c38)), fun _ => rfl⟩
        refine r_iconst (q := 42) (z := 1) (v := b2i true) C rfl (by decide +kernel) (by decide) ?_
        refine r_goto (off := 4) (tgt := 46) C (by decide +kernel) (by decide) ?_
        refine r_istore (q := 48) C 5 rfl (by decide +kernel) (by decide) (by first | rfl | exact okst_rv rfl) ?_
        dsimp only [List.set]
        refine r_iconst (q := 49) (z := 0) (v := 0) C rfl (by decide +kernel) (by decide) ?_
        refine r_istore (q := 51) C 6 rfl (by decide +kernel) (by decide) (by first | rfl | exact okst_rv rfl) ?_
        dsimp only [List.set]
        exact L51 (σ.n + 1) 0 _ (by omega) (by omega) ht0
  · have c10 := (b2i_0 _).mp c10
    refine r_iconst (q := 14) (z := 0) (v := 0) C rfl (by decide +kernel) (by decide) ?_
    exact r_zret C (by decide +kernel) rfl (by first | decide | exact b2i_nar _) (by decide) (by decide) (eqP hPP ⟨_, rfl, (by
          have hn : ¬ clP σ x y yes := fun e => absurd e.1 (by rw [c10]; decide)
          rw [cif_f hn, cif_f hn]
          exact ⟨rfl, M1, Fm.rf.setI (by decide)⟩)⟩)
theorem c_X7_bears {G : GT} {h : HP} {m : Nat} {be sh : Nat → Nat} {ra : Nat} {x p : Int32} (hm : LM h.kd h.gl h.fr m) (Mb : MB be sh ra h m) : Con G 1 0 0 yX7_bears cX7_bears 3 (some .boolean) [rv m, .int x, .int p] h (PI (fun v h' => cif (beP x p) 1 0 = v ∧ MB (cif (beP x p) (upN be x.toNatClampNeg p.toNatClampNeg) be) sh ra h' m ∧ Fm [492] [448] h h')) := by
  refine Con.of (lv := [some (rv m), some (.int x), some (.int p)]) (by decide) (by simp only [lvE_r, lvE_i, lvE_l, lvE_s, lvE_0]; rfl) (by simp only [lgl_r, lgl_i, lgl_l, lgl_s, lgl_0]; decide) (fun Γ C R => ?_)
  generalize hPP : (PI (fun v h' => cif (beP x p) 1 0 = v ∧ MB (cif (beP x p) (upN be x.toNatClampNeg p.toNatClampNeg) be) sh ra h' m ∧ Fm [492] [448] h h')) = PP
  have M1 : MB be sh ra (h.setI 448 m 0) m := Mb.setI (by decide)
  refine r_aload_n (q := 1) (z := 0) C 0 rfl (by decide +kernel) rfl rfl ?_
  refine r_iconst (q := 2) (z := 0) (v := 0) C rfl (by decide +kernel) (by decide) ?_
  refine r_putI (q := 5) C 7 0 448 rfl (by decide +kernel) rfl (by decide) rfl rfl wf_X7_1 win7 tyX7 tyX7_ok nmX7 rfl (tyX7_ok 0 (by decide)) rfl wnd7 rfl rfl hm.1 ?_
  refine r_iload_n (q := 6) (z := 1) C 1 rfl (by decide +kernel) rfl rfl ?_
  refine r_if_lt (q := 9) (off := 19) (tgt := 25) C rfl (by decide +kernel) (by decide) (fun c6 => ?_) (fun c6 => ?_)
  · refine r_iconst (q := 26) (z := 0) (v := 0) C rfl (by decide +kernel) (by decide) ?_
    exact r_zret C (by decide +kernel) rfl (by first | decide | exact b2i_nar _) (by decide) (by decide) (eqP hPP ⟨_, rfl, (by
          have hn : ¬ beP x p := by first | exact fun e => absurd e.1.1 (Int32.not_le.mpr c6) | exact fun e => absurd e.1.2 (Int32.not_le.mpr c11) | exact fun e => absurd e.2.1 (Int32.not_le.mpr c15) | exact fun e => c22 e.2.2
          rw [cif_f hn, cif_f hn]
          exact ⟨rfl, M1, Fm.rf.setI (by decide)⟩)⟩)
  · refine r_iload_n (q := 10) (z := 1) C 1 rfl (by decide +kernel) rfl rfl ?_
    refine r_iconst (q := 11) (z := 2) (v := 2) C rfl (by decide +kernel) (by decide) ?_
    refine r_icmp_gt (q := 14) (off := 14) (tgt := 25) C rfl (by decide +kernel) (by decide) (fun c11 => ?_) (fun c11 => ?_)
    · refine r_iconst (q := 26) (z := 0) (v := 0) C rfl (by decide +kernel) (by decide) ?_
      exact r_zret C (by decide +kernel) rfl (by first | decide | exact b2i_nar _) (by decide) (by decide) (eqP hPP ⟨_, rfl, (by
            have hn : ¬ beP x p := by first | exact fun e => absurd e.1.1 (Int32.not_le.mpr c6) | exact fun e => absurd e.1.2 (Int32.not_le.mpr c11) | exact fun e => absurd e.2.1 (Int32.not_le.mpr c15) | exact fun e => c22 e.2.2
            rw [cif_f hn, cif_f hn]
            exact ⟨rfl, M1, Fm.rf.setI (by decide)⟩)⟩)
    · refine r_iload_n (q := 15) (z := 2) C 2 rfl (by decide +kernel) rfl rfl ?_
      refine r_if_lt (q := 18) (off := 10) (tgt := 25) C rfl (by decide +kernel) (by decide) (fun c15 => ?_) (fun c15 => ?_)
      · refine r_iconst (q := 26) (z := 0) (v := 0) C rfl (by decide +kernel) (by decide) ?_
        exact r_zret C (by decide +kernel) rfl (by first | decide | exact b2i_nar _) (by decide) (by decide) (eqP hPP ⟨_, rfl, (by
              have hn : ¬ beP x p := by first | exact fun e => absurd e.1.1 (Int32.not_le.mpr c6) | exact fun e => absurd e.1.2 (Int32.not_le.mpr c11) | exact fun e => absurd e.2.1 (Int32.not_le.mpr c15) | exact fun e => c22 e.2.2
              rw [cif_f hn, cif_f hn]
              exact ⟨rfl, M1, Fm.rf.setI (by decide)⟩)⟩)
      · refine r_iload_n (q := 19) (z := 2) C 2 rfl (by decide +kernel) rfl rfl ?_
        refine r_sipush (q := 22) (z := 1000) (v := 1000) C rfl (by decide +kernel) (by decide) ?_
        refine r_icmp_le (q := 25) (off := 5) (tgt := 27) C rfl (by decide +kernel) (by decide) (fun c22 => ?_) (fun c22 => ?_)
        · have hy : beP x p := ⟨⟨Int32.not_lt.mp c6, Int32.not_lt.mp c11⟩, Int32.not_lt.mp c15, c22⟩
          obtain ⟨x1, x2, x3⟩ := nI_rng2 (a := 0) (b := 2) (by decide) hy.1.1 hy.1.2 (by decide)
          obtain ⟨p1, p2, p3⟩ := nI_rng2 (a := 0) (b := 1000) (by decide) hy.2.1 hy.2.2 (by decide)
          refine r_aload_n (q := 28) (z := 0) C 0 rfl (by decide +kernel) rfl rfl ?_
          refine r_getR (q := 31) C 7 44 492 rfl (by decide +kernel) rfl (by decide) rfl rfl wf_X7_139 win7 hm.1 ?_
          refine r_iload_n (q := 32) (z := 1) C 1 rfl (by decide +kernel) rfl rfl ?_
          refine r_iload_n (q := 33) (z := 2) C 2 rfl (by decide +kernel) rfl rfl ?_
          refine r_iast (q := 34) C rfl (by decide +kernel) rfl hm.k492 (by rw [x3]; exact vp_in_nI (by omega) (by decide)) ?_
          rw [stI_row]
          refine r_iconst (q := 35) (z := 1) (v := 1) C rfl (by decide +kernel) (by decide) ?_
          exact r_zret C (by decide +kernel) rfl (by first | decide | exact b2i_nar _) (by decide) (by decide) (eqP hPP ⟨_, rfl, (by
                rw [cif_t hy, cif_t hy]
                exact ⟨rfl, MB.be_up (h := h.setI 448 m 0) hm M1 p3 p2, Fm.row (Fm.rf.setI (by decide)) (by show h.gl (h.fr 492 m) ∈ _; rw [hm.g492]; decide)⟩)⟩)
        · refine r_iconst (q := 26) (z := 0) (v := 0) C rfl (by decide +kernel) (by decide) ?_
          exact r_zret C (by decide +kernel) rfl (by first | decide | exact b2i_nar _) (by decide) (by decide) (eqP hPP ⟨_, rfl, (by
                have hn : ¬ beP x p := by first | exact fun e => absurd e.1.1 (Int32.not_le.mpr c6) | exact fun e => absurd e.1.2 (Int32.not_le.mpr c11) | exact fun e => absurd e.2.1 (Int32.not_le.mpr c15) | exact fun e => c22 e.2.2
                rw [cif_f hn, cif_f hn]
                exact ⟨rfl, M1, Fm.rf.setI (by decide)⟩)⟩)
theorem c_X7_share {G : GT} {h : HP} {m : Nat} {be sh : Nat → Nat} {ra : Nat} {x p : Int32} (hm : LM h.kd h.gl h.fr m) (Mb : MB be sh ra h m) : Con G 1 0 0 yX7_share cX7_share 3 (some .boolean) [rv m, .int x, .int p] h (PI (fun v h' => cif (shP x p) 1 0 = v ∧ MB be (cif (shP x p) (upN sh x.toNatClampNeg p.toNatClampNeg) sh) ra h' m ∧ Fm [494] [448] h h')) := by
  refine Con.of (lv := [some (rv m), some (.int x), some (.int p)]) (by decide) (by simp only [lvE_r, lvE_i, lvE_l, lvE_s, lvE_0]; rfl) (by simp only [lgl_r, lgl_i, lgl_l, lgl_s, lgl_0]; decide) (fun Γ C R => ?_)
  generalize hPP : (PI (fun v h' => cif (shP x p) 1 0 = v ∧ MB be (cif (shP x p) (upN sh x.toNatClampNeg p.toNatClampNeg) sh) ra h' m ∧ Fm [494] [448] h h')) = PP
  have M1 : MB be sh ra (h.setI 448 m 0) m := Mb.setI (by decide)
  refine r_aload_n (q := 1) (z := 0) C 0 rfl (by decide +kernel) rfl rfl ?_
  refine r_iconst (q := 2) (z := 0) (v := 0) C rfl (by decide +kernel) (by decide) ?_
  refine r_putI (q := 5) C 7 0 448 rfl (by decide +kernel) rfl (by decide) rfl rfl wf_X7_1 win7 tyX7 tyX7_ok nmX7 rfl (tyX7_ok 0 (by decide)) rfl wnd7 rfl rfl hm.1 ?_
  refine r_iload_n (q := 6) (z := 1) C 1 rfl (by decide +kernel) rfl rfl ?_
  refine r_if_lt (q := 9) (off := 20) (tgt := 26) C rfl (by decide +kernel) (by decide) (fun c6 => ?_) (fun c6 => ?_)
  · refine r_iconst (q := 27) (z := 0) (v := 0) C rfl (by decide +kernel) (by decide) ?_
    exact r_zret C (by decide +kernel) rfl (by first | decide | exact b2i_nar _) (by decide) (by decide) (eqP hPP ⟨_, rfl, (by
          have hn : ¬ shP x p := by first | exact fun e => absurd e.1.1 (Int32.not_le.mpr c6) | exact fun e => absurd e.1.2 (Int32.not_le.mpr c11) | exact fun e => absurd e.2.1 (Int32.not_le.mpr c16) | exact fun e => c23 e.2.2
          rw [cif_f hn, cif_f hn]
          exact ⟨rfl, M1, Fm.rf.setI (by decide)⟩)⟩)
  · refine r_iload_n (q := 10) (z := 1) C 1 rfl (by decide +kernel) rfl rfl ?_
    refine r_iconst (q := 11) (z := 2) (v := 2) C rfl (by decide +kernel) (by decide) ?_
    refine r_icmp_gt (q := 14) (off := 15) (tgt := 26) C rfl (by decide +kernel) (by decide) (fun c11 => ?_) (fun c11 => ?_)
    · refine r_iconst (q := 27) (z := 0) (v := 0) C rfl (by decide +kernel) (by decide) ?_
      exact r_zret C (by decide +kernel) rfl (by first | decide | exact b2i_nar _) (by decide) (by decide) (eqP hPP ⟨_, rfl, (by
            have hn : ¬ shP x p := by first | exact fun e => absurd e.1.1 (Int32.not_le.mpr c6) | exact fun e => absurd e.1.2 (Int32.not_le.mpr c11) | exact fun e => absurd e.2.1 (Int32.not_le.mpr c16) | exact fun e => c23 e.2.2
            rw [cif_f hn, cif_f hn]
            exact ⟨rfl, M1, Fm.rf.setI (by decide)⟩)⟩)
    · refine r_iload_n (q := 15) (z := 2) C 2 rfl (by decide +kernel) rfl rfl ?_
      refine r_iconst (q := 16) (z := 1) (v := 1) C rfl (by decide +kernel) (by decide) ?_
      refine r_icmp_lt (q := 19) (off := 10) (tgt := 26) C rfl (by decide +kernel) (by decide) (fun c16 => ?_) (fun c16 => ?_)
      · refine r_iconst (q := 27) (z := 0) (v := 0) C rfl (by decide +kernel) (by decide) ?_
        exact r_zret C (by decide +kernel) rfl (by first | decide | exact b2i_nar _) (by decide) (by decide) (eqP hPP ⟨_, rfl, (by
              have hn : ¬ shP x p := by first | exact fun e => absurd e.1.1 (Int32.not_le.mpr c6) | exact fun e => absurd e.1.2 (Int32.not_le.mpr c11) | exact fun e => absurd e.2.1 (Int32.not_le.mpr c16) | exact fun e => c23 e.2.2
              rw [cif_f hn, cif_f hn]
              exact ⟨rfl, M1, Fm.rf.setI (by decide)⟩)⟩)
      · refine r_iload_n (q := 20) (z := 2) C 2 rfl (by decide +kernel) rfl rfl ?_
        refine r_sipush (q := 23) (z := 1000) (v := 1000) C rfl (by decide +kernel) (by decide) ?_
        refine r_icmp_le (q := 26) (off := 5) (tgt := 28) C rfl (by decide +kernel) (by decide) (fun c23 => ?_) (fun c23 => ?_)
        · have hy : shP x p := ⟨⟨Int32.not_lt.mp c6, Int32.not_lt.mp c11⟩, Int32.not_lt.mp c16, c23⟩
          obtain ⟨x1, x2, x3⟩ := nI_rng2 (a := 0) (b := 2) (by decide) hy.1.1 hy.1.2 (by decide)
          obtain ⟨p1, p2, p3⟩ := nI_rng2 (a := 1) (b := 1000) (by decide) hy.2.1 hy.2.2 (by decide)
          refine r_aload_n (q := 29) (z := 0) C 0 rfl (by decide +kernel) rfl rfl ?_
          refine r_getR (q := 32) C 7 46 494 rfl (by decide +kernel) rfl (by decide) rfl rfl wf_X7_145 win7 hm.1 ?_
          refine r_iload_n (q := 33) (z := 1) C 1 rfl (by decide +kernel) rfl rfl ?_
          refine r_iload_n (q := 34) (z := 2) C 2 rfl (by decide +kernel) rfl rfl ?_
          refine r_iast (q := 35) C rfl (by decide +kernel) rfl hm.k494 (by rw [x3]; exact vp_in_nI (by omega) (by decide)) ?_
          rw [stI_row]
          refine r_iconst (q := 36) (z := 1) (v := 1) C rfl (by decide +kernel) (by decide) ?_
          exact r_zret C (by decide +kernel) rfl (by first | decide | exact b2i_nar _) (by decide) (by decide) (eqP hPP ⟨_, rfl, (by
                rw [cif_t hy, cif_t hy]
                exact ⟨rfl, MB.sh_up (h := h.setI 448 m 0) hm M1 p3 ⟨p1, p2⟩, Fm.row (Fm.rf.setI (by decide)) (by show h.gl (h.fr 494 m) ∈ _; rw [hm.g494]; decide)⟩)⟩)
        · refine r_iconst (q := 27) (z := 0) (v := 0) C rfl (by decide +kernel) (by decide) ?_
          exact r_zret C (by decide +kernel) rfl (by first | decide | exact b2i_nar _) (by decide) (by decide) (eqP hPP ⟨_, rfl, (by
                have hn : ¬ shP x p := by first | exact fun e => absurd e.1.1 (Int32.not_le.mpr c6) | exact fun e => absurd e.1.2 (Int32.not_le.mpr c11) | exact fun e => absurd e.2.1 (Int32.not_le.mpr c16) | exact fun e => c23 e.2.2
                rw [cif_f hn, cif_f hn]
                exact ⟨rfl, M1, Fm.rf.setI (by decide)⟩)⟩)
theorem c_X7_rate {G : GT} {h : HP} {m : Nat} {be sh : Nat → Nat} {ra : Nat} {p : Int32} (hm : LM h.kd h.gl h.fr m) (Mb : MB be sh ra h m) : Con G 1 0 0 yX7_rate cX7_rate 2 (some .boolean) [rv m, .int p] h (PI (fun v h' => cif (0 ≤ p ∧ p ≤ 1000) 1 0 = v ∧ MB be sh (cif (0 ≤ p ∧ p ≤ 1000) p.toNatClampNeg ra) h' m ∧ Fm [] [448, 493] h h')) := by
  refine Con.of (lv := [some (rv m), some (.int p)]) (by decide) (by simp only [lvE_r, lvE_i, lvE_l, lvE_s, lvE_0]; rfl) (by simp only [lgl_r, lgl_i, lgl_l, lgl_s, lgl_0]; decide) (fun Γ C R => ?_)
  generalize hPP : (PI (fun v h' => cif (0 ≤ p ∧ p ≤ 1000) 1 0 = v ∧ MB be sh (cif (0 ≤ p ∧ p ≤ 1000) p.toNatClampNeg ra) h' m ∧ Fm [] [448, 493] h h')) = PP
  have M1 : MB be sh ra (h.setI 448 m 0) m := Mb.setI (by decide)
  refine r_aload_n (q := 1) (z := 0) C 0 rfl (by decide +kernel) rfl rfl ?_
  refine r_iconst (q := 2) (z := 0) (v := 0) C rfl (by decide +kernel) (by decide) ?_
  refine r_putI (q := 5) C 7 0 448 rfl (by decide +kernel) rfl (by decide) rfl rfl wf_X7_1 win7 tyX7 tyX7_ok nmX7 rfl (tyX7_ok 0 (by decide)) rfl wnd7 rfl rfl hm.1 ?_
  refine r_iload_n (q := 6) (z := 1) C 1 rfl (by decide +kernel) rfl rfl ?_
  refine r_if_lt (q := 9) (off := 10) (tgt := 16) C rfl (by decide +kernel) (by decide) (fun c6 => ?_) (fun c6 => ?_)
  · refine r_iconst (q := 17) (z := 0) (v := 0) C rfl (by decide +kernel) (by decide) ?_
    exact r_zret C (by decide +kernel) rfl (by first | decide | exact b2i_nar _) (by decide) (by decide) (eqP hPP ⟨_, rfl, (by
          have hn : ¬ (0 ≤ p ∧ p ≤ 1000) := by first | exact fun e => absurd e.1 (Int32.not_le.mpr c6) | exact fun e => c13 e.2
          rw [cif_f hn, cif_f hn]
          exact ⟨rfl, M1, Fm.rf.setI (by decide)⟩)⟩)
  · refine r_iload_n (q := 10) (z := 1) C 1 rfl (by decide +kernel) rfl rfl ?_
    refine r_sipush (q := 13) (z := 1000) (v := 1000) C rfl (by decide +kernel) (by decide) ?_
    refine r_icmp_le (q := 16) (off := 5) (tgt := 18) C rfl (by decide +kernel) (by decide) (fun c13 => ?_) (fun c13 => ?_)
    · have hy : 0 ≤ p ∧ p ≤ 1000 := ⟨Int32.not_lt.mp c6, c13⟩
      obtain ⟨p1, p2, p3⟩ := nI_rng2 (a := 0) (b := 1000) (by decide) hy.1 hy.2 (by decide)
      refine r_aload_n (q := 19) (z := 0) C 0 rfl (by decide +kernel) rfl rfl ?_
      refine r_iload_n (q := 20) (z := 1) C 1 rfl (by decide +kernel) rfl rfl ?_
      refine r_putI (q := 23) C 7 45 493 rfl (by decide +kernel) rfl (by decide) rfl rfl wf_X7_142 win7 tyX7 tyX7_ok nmX7 rfl (tyX7_ok 45 (by decide)) rfl wnd7 rfl rfl hm.1 ?_
      refine r_iconst (q := 24) (z := 1) (v := 1) C rfl (by decide +kernel) (by decide) ?_
      exact r_zret C (by decide +kernel) rfl (by first | decide | exact b2i_nar _) (by decide) (by decide) (eqP hPP ⟨_, rfl, (by
            rw [cif_t hy, cif_t hy]
            exact ⟨rfl, MB.ra_up M1 p3 p2, (Fm.rf.setI (by decide)).setI (by decide)⟩)⟩)
    · refine r_iconst (q := 17) (z := 0) (v := 0) C rfl (by decide +kernel) (by decide) ?_
      exact r_zret C (by decide +kernel) rfl (by first | decide | exact b2i_nar _) (by decide) (by decide) (eqP hPP ⟨_, rfl, (by
            have hn : ¬ (0 ≤ p ∧ p ≤ 1000) := by first | exact fun e => absurd e.1 (Int32.not_le.mpr c6) | exact fun e => c13 e.2
            rw [cif_f hn, cif_f hn]
            exact ⟨rfl, M1, Fm.rf.setI (by decide)⟩)⟩)
end
section
def bx (b : Nat) : Int32 := if b < 10 then nI b else -1
theorem bx_neg {b : Nat} : bx b < 0 ↔ ¬ b < 10 := by
  unfold bx; split
  · rename_i h; exact ⟨fun e => absurd e (nI_pos (by omega)), fun e => absurd h e⟩
  · rename_i h; exact ⟨fun _ => h, fun _ => by decide⟩
theorem bx_in {b : Nat} (h : b < 10) : bx b = nI b := if_pos h
/-- the first of the greatest rank among those asked -/
def bestN (σ : SG) (as : Nat → Bool) : Nat → Nat
  | 0 => 10
  | k + 1 => if as k && (decide (¬ bestN σ as k < 10) || decide (σ.rk (bestN σ as k) < σ.rk k)) then k else bestN σ as k
theorem bestN_lt {σ : SG} {as : Nat → Bool} : ∀ {k : Nat}, k ≤ 10 → bestN σ as k < 10 → bestN σ as k < k
  | 0, _, h => absurd h (show ¬ (10 : Nat) < 10 by decide)
  | k + 1, hk, h => by
    simp only [bestN] at h ⊢
    by_cases e : (as k && (decide (¬ bestN σ as k < 10) || decide (σ.rk (bestN σ as k) < σ.rk k))) = true
    · rw [if_pos e]; omega
    · rw [if_neg e] at h ⊢
      have := bestN_lt (by omega) h; omega
def frst (σ : SG) (r q : Nat) : Prop := q ≤ 240 ∧ (q < 240 → σ.fit r q) ∧ ∀ p, p < q → ¬ σ.fit r p

theorem c_X7_look {G : GT} {h : HP} {m : Nat} {σ : SG} {x w : Int32} (hm : LM h.kd h.gl h.fr m) (M : MR σ h m) (W : WF σ) : Con G 4 0 0 yX7_look cX7_look 3 (some .int) [rv m, .int x, .int w] h (PI (fun v h' => (lkP σ x w → lookV σ x.toNatClampNeg w = v ∧ h.setI 448 m 0 = h') ∧ (¬ lkP σ x w → h.setI 448 m 1 = h'))) := by
  refine Con.of (lv := [some (rv m), some (.int x), some (.int w)]) (by decide) (by simp only [lvE_r, lvE_i, lvE_l, lvE_s, lvE_0]; rfl) (by simp only [lgl_r, lgl_i, lgl_l, lgl_s, lgl_0]; decide) (fun Γ C R => ?_)
  generalize hPP : (PI (fun v h' => (lkP σ x w → lookV σ x.toNatClampNeg w = v ∧ h.setI 448 m 0 = h') ∧ (¬ lkP σ x w → h.setI 448 m 1 = h'))) = PP
  have r10 := W.n10
  have M1 : MR σ (h.setI 448 m 0) m := M.setI (by decide) (by decide) (by decide)
  have J23 : ∀ (v : Int32), ((v = 0 ∧ lkP σ x w) ∨ (v = 1 ∧ ¬ lkP σ x w)) → wX G Γ (qM G Γ PP 0 0) 0 0 (h) 23 [some (rv m), some (.int x), some (.int w)] [.int v, rv m] := by
    intro v hv
    refine r_putI (q := 26) C 7 0 448 rfl (by decide +kernel) rfl (by decide) rfl rfl wf_X7_1 win7 tyX7 tyX7_ok nmX7 rfl (tyX7_ok 0 (by decide)) rfl wnd7 rfl rfl hm.1 ?_
    refine r_aload_n (q := 27) (z := 0) C 0 rfl (by decide +kernel) rfl rfl ?_
    refine r_getI (q := 30) C 7 0 448 rfl (by decide +kernel) rfl (by decide) rfl rfl wf_X7_1 win7 hm.1 ?_
    rw [fi_eq]
    refine r_if_le (q := 33) (off := 5) (tgt := 35) C rfl (by decide +kernel) (by decide) (fun c30 => ?_) (fun c30 => ?_)
    · obtain ⟨rfl, hyes⟩ : v = 0 ∧ lkP σ x w := hv.resolve_right (fun e => by rw [e.1] at c30; exact absurd c30 (by decide))
      obtain ⟨r, hr, rfl⟩ := ride_of r10 hyes.1
      refine r_iload_n (q := 36) (z := 2) C 2 rfl (by decide +kernel) rfl rfl ?_
      refine r_if_ne (q := 39) (off := 20) (tgt := 56) C rfl (by decide +kernel) (by decide) (fun c36 => ?_) (fun c36 => ?_)
      · refine r_iload_n (q := 57) (z := 2) C 2 rfl (by decide +kernel) rfl rfl ?_
        refine r_iconst (q := 58) (z := 1) (v := 1) C rfl (by decide +kernel) (by decide) ?_
        refine r_icmp_ne (q := 61) (off := 12) (tgt := 70) C rfl (by decide +kernel) (by decide) (fun c58 => ?_) (fun c58 => ?_)
        · refine r_iload_n (q := 71) (z := 2) C 2 rfl (by decide +kernel) rfl rfl ?_
          refine r_iconst (q := 72) (z := 2) (v := 2) C rfl (by decide +kernel) (by decide) ?_
          refine r_icmp_ne (q := 75) (off := 11) (tgt := 83) C rfl (by decide +kernel) (by decide) (fun c72 => ?_) (fun c72 => ?_)
          · refine r_iload_n (q := 84) (z := 2) C 2 rfl (by decide +kernel) rfl rfl ?_
            refine r_iconst (q := 85) (z := 3) (v := 3) C rfl (by decide +kernel) (by decide) ?_
            refine r_icmp_ne (q := 88) (off := 12) (tgt := 97) C rfl (by decide +kernel) (by decide) (fun c85 => ?_) (fun c85 => ?_)
            · refine r_iload_n (q := 98) (z := 2) C 2 rfl (by decide +kernel) rfl rfl ?_
              refine r_iconst (q := 99) (z := 4) (v := 4) C rfl (by decide +kernel) (by decide) ?_
              refine r_icmp_ne (q := 102) (off := 12) (tgt := 111) C rfl (by decide +kernel) (by decide) (fun c99 => ?_) (fun c99 => ?_)
              · refine r_aload_n (q := 112) (z := 0) C 0 rfl (by decide +kernel) rfl rfl ?_
                refine r_getR (q := 115) C 7 33 481 rfl (by decide +kernel) rfl (by decide) rfl rfl wf_X7_112 win7 hm.1 ?_
                refine r_iload_n (q := 116) (z := 1) C 1 rfl (by decide +kernel) rfl rfl ?_
                refine r_iald (q := 117) C rfl (by decide +kernel) hm.k481 (vp_in_nI (by omega) (by decide)) ?_
                rw [nI_clamp (by omega), M1.ams (by omega)]
                exact r_iret C (by decide +kernel) rfl (by decide) (by decide) (eqP hPP ⟨_, rfl, ⟨fun _ => ⟨by rw [nI_clamp (by omega)]; unfold lookV; first | (rw [if_pos c36, if_pos (pl_nn.mp c45)]) | (rw [if_pos c36, if_neg (pl_neg.mp c45)]) | (rw [if_neg c36, if_pos c58]) | (rw [if_neg c36, if_neg c58, if_pos c72]) | (rw [if_neg c36, if_neg c58, if_neg c72, if_pos c85]) | (rw [if_neg c36, if_neg c58, if_neg c72, if_neg c85, if_pos c99]) | (rw [if_neg c36, if_neg c58, if_neg c72, if_neg c85, if_neg c99]), rfl⟩, fun e => absurd hyes e⟩⟩)
              · refine r_aload_n (q := 103) (z := 0) C 0 rfl (by decide +kernel) rfl rfl ?_
                refine r_getR (q := 106) C 7 32 480 rfl (by decide +kernel) rfl (by decide) rfl rfl wf_X7_109 win7 hm.1 ?_
                refine r_iload_n (q := 107) (z := 1) C 1 rfl (by decide +kernel) rfl rfl ?_
                refine r_iald (q := 108) C rfl (by decide +kernel) hm.k480 (vp_in_nI (by omega) (by decide)) ?_
                rw [nI_clamp (by omega), M1.ahd (by omega)]
                refine r_goto (off := 9) (tgt := 117) C (by decide +kernel) (by decide) ?_
                exact r_iret C (by decide +kernel) rfl (by decide) (by decide) (eqP hPP ⟨_, rfl, ⟨fun _ => ⟨by rw [nI_clamp (by omega)]; unfold lookV; first | (rw [if_pos c36, if_pos (pl_nn.mp c45)]) | (rw [if_pos c36, if_neg (pl_neg.mp c45)]) | (rw [if_neg c36, if_pos c58]) | (rw [if_neg c36, if_neg c58, if_pos c72]) | (rw [if_neg c36, if_neg c58, if_neg c72, if_pos c85]) | (rw [if_neg c36, if_neg c58, if_neg c72, if_neg c85, if_pos c99]) | (rw [if_neg c36, if_neg c58, if_neg c72, if_neg c85, if_neg c99]), rfl⟩, fun e => absurd hyes e⟩⟩)
            · refine r_aload_n (q := 89) (z := 0) C 0 rfl (by decide +kernel) rfl rfl ?_
              refine r_getR (q := 92) C 7 31 479 rfl (by decide +kernel) rfl (by decide) rfl rfl wf_X7_106 win7 hm.1 ?_
              refine r_iload_n (q := 93) (z := 1) C 1 rfl (by decide +kernel) rfl rfl ?_
              refine r_iald (q := 94) C rfl (by decide +kernel) hm.k479 (vp_in_nI (by omega) (by decide)) ?_
              rw [nI_clamp (by omega), M1.art (by omega)]
              refine r_goto (off := 23) (tgt := 117) C (by decide +kernel) (by decide) ?_
              exact r_iret C (by decide +kernel) rfl (by decide) (by decide) (eqP hPP ⟨_, rfl, ⟨fun _ => ⟨by rw [nI_clamp (by omega)]; unfold lookV; first | (rw [if_pos c36, if_pos (pl_nn.mp c45)]) | (rw [if_pos c36, if_neg (pl_neg.mp c45)]) | (rw [if_neg c36, if_pos c58]) | (rw [if_neg c36, if_neg c58, if_pos c72]) | (rw [if_neg c36, if_neg c58, if_neg c72, if_pos c85]) | (rw [if_neg c36, if_neg c58, if_neg c72, if_neg c85, if_pos c99]) | (rw [if_neg c36, if_neg c58, if_neg c72, if_neg c85, if_neg c99]), rfl⟩, fun e => absurd hyes e⟩⟩)
          · refine r_aload_n (q := 76) (z := 0) C 0 rfl (by decide +kernel) rfl rfl ?_
            refine r_iload_n (q := 77) (z := 1) C 1 rfl (by decide +kernel) rfl rfl ?_
            refine cV1I (q := 80) C R rfl (by decide +kernel) lk_X7_292 (c_X7_door hm M1 W hr) (by decide) (by decide) (by decide) rfl (by first | exact Nat.le_of_ble_eq_true rfl | (simp only [List.map_cons, List.map_nil, List.sum_cons, List.sum_nil, rv_cat]; exact Nat.le_of_ble_eq_true rfl)) rfl hm.1 ?_
            rintro _ _ ⟨rfl, rfl⟩
            refine r_goto (off := 37) (tgt := 117) C (by decide +kernel) (by decide) ?_
            exact r_iret C (by decide +kernel) rfl (by decide) (by decide) (eqP hPP ⟨_, rfl, ⟨fun _ => ⟨by rw [nI_clamp (by omega)]; unfold lookV; first | (rw [if_pos c36, if_pos (pl_nn.mp c45)]) | (rw [if_pos c36, if_neg (pl_neg.mp c45)]) | (rw [if_neg c36, if_pos c58]) | (rw [if_neg c36, if_neg c58, if_pos c72]) | (rw [if_neg c36, if_neg c58, if_neg c72, if_pos c85]) | (rw [if_neg c36, if_neg c58, if_neg c72, if_neg c85, if_pos c99]) | (rw [if_neg c36, if_neg c58, if_neg c72, if_neg c85, if_neg c99]), rfl⟩, fun e => absurd hyes e⟩⟩)
        · refine r_aload_n (q := 62) (z := 0) C 0 rfl (by decide +kernel) rfl rfl ?_
          refine r_getR (q := 65) C 7 30 478 rfl (by decide +kernel) rfl (by decide) rfl rfl wf_X7_103 win7 hm.1 ?_
          refine r_iload_n (q := 66) (z := 1) C 1 rfl (by decide +kernel) rfl rfl ?_
          refine r_iald (q := 67) C rfl (by decide +kernel) hm.k478 (vp_in_nI (by omega) (by decide)) ?_
          rw [nI_clamp (by omega), M1.ali (by omega)]
          refine r_goto (off := 50) (tgt := 117) C (by decide +kernel) (by decide) ?_
          exact r_iret C (by decide +kernel) rfl (by decide) (by decide) (eqP hPP ⟨_, rfl, ⟨fun _ => ⟨by rw [nI_clamp (by omega)]; unfold lookV; first | (rw [if_pos c36, if_pos (pl_nn.mp c45)]) | (rw [if_pos c36, if_neg (pl_neg.mp c45)]) | (rw [if_neg c36, if_pos c58]) | (rw [if_neg c36, if_neg c58, if_pos c72]) | (rw [if_neg c36, if_neg c58, if_neg c72, if_pos c85]) | (rw [if_neg c36, if_neg c58, if_neg c72, if_neg c85, if_pos c99]) | (rw [if_neg c36, if_neg c58, if_neg c72, if_neg c85, if_neg c99]), rfl⟩, fun e => absurd hyes e⟩⟩)
      · refine r_aload_n (q := 40) (z := 0) C 0 rfl (by decide +kernel) rfl rfl ?_
        refine r_getR (q := 43) C 7 30 478 rfl (by decide +kernel) rfl (by decide) rfl rfl wf_X7_103 win7 hm.1 ?_
        refine r_iload_n (q := 44) (z := 1) C 1 rfl (by decide +kernel) rfl rfl ?_
        refine r_iald (q := 45) C rfl (by decide +kernel) hm.k478 (vp_in_nI (by omega) (by decide)) ?_
        rw [nI_clamp (by omega), M1.ali (by omega)]
        refine r_if_lt (q := 48) (off := 7) (tgt := 52) C rfl (by decide +kernel) (by decide) (fun c45 => ?_) (fun c45 => ?_)
        · refine r_iconst (q := 53) (z := 0) (v := 0) C rfl (by decide +kernel) (by decide) ?_
          refine r_goto (off := 64) (tgt := 117) C (by decide +kernel) (by decide) ?_
          exact r_iret C (by decide +kernel) rfl (by decide) (by decide) (eqP hPP ⟨_, rfl, ⟨fun _ => ⟨by rw [nI_clamp (by omega)]; unfold lookV; first | (rw [if_pos c36, if_pos (pl_nn.mp c45)]) | (rw [if_pos c36, if_neg (pl_neg.mp c45)]) | (rw [if_neg c36, if_pos c58]) | (rw [if_neg c36, if_neg c58, if_pos c72]) | (rw [if_neg c36, if_neg c58, if_neg c72, if_pos c85]) | (rw [if_neg c36, if_neg c58, if_neg c72, if_neg c85, if_pos c99]) | (rw [if_neg c36, if_neg c58, if_neg c72, if_neg c85, if_neg c99]), rfl⟩, fun e => absurd hyes e⟩⟩)
        · refine r_iconst (q := 49) (z := 1) (v := 1) C rfl (by decide +kernel) (by decide) ?_
          refine r_goto (off := 68) (tgt := 117) C (by decide +kernel) (by decide) ?_
          exact r_iret C (by decide +kernel) rfl (by decide) (by decide) (eqP hPP ⟨_, rfl, ⟨fun _ => ⟨by rw [nI_clamp (by omega)]; unfold lookV; first | (rw [if_pos c36, if_pos (pl_nn.mp c45)]) | (rw [if_pos c36, if_neg (pl_neg.mp c45)]) | (rw [if_neg c36, if_pos c58]) | (rw [if_neg c36, if_neg c58, if_pos c72]) | (rw [if_neg c36, if_neg c58, if_neg c72, if_pos c85]) | (rw [if_neg c36, if_neg c58, if_neg c72, if_neg c85, if_pos c99]) | (rw [if_neg c36, if_neg c58, if_neg c72, if_neg c85, if_neg c99]), rfl⟩, fun e => absurd hyes e⟩⟩)
    · obtain ⟨rfl, hno⟩ : v = 1 ∧ ¬ lkP σ x w := hv.resolve_left (fun e => by rw [e.1] at c30; exact absurd (by decide) c30)
      refine r_iconst (q := 34) (z := 0) (v := 0) C rfl (by decide +kernel) (by decide) ?_
      exact r_iret C (by decide +kernel) rfl (by decide) (by decide) (eqP hPP ⟨_, rfl, ⟨fun e => absurd e hno, fun _ => rfl⟩⟩)
  refine r_aload_n (q := 1) (z := 0) C 0 rfl (by decide +kernel) rfl rfl ?_
  refine r_aload_n (q := 2) (z := 0) C 0 rfl (by decide +kernel) rfl rfl ?_
  refine r_iload_n (q := 3) (z := 1) C 1 rfl (by decide +kernel) rfl rfl ?_
  refine cV1I (q := 6) C R rfl (by decide +kernel) lk_X7_316 (c_X7_isRide hm M) (by decide) (by decide) (by decide) rfl (by first | exact Nat.le_of_ble_eq_true rfl | (simp only [List.map_cons, List.map_nil, List.sum_cons, List.sum_nil, rv_cat]; exact Nat.le_of_ble_eq_true rfl)) rfl hm.1 ?_
  rintro _ _ ⟨rfl, rfl⟩
  refine r_if_eq (q := 9) (off := 16) (tgt := 22) C rfl (by decide +kernel) (by decide) (fun c6 => ?_) (fun c6 => ?_)
  · have hno : ¬ lkP σ x w := fun e => absurd e.1 (of_decide_eq_false ((b2i_0 _).mp c6))
    refine r_iconst (q := 23) (z := 1) (v := 1) C rfl (by decide +kernel) (by decide) ?_
    exact J23 1 (Or.inr ⟨rfl, hno⟩)
  · have c6 := of_decide_eq_true ((b2i_n0 _).mp c6)
    refine r_iload_n (q := 10) (z := 2) C 2 rfl (by decide +kernel) rfl rfl ?_
    refine r_if_lt (q := 13) (off := 12) (tgt := 22) C rfl (by decide +kernel) (by decide) (fun c10 => ?_) (fun c10 => ?_)
    · have hno : ¬ lkP σ x w := fun e => absurd e.2.1 (Int32.not_le.mpr c10)
      refine r_iconst (q := 23) (z := 1) (v := 1) C rfl (by decide +kernel) (by decide) ?_
      exact J23 1 (Or.inr ⟨rfl, hno⟩)
    · refine r_iload_n (q := 14) (z := 2) C 2 rfl (by decide +kernel) rfl rfl ?_
      refine r_iconst (q := 15) (z := 5) (v := 5) C rfl (by decide +kernel) (by decide) ?_
      refine r_icmp_gt (q := 18) (off := 7) (tgt := 22) C rfl (by decide +kernel) (by decide) (fun c15 => ?_) (fun c15 => ?_)
      · have hno : ¬ lkP σ x w := fun e => absurd e.2.2 (Int32.not_le.mpr c15)
        refine r_iconst (q := 23) (z := 1) (v := 1) C rfl (by decide +kernel) (by decide) ?_
        exact J23 1 (Or.inr ⟨rfl, hno⟩)
      · refine r_iconst (q := 19) (z := 0) (v := 0) C rfl (by decide +kernel) (by decide) ?_
        refine r_goto (off := 4) (tgt := 23) C (by decide +kernel) (by decide) ?_
        exact J23 0 (Or.inl ⟨rfl, c6, Int32.not_lt.mp c10, Int32.not_lt.mp c15⟩)
theorem c_X7_count {G : GT} {h : HP} {m : Nat} {σ : SG} {be sh : Nat → Nat} {ra q0 : Nat} {w : Int32} (hm : LM h.kd h.gl h.fr m) (M : MR σ h m) (W : WF σ) (Mb : MB be sh ra h m) (hh : h.fi 463 m = nI q0) (hq2 : q0 < 2) : Con G 6 0 0 yX7_count cX7_count 5 (some .int) [rv m, .int w] h (PI (fun v h' => countV σ ra (h.ai (h.fr 458 m) q0) (h.fi 450 m) w = v ∧ h.setI 448 m 0 = h')) := by
  refine Con.of (lv := [some (rv m), some (.int w), none, none, none]) (by decide) (by simp only [lvE_r, lvE_i, lvE_l, lvE_s, lvE_0]; rfl) (by simp only [lgl_r, lgl_i, lgl_l, lgl_s, lgl_0]; decide) (fun Γ C R => ?_)
  generalize hPP : (PI (fun v h' => countV σ ra (h.ai (h.fr 458 m) q0) (h.fi 450 m) w = v ∧ h.setI 448 m 0 = h')) = PP
  have r10 := W.n10
  have M1 : MR σ (h.setI 448 m 0) m := M.setI (by decide) (by decide) (by decide)
  have Mb1 : MB be sh ra (h.setI 448 m 0) m := Mb.setI (by decide)
  refine r_aload_n (q := 1) (z := 0) C 0 rfl (by decide +kernel) rfl rfl ?_
  refine r_iconst (q := 2) (z := 0) (v := 0) C rfl (by decide +kernel) (by decide) ?_
  refine r_putI (q := 5) C 7 0 448 rfl (by decide +kernel) rfl (by decide) rfl rfl wf_X7_1 win7 tyX7 tyX7_ok nmX7 rfl (tyX7_ok 0 (by decide)) rfl wnd7 rfl rfl hm.1 ?_
  have L42 : ∀ (fuel42 : Nat) (k : Nat), σ.n - k < fuel42 → (k ≤ σ.n) → wX G Γ (qM G Γ PP 0 0) 0 0 (h.setI 448 m 0) 42 [some (rv m), some (.int w), some (.int (nI (frN σ 120))), some (.int (nI (rtN σ k))), some (.int (nI k))] [] := by
    intro fuel42
    induction fuel42 with
    | zero =>
      intro k hm42
      exact absurd hm42 (Nat.not_lt_zero _)
    | succ fuel42 ih42 =>
      intro k hm42 hk
      refine r_iload (q := 44) C 4 rfl (by decide +kernel) rfl ?_
      refine r_aload_n (q := 45) (z := 0) C 0 rfl (by decide +kernel) rfl rfl ?_
      refine r_getI (q := 48) C 7 24 472 rfl (by decide +kernel) rfl (by decide) rfl rfl wf_X7_243 win7 hm.1 ?_
      rw [M1.fn]
      refine r_icmp_ge (q := 51) (off := 27) (tgt := 75) C rfl (by decide +kernel) (by decide) (fun c48 => ?_) (fun c48 => ?_)
      · have ek : k = σ.n := by have := (nI_leI (by omega) (by omega)).mp c48; omega
        subst ek
        refine r_iload_n (q := 76) (z := 1) C 1 rfl (by decide +kernel) rfl rfl ?_
        refine r_if_ne (q := 79) (off := 10) (tgt := 86) C rfl (by decide +kernel) (by decide) (fun c76 => ?_) (fun c76 => ?_)
        · refine r_iload_n (q := 87) (z := 1) C 1 rfl (by decide +kernel) rfl rfl ?_
          refine r_iconst (q := 88) (z := 1) (v := 1) C rfl (by decide +kernel) (by decide) ?_
          refine r_icmp_ne (q := 91) (off := 10) (tgt := 98) C rfl (by decide +kernel) (by decide) (fun c88 => ?_) (fun c88 => ?_)
          · refine r_iload_n (q := 99) (z := 1) C 1 rfl (by decide +kernel) rfl rfl ?_
            refine r_iconst (q := 100) (z := 2) (v := 2) C rfl (by decide +kernel) (by decide) ?_
            refine r_icmp_ne (q := 103) (off := 10) (tgt := 110) C rfl (by decide +kernel) (by decide) (fun c100 => ?_) (fun c100 => ?_)
            · refine r_iload_n (q := 111) (z := 1) C 1 rfl (by decide +kernel) rfl rfl ?_
              refine r_iconst (q := 112) (z := 3) (v := 3) C rfl (by decide +kernel) (by decide) ?_
              refine r_icmp_ne (q := 115) (off := 7) (tgt := 119) C rfl (by decide +kernel) (by decide) (fun c112 => ?_) (fun c112 => ?_)
              · refine r_iload_n (q := 120) (z := 1) C 1 rfl (by decide +kernel) rfl rfl ?_
                refine r_iconst (q := 121) (z := 4) (v := 4) C rfl (by decide +kernel) (by decide) ?_
                refine r_icmp_ne (q := 124) (off := 7) (tgt := 128) C rfl (by decide +kernel) (by decide) (fun c121 => ?_) (fun c121 => ?_)
                · refine r_iload_n (q := 129) (z := 1) C 1 rfl (by decide +kernel) rfl rfl ?_
                  refine r_iconst (q := 130) (z := 5) (v := 5) C rfl (by decide +kernel) (by decide) ?_
                  refine r_icmp_ne (q := 133) (off := 15) (tgt := 145) C rfl (by decide +kernel) (by decide) (fun c130 => ?_) (fun c130 => ?_)
                  · refine r_iload_n (q := 146) (z := 1) C 1 rfl (by decide +kernel) rfl rfl ?_
                    refine r_bipush (q := 148) (z := 6) (v := 6) C rfl (by decide +kernel) (by decide) ?_
                    refine r_icmp_ne (q := 151) (off := 10) (tgt := 158) C rfl (by decide +kernel) (by decide) (fun c148 => ?_) (fun c148 => ?_)
                    · refine r_iload_n (q := 159) (z := 1) C 1 rfl (by decide +kernel) rfl rfl ?_
                      refine r_bipush (q := 161) (z := 7) (v := 7) C rfl (by decide +kernel) (by decide) ?_
                      refine r_icmp_ne (q := 164) (off := 10) (tgt := 171) C rfl (by decide +kernel) (by decide) (fun c161 => ?_) (fun c161 => ?_)
                      · refine r_iconst (q := 172) (z := (-1)) (v := (-1)) C rfl (by decide +kernel) (by decide) ?_
                        exact r_iret C (by decide +kernel) rfl (by decide) (by decide) (eqP hPP ⟨_, rfl, ⟨by unfold countV; first | (rw [if_pos c76]; done) | (rw [if_neg c76, if_pos c88]; done) | (rw [if_neg c76, if_neg c88, if_pos c100]; done) | (rw [if_neg c76, if_neg c88, if_neg c100, if_pos c112]; done) | (rw [if_neg c76, if_neg c88, if_neg c100, if_neg c112, if_pos c121]; done) | (rw [if_neg c76, if_neg c88, if_neg c100, if_neg c112, if_neg c121, if_pos c130]; done) | (rw [if_neg c76, if_neg c88, if_neg c100, if_neg c112, if_neg c121, if_neg c130, if_pos c148]; done) | (rw [if_neg c76, if_neg c88, if_neg c100, if_neg c112, if_neg c121, if_neg c130, if_neg c148, if_pos c161]; done) | (rw [if_neg c76, if_neg c88, if_neg c100, if_neg c112, if_neg c121, if_neg c130, if_neg c148, if_neg c161]; done) | (rw [if_pos c76]; rfl) | (rw [if_neg c76, if_pos c88]; rfl) | (rw [if_neg c76, if_neg c88, if_pos c100]; rfl) | (rw [if_neg c76, if_neg c88, if_neg c100, if_pos c112]; rfl) | (rw [if_neg c76, if_neg c88, if_neg c100, if_neg c112, if_pos c121]; rfl) | (rw [if_neg c76, if_neg c88, if_neg c100, if_neg c112, if_neg c121, if_pos c130]; rfl) | (rw [if_neg c76, if_neg c88, if_neg c100, if_neg c112, if_neg c121, if_neg c130, if_pos c148]; rfl) | (rw [if_neg c76, if_neg c88, if_neg c100, if_neg c112, if_neg c121, if_neg c130, if_neg c148, if_pos c161]; rfl) | (rw [if_neg c76, if_neg c88, if_neg c100, if_neg c112, if_neg c121, if_neg c130, if_neg c148, if_neg c161]; rfl), rfl⟩⟩)
                      · refine r_aload_n (q := 165) (z := 0) C 0 rfl (by decide +kernel) rfl rfl ?_
                        refine cV0I (q := 168) C R rfl (by decide +kernel) lk_X7_356 (c_X7_rents hm M1 W Mb1) (by decide) (by decide) (by decide) rfl (by first | exact Nat.le_of_ble_eq_true rfl | (simp only [List.map_cons, List.map_nil, List.sum_cons, List.sum_nil, rv_cat]; exact Nat.le_of_ble_eq_true rfl)) rfl hm.1 ?_
                        rintro _ _ ⟨rfl, rfl⟩
                        refine r_goto (off := 4) (tgt := 172) C (by decide +kernel) (by decide) ?_
                        exact r_iret C (by decide +kernel) rfl (by decide) (by decide) (eqP hPP ⟨_, rfl, ⟨by unfold countV; first | (rw [if_pos c76]; done) | (rw [if_neg c76, if_pos c88]; done) | (rw [if_neg c76, if_neg c88, if_pos c100]; done) | (rw [if_neg c76, if_neg c88, if_neg c100, if_pos c112]; done) | (rw [if_neg c76, if_neg c88, if_neg c100, if_neg c112, if_pos c121]; done) | (rw [if_neg c76, if_neg c88, if_neg c100, if_neg c112, if_neg c121, if_pos c130]; done) | (rw [if_neg c76, if_neg c88, if_neg c100, if_neg c112, if_neg c121, if_neg c130, if_pos c148]; done) | (rw [if_neg c76, if_neg c88, if_neg c100, if_neg c112, if_neg c121, if_neg c130, if_neg c148, if_pos c161]; done) | (rw [if_neg c76, if_neg c88, if_neg c100, if_neg c112, if_neg c121, if_neg c130, if_neg c148, if_neg c161]; done) | (rw [if_pos c76]; rfl) | (rw [if_neg c76, if_pos c88]; rfl) | (rw [if_neg c76, if_neg c88, if_pos c100]; rfl) | (rw [if_neg c76, if_neg c88, if_neg c100, if_pos c112]; rfl) | (rw [if_neg c76, if_neg c88, if_neg c100, if_neg c112, if_pos c121]; rfl) | (rw [if_neg c76, if_neg c88, if_neg c100, if_neg c112, if_neg c121, if_pos c130]; rfl) | (rw [if_neg c76, if_neg c88, if_neg c100, if_neg c112, if_neg c121, if_neg c130, if_pos c148]; rfl) | (rw [if_neg c76, if_neg c88, if_neg c100, if_neg c112, if_neg c121, if_neg c130, if_neg c148, if_pos c161]; rfl) | (rw [if_neg c76, if_neg c88, if_neg c100, if_neg c112, if_neg c121, if_neg c130, if_neg c148, if_neg c161]; rfl), rfl⟩⟩)
                    · refine r_aload_n (q := 152) (z := 0) C 0 rfl (by decide +kernel) rfl rfl ?_
                      refine r_getI (q := 155) C 7 2 450 rfl (by decide +kernel) rfl (by decide) rfl rfl wf_X7_11 win7 hm.1 ?_
                      rw [fi_ne (by decide)]
                      refine r_goto (off := 17) (tgt := 172) C (by decide +kernel) (by decide) ?_
                      exact r_iret C (by decide +kernel) rfl (by decide) (by decide) (eqP hPP ⟨_, rfl, ⟨by unfold countV; first | (rw [if_pos c76]; done) | (rw [if_neg c76, if_pos c88]; done) | (rw [if_neg c76, if_neg c88, if_pos c100]; done) | (rw [if_neg c76, if_neg c88, if_neg c100, if_pos c112]; done) | (rw [if_neg c76, if_neg c88, if_neg c100, if_neg c112, if_pos c121]; done) | (rw [if_neg c76, if_neg c88, if_neg c100, if_neg c112, if_neg c121, if_pos c130]; done) | (rw [if_neg c76, if_neg c88, if_neg c100, if_neg c112, if_neg c121, if_neg c130, if_pos c148]; done) | (rw [if_neg c76, if_neg c88, if_neg c100, if_neg c112, if_neg c121, if_neg c130, if_neg c148, if_pos c161]; done) | (rw [if_neg c76, if_neg c88, if_neg c100, if_neg c112, if_neg c121, if_neg c130, if_neg c148, if_neg c161]; done) | (rw [if_pos c76]; rfl) | (rw [if_neg c76, if_pos c88]; rfl) | (rw [if_neg c76, if_neg c88, if_pos c100]; rfl) | (rw [if_neg c76, if_neg c88, if_neg c100, if_pos c112]; rfl) | (rw [if_neg c76, if_neg c88, if_neg c100, if_neg c112, if_pos c121]; rfl) | (rw [if_neg c76, if_neg c88, if_neg c100, if_neg c112, if_neg c121, if_pos c130]; rfl) | (rw [if_neg c76, if_neg c88, if_neg c100, if_neg c112, if_neg c121, if_neg c130, if_pos c148]; rfl) | (rw [if_neg c76, if_neg c88, if_neg c100, if_neg c112, if_neg c121, if_neg c130, if_neg c148, if_pos c161]; rfl) | (rw [if_neg c76, if_neg c88, if_neg c100, if_neg c112, if_neg c121, if_neg c130, if_neg c148, if_neg c161]; rfl), rfl⟩⟩)
                  · refine r_aload_n (q := 134) (z := 0) C 0 rfl (by decide +kernel) rfl rfl ?_
                    refine r_getR (q := 137) C 7 10 458 rfl (by decide +kernel) rfl (by decide) rfl rfl wf_X7_57 win7 hm.1 ?_
                    refine r_aload_n (q := 138) (z := 0) C 0 rfl (by decide +kernel) rfl rfl ?_
                    refine r_getI (q := 141) C 7 15 463 rfl (by decide +kernel) rfl (by decide) rfl rfl wf_X7_207 win7 hm.1 ?_
                    rw [fi_ne (by decide), hh]
                    refine r_iald (q := 142) C rfl (by decide +kernel) hm.k458 (vp_in_nI hq2 (by decide)) ?_
                    rw [nI_clamp (by omega)]
                    refine r_goto (off := 30) (tgt := 172) C (by decide +kernel) (by decide) ?_
                    exact r_iret C (by decide +kernel) rfl (by decide) (by decide) (eqP hPP ⟨_, rfl, ⟨by unfold countV; first | (rw [if_pos c76]; done) | (rw [if_neg c76, if_pos c88]; done) | (rw [if_neg c76, if_neg c88, if_pos c100]; done) | (rw [if_neg c76, if_neg c88, if_neg c100, if_pos c112]; done) | (rw [if_neg c76, if_neg c88, if_neg c100, if_neg c112, if_pos c121]; done) | (rw [if_neg c76, if_neg c88, if_neg c100, if_neg c112, if_neg c121, if_pos c130]; done) | (rw [if_neg c76, if_neg c88, if_neg c100, if_neg c112, if_neg c121, if_neg c130, if_pos c148]; done) | (rw [if_neg c76, if_neg c88, if_neg c100, if_neg c112, if_neg c121, if_neg c130, if_neg c148, if_pos c161]; done) | (rw [if_neg c76, if_neg c88, if_neg c100, if_neg c112, if_neg c121, if_neg c130, if_neg c148, if_neg c161]; done) | (rw [if_pos c76]; rfl) | (rw [if_neg c76, if_pos c88]; rfl) | (rw [if_neg c76, if_neg c88, if_pos c100]; rfl) | (rw [if_neg c76, if_neg c88, if_neg c100, if_pos c112]; rfl) | (rw [if_neg c76, if_neg c88, if_neg c100, if_neg c112, if_pos c121]; rfl) | (rw [if_neg c76, if_neg c88, if_neg c100, if_neg c112, if_neg c121, if_pos c130]; rfl) | (rw [if_neg c76, if_neg c88, if_neg c100, if_neg c112, if_neg c121, if_neg c130, if_pos c148]; rfl) | (rw [if_neg c76, if_neg c88, if_neg c100, if_neg c112, if_neg c121, if_neg c130, if_neg c148, if_pos c161]; rfl) | (rw [if_neg c76, if_neg c88, if_neg c100, if_neg c112, if_neg c121, if_neg c130, if_neg c148, if_neg c161]; rfl), rfl⟩⟩)
                · refine r_iload_n (q := 125) (z := 3) C 3 rfl (by decide +kernel) rfl rfl ?_
                  refine r_goto (off := 47) (tgt := 172) C (by decide +kernel) (by decide) ?_
                  exact r_iret C (by decide +kernel) rfl (by decide) (by decide) (eqP hPP ⟨_, rfl, ⟨by unfold countV; first | (rw [if_pos c76]; done) | (rw [if_neg c76, if_pos c88]; done) | (rw [if_neg c76, if_neg c88, if_pos c100]; done) | (rw [if_neg c76, if_neg c88, if_neg c100, if_pos c112]; done) | (rw [if_neg c76, if_neg c88, if_neg c100, if_neg c112, if_pos c121]; done) | (rw [if_neg c76, if_neg c88, if_neg c100, if_neg c112, if_neg c121, if_pos c130]; done) | (rw [if_neg c76, if_neg c88, if_neg c100, if_neg c112, if_neg c121, if_neg c130, if_pos c148]; done) | (rw [if_neg c76, if_neg c88, if_neg c100, if_neg c112, if_neg c121, if_neg c130, if_neg c148, if_pos c161]; done) | (rw [if_neg c76, if_neg c88, if_neg c100, if_neg c112, if_neg c121, if_neg c130, if_neg c148, if_neg c161]; done) | (rw [if_pos c76]; rfl) | (rw [if_neg c76, if_pos c88]; rfl) | (rw [if_neg c76, if_neg c88, if_pos c100]; rfl) | (rw [if_neg c76, if_neg c88, if_neg c100, if_pos c112]; rfl) | (rw [if_neg c76, if_neg c88, if_neg c100, if_neg c112, if_pos c121]; rfl) | (rw [if_neg c76, if_neg c88, if_neg c100, if_neg c112, if_neg c121, if_pos c130]; rfl) | (rw [if_neg c76, if_neg c88, if_neg c100, if_neg c112, if_neg c121, if_neg c130, if_pos c148]; rfl) | (rw [if_neg c76, if_neg c88, if_neg c100, if_neg c112, if_neg c121, if_neg c130, if_neg c148, if_pos c161]; rfl) | (rw [if_neg c76, if_neg c88, if_neg c100, if_neg c112, if_neg c121, if_neg c130, if_neg c148, if_neg c161]; rfl), rfl⟩⟩)
              · refine r_iload_n (q := 116) (z := 2) C 2 rfl (by decide +kernel) rfl rfl ?_
                refine r_goto (off := 56) (tgt := 172) C (by decide +kernel) (by decide) ?_
                exact r_iret C (by decide +kernel) rfl (by decide) (by decide) (eqP hPP ⟨_, rfl, ⟨by unfold countV; first | (rw [if_pos c76]; done) | (rw [if_neg c76, if_pos c88]; done) | (rw [if_neg c76, if_neg c88, if_pos c100]; done) | (rw [if_neg c76, if_neg c88, if_neg c100, if_pos c112]; done) | (rw [if_neg c76, if_neg c88, if_neg c100, if_neg c112, if_pos c121]; done) | (rw [if_neg c76, if_neg c88, if_neg c100, if_neg c112, if_neg c121, if_pos c130]; done) | (rw [if_neg c76, if_neg c88, if_neg c100, if_neg c112, if_neg c121, if_neg c130, if_pos c148]; done) | (rw [if_neg c76, if_neg c88, if_neg c100, if_neg c112, if_neg c121, if_neg c130, if_neg c148, if_pos c161]; done) | (rw [if_neg c76, if_neg c88, if_neg c100, if_neg c112, if_neg c121, if_neg c130, if_neg c148, if_neg c161]; done) | (rw [if_pos c76]; rfl) | (rw [if_neg c76, if_pos c88]; rfl) | (rw [if_neg c76, if_neg c88, if_pos c100]; rfl) | (rw [if_neg c76, if_neg c88, if_neg c100, if_pos c112]; rfl) | (rw [if_neg c76, if_neg c88, if_neg c100, if_neg c112, if_pos c121]; rfl) | (rw [if_neg c76, if_neg c88, if_neg c100, if_neg c112, if_neg c121, if_pos c130]; rfl) | (rw [if_neg c76, if_neg c88, if_neg c100, if_neg c112, if_neg c121, if_neg c130, if_pos c148]; rfl) | (rw [if_neg c76, if_neg c88, if_neg c100, if_neg c112, if_neg c121, if_neg c130, if_neg c148, if_pos c161]; rfl) | (rw [if_neg c76, if_neg c88, if_neg c100, if_neg c112, if_neg c121, if_neg c130, if_neg c148, if_neg c161]; rfl), rfl⟩⟩)
            · refine r_aload_n (q := 104) (z := 0) C 0 rfl (by decide +kernel) rfl rfl ?_
              refine r_getI (q := 107) C 7 35 483 rfl (by decide +kernel) rfl (by decide) rfl rfl wf_X7_341 win7 hm.1 ?_
              rw [M1.fy]
              refine r_goto (off := 65) (tgt := 172) C (by decide +kernel) (by decide) ?_
              exact r_iret C (by decide +kernel) rfl (by decide) (by decide) (eqP hPP ⟨_, rfl, ⟨by unfold countV; first | (rw [if_pos c76]; done) | (rw [if_neg c76, if_pos c88]; done) | (rw [if_neg c76, if_neg c88, if_pos c100]; done) | (rw [if_neg c76, if_neg c88, if_neg c100, if_pos c112]; done) | (rw [if_neg c76, if_neg c88, if_neg c100, if_neg c112, if_pos c121]; done) | (rw [if_neg c76, if_neg c88, if_neg c100, if_neg c112, if_neg c121, if_pos c130]; done) | (rw [if_neg c76, if_neg c88, if_neg c100, if_neg c112, if_neg c121, if_neg c130, if_pos c148]; done) | (rw [if_neg c76, if_neg c88, if_neg c100, if_neg c112, if_neg c121, if_neg c130, if_neg c148, if_pos c161]; done) | (rw [if_neg c76, if_neg c88, if_neg c100, if_neg c112, if_neg c121, if_neg c130, if_neg c148, if_neg c161]; done) | (rw [if_pos c76]; rfl) | (rw [if_neg c76, if_pos c88]; rfl) | (rw [if_neg c76, if_neg c88, if_pos c100]; rfl) | (rw [if_neg c76, if_neg c88, if_neg c100, if_pos c112]; rfl) | (rw [if_neg c76, if_neg c88, if_neg c100, if_neg c112, if_pos c121]; rfl) | (rw [if_neg c76, if_neg c88, if_neg c100, if_neg c112, if_neg c121, if_pos c130]; rfl) | (rw [if_neg c76, if_neg c88, if_neg c100, if_neg c112, if_neg c121, if_neg c130, if_pos c148]; rfl) | (rw [if_neg c76, if_neg c88, if_neg c100, if_neg c112, if_neg c121, if_neg c130, if_neg c148, if_pos c161]; rfl) | (rw [if_neg c76, if_neg c88, if_neg c100, if_neg c112, if_neg c121, if_neg c130, if_neg c148, if_neg c161]; rfl), rfl⟩⟩)
          · refine r_aload_n (q := 92) (z := 0) C 0 rfl (by decide +kernel) rfl rfl ?_
            refine cV0I (q := 95) C R rfl (by decide +kernel) lk_X7_304 (c_X7_lying hm M1 W) (by decide) (by decide) (by decide) rfl (by first | exact Nat.le_of_ble_eq_true rfl | (simp only [List.map_cons, List.map_nil, List.sum_cons, List.sum_nil, rv_cat]; exact Nat.le_of_ble_eq_true rfl)) rfl hm.1 ?_
            rintro _ _ ⟨rfl, rfl⟩
            refine r_goto (off := 77) (tgt := 172) C (by decide +kernel) (by decide) ?_
            exact r_iret C (by decide +kernel) rfl (by decide) (by decide) (eqP hPP ⟨_, rfl, ⟨by unfold countV; first | (rw [if_pos c76]; done) | (rw [if_neg c76, if_pos c88]; done) | (rw [if_neg c76, if_neg c88, if_pos c100]; done) | (rw [if_neg c76, if_neg c88, if_neg c100, if_pos c112]; done) | (rw [if_neg c76, if_neg c88, if_neg c100, if_neg c112, if_pos c121]; done) | (rw [if_neg c76, if_neg c88, if_neg c100, if_neg c112, if_neg c121, if_pos c130]; done) | (rw [if_neg c76, if_neg c88, if_neg c100, if_neg c112, if_neg c121, if_neg c130, if_pos c148]; done) | (rw [if_neg c76, if_neg c88, if_neg c100, if_neg c112, if_neg c121, if_neg c130, if_neg c148, if_pos c161]; done) | (rw [if_neg c76, if_neg c88, if_neg c100, if_neg c112, if_neg c121, if_neg c130, if_neg c148, if_neg c161]; done) | (rw [if_pos c76]; rfl) | (rw [if_neg c76, if_pos c88]; rfl) | (rw [if_neg c76, if_neg c88, if_pos c100]; rfl) | (rw [if_neg c76, if_neg c88, if_neg c100, if_pos c112]; rfl) | (rw [if_neg c76, if_neg c88, if_neg c100, if_neg c112, if_pos c121]; rfl) | (rw [if_neg c76, if_neg c88, if_neg c100, if_neg c112, if_neg c121, if_pos c130]; rfl) | (rw [if_neg c76, if_neg c88, if_neg c100, if_neg c112, if_neg c121, if_neg c130, if_pos c148]; rfl) | (rw [if_neg c76, if_neg c88, if_neg c100, if_neg c112, if_neg c121, if_neg c130, if_neg c148, if_pos c161]; rfl) | (rw [if_neg c76, if_neg c88, if_neg c100, if_neg c112, if_neg c121, if_neg c130, if_neg c148, if_neg c161]; rfl), rfl⟩⟩)
        · refine r_aload_n (q := 80) (z := 0) C 0 rfl (by decide +kernel) rfl rfl ?_
          refine r_getI (q := 83) C 7 24 472 rfl (by decide +kernel) rfl (by decide) rfl rfl wf_X7_243 win7 hm.1 ?_
          rw [M1.fn]
          refine r_goto (off := 89) (tgt := 172) C (by decide +kernel) (by decide) ?_
          exact r_iret C (by decide +kernel) rfl (by decide) (by decide) (eqP hPP ⟨_, rfl, ⟨by unfold countV; first | (rw [if_pos c76]; done) | (rw [if_neg c76, if_pos c88]; done) | (rw [if_neg c76, if_neg c88, if_pos c100]; done) | (rw [if_neg c76, if_neg c88, if_neg c100, if_pos c112]; done) | (rw [if_neg c76, if_neg c88, if_neg c100, if_neg c112, if_pos c121]; done) | (rw [if_neg c76, if_neg c88, if_neg c100, if_neg c112, if_neg c121, if_pos c130]; done) | (rw [if_neg c76, if_neg c88, if_neg c100, if_neg c112, if_neg c121, if_neg c130, if_pos c148]; done) | (rw [if_neg c76, if_neg c88, if_neg c100, if_neg c112, if_neg c121, if_neg c130, if_neg c148, if_pos c161]; done) | (rw [if_neg c76, if_neg c88, if_neg c100, if_neg c112, if_neg c121, if_neg c130, if_neg c148, if_neg c161]; done) | (rw [if_pos c76]; rfl) | (rw [if_neg c76, if_pos c88]; rfl) | (rw [if_neg c76, if_neg c88, if_pos c100]; rfl) | (rw [if_neg c76, if_neg c88, if_neg c100, if_pos c112]; rfl) | (rw [if_neg c76, if_neg c88, if_neg c100, if_neg c112, if_pos c121]; rfl) | (rw [if_neg c76, if_neg c88, if_neg c100, if_neg c112, if_neg c121, if_pos c130]; rfl) | (rw [if_neg c76, if_neg c88, if_neg c100, if_neg c112, if_neg c121, if_neg c130, if_pos c148]; rfl) | (rw [if_neg c76, if_neg c88, if_neg c100, if_neg c112, if_neg c121, if_neg c130, if_neg c148, if_pos c161]; rfl) | (rw [if_neg c76, if_neg c88, if_neg c100, if_neg c112, if_neg c121, if_neg c130, if_neg c148, if_neg c161]; rfl), rfl⟩⟩)
      · have hlt : k < σ.n := Nat.lt_of_not_le (fun e => c48 (nI_le e (by omega)))
        refine r_iload_n (q := 52) (z := 3) C 3 rfl (by decide +kernel) rfl rfl ?_
        refine r_aload_n (q := 53) (z := 0) C 0 rfl (by decide +kernel) rfl rfl ?_
        refine r_getR (q := 56) C 7 31 479 rfl (by decide +kernel) rfl (by decide) rfl rfl wf_X7_106 win7 hm.1 ?_
        refine r_iload (q := 58) C 4 rfl (by decide +kernel) rfl ?_
        refine r_iald (q := 59) C rfl (by decide +kernel) hm.k479 (vp_in_nI (by omega) (by decide)) ?_
        rw [nI_clamp (by omega), M1.art (by omega)]
        refine r_if_lt (q := 62) (off := 7) (tgt := 66) C rfl (by decide +kernel) (by decide) (fun c59 => ?_) (fun c59 => ?_)
        · have e67 : nI (rtN σ k) + 0 = nI (rtN σ (k + 1)) := by rw [rtN_n (pl_neg.mp c59)]; exact nI_add _ 0
          refine r_iconst (q := 67) (z := 0) (v := 0) C rfl (by decide +kernel) (by decide) ?_
          refine r_iadd (q := 68) C rfl (by decide +kernel) ?_
          rw [e67]
          refine r_istore_n (q := 69) (z := 3) C 3 rfl (by decide +kernel) rfl (by decide) (by first | rfl | exact okst_rv rfl) ?_
          dsimp only [List.set]
          refine r_iinc (q := 72) (z := 1) (v := 1) C 4 rfl (by decide +kernel) rfl (by decide) (by decide) (by first | rfl | exact okst_rv rfl) ?_
          dsimp only [List.set]
          rw [nI_1]
          refine r_goto (off := -30) (tgt := 42) C (by decide +kernel) (by decide) ?_
          exact ih42 (k + 1) (by omega) (by omega)
        · have e67 : nI (rtN σ k) + 1 = nI (rtN σ (k + 1)) := by rw [rtN_y (pl_nn.mp c59)]; exact nI_1 _
          refine r_iconst (q := 63) (z := 1) (v := 1) C rfl (by decide +kernel) (by decide) ?_
          refine r_goto (off := 4) (tgt := 67) C (by decide +kernel) (by decide) ?_
          refine r_iadd (q := 68) C rfl (by decide +kernel) ?_
          rw [e67]
          refine r_istore_n (q := 69) (z := 3) C 3 rfl (by decide +kernel) rfl (by decide) (by first | rfl | exact okst_rv rfl) ?_
          dsimp only [List.set]
          refine r_iinc (q := 72) (z := 1) (v := 1) C 4 rfl (by decide +kernel) rfl (by decide) (by decide) (by first | rfl | exact okst_rv rfl) ?_
          dsimp only [List.set]
          rw [nI_1]
          refine r_goto (off := -30) (tgt := 42) C (by decide +kernel) (by decide) ?_
          exact ih42 (k + 1) (by omega) (by omega)
  refine r_iconst (q := 6) (z := 0) (v := 0) C rfl (by decide +kernel) (by decide) ?_
  refine r_istore_n (q := 7) (z := 2) C 2 rfl (by decide +kernel) rfl (by decide) (by first | rfl | exact okst_rv rfl) ?_
  dsimp only [List.set]
  refine r_iconst (q := 8) (z := 0) (v := 0) C rfl (by decide +kernel) (by decide) ?_
  refine r_istore_n (q := 9) (z := 3) C 3 rfl (by decide +kernel) rfl (by decide) (by first | rfl | exact okst_rv rfl) ?_
  dsimp only [List.set]
  have L9 : ∀ (fuel9 : Nat) (k : Nat), 120 - k < fuel9 → (k ≤ 120) → wX G Γ (qM G Γ PP 0 0) 0 0 (h.setI 448 m 0) 9 [some (rv m), some (.int w), some (.int (nI (frN σ k))), some (.int (nI k)), none] [] := by
    intro fuel9
    induction fuel9 with
    | zero =>
      intro k hm9
      exact absurd hm9 (Nat.not_lt_zero _)
    | succ fuel9 ih9 =>
      intro k hm9 hk
      refine r_iload_n (q := 10) (z := 3) C 3 rfl (by decide +kernel) rfl rfl ?_
      refine r_bipush (q := 12) (z := 120) (v := 120) C rfl (by decide +kernel) (by decide) ?_
      refine r_icmp_ge (q := 15) (off := 25) (tgt := 37) C rfl (by decide +kernel) (by decide) (fun c12 => ?_) (fun c12 => ?_)
      · have ek : k = 120 := by have := (nI_leI (a := 120) (by omega) (by omega)).mp c12; omega
        subst ek
        refine r_iconst (q := 38) (z := 0) (v := 0) C rfl (by decide +kernel) (by decide) ?_
        refine r_istore_n (q := 39) (z := 3) C 3 rfl (by decide +kernel) rfl (by decide) (by first | rfl | exact okst_rv rfl) ?_
        dsimp only [List.set]
        refine r_iconst (q := 40) (z := 0) (v := 0) C rfl (by decide +kernel) (by decide) ?_
        refine r_istore (q := 42) C 4 rfl (by decide +kernel) (by decide) (by first | rfl | exact okst_rv rfl) ?_
        dsimp only [List.set]
        exact L42 (σ.n + 1) 0 (by omega) (by omega)
      · have hlt : k < 120 := Nat.lt_of_not_le (fun e => c12 (nI_le (a := 120) e (by omega)))
        refine r_iload_n (q := 16) (z := 2) C 2 rfl (by decide +kernel) rfl rfl ?_
        refine r_aload_n (q := 17) (z := 0) C 0 rfl (by decide +kernel) rfl rfl ?_
        refine r_iload_n (q := 18) (z := 3) C 3 rfl (by decide +kernel) rfl rfl ?_
        refine cV1I (q := 21) C R rfl (by decide +kernel) lk_X7_286 (c_X7_isFree hm M1 W hlt) (by decide) (by decide) (by decide) rfl (by first | exact Nat.le_of_ble_eq_true rfl | (simp only [List.map_cons, List.map_nil, List.sum_cons, List.sum_nil, rv_cat]; exact Nat.le_of_ble_eq_true rfl)) rfl hm.1 ?_
        rintro _ _ ⟨rfl, rfl⟩
        refine r_if_eq (q := 24) (off := 7) (tgt := 28) C rfl (by decide +kernel) (by decide) (fun c21 => ?_) (fun c21 => ?_)
        · have e29 : nI (frN σ k) + 0 = nI (frN σ (k + 1)) := by rw [frN_n ((b2i_0 _).mp c21)]; exact nI_add _ 0
          refine r_iconst (q := 29) (z := 0) (v := 0) C rfl (by decide +kernel) (by decide) ?_
          refine r_iadd (q := 30) C rfl (by decide +kernel) ?_
          rw [e29]
          refine r_istore_n (q := 31) (z := 2) C 2 rfl (by decide +kernel) rfl (by decide) (by first | rfl | exact okst_rv rfl) ?_
          dsimp only [List.set]
          refine r_iinc (q := 34) (z := 1) (v := 1) C 3 rfl (by decide +kernel) rfl (by decide) (by decide) (by first | rfl | exact okst_rv rfl) ?_
          dsimp only [List.set]
          rw [nI_1]
          refine r_goto (off := -25) (tgt := 9) C (by decide +kernel) (by decide) ?_
          exact wX.sub (lsub_s (lsub_s (lsub_s (lsub_s (lsub_n (lsub_nil)))))) (ih9 (k + 1) (by omega) (by omega))
        · have e29 : nI (frN σ k) + 1 = nI (frN σ (k + 1)) := by rw [frN_y ((b2i_n0 _).mp c21)]; exact nI_1 _
          refine r_iconst (q := 25) (z := 1) (v := 1) C rfl (by decide +kernel) (by decide) ?_
          refine r_goto (off := 4) (tgt := 29) C (by decide +kernel) (by decide) ?_
          refine r_iadd (q := 30) C rfl (by decide +kernel) ?_
          rw [e29]
          refine r_istore_n (q := 31) (z := 2) C 2 rfl (by decide +kernel) rfl (by decide) (by first | rfl | exact okst_rv rfl) ?_
          dsimp only [List.set]
          refine r_iinc (q := 34) (z := 1) (v := 1) C 3 rfl (by decide +kernel) rfl (by decide) (by decide) (by first | rfl | exact okst_rv rfl) ?_
          dsimp only [List.set]
          rw [nI_1]
          refine r_goto (off := -25) (tgt := 9) C (by decide +kernel) (by decide) ?_
          exact wX.sub (lsub_s (lsub_s (lsub_s (lsub_s (lsub_n (lsub_nil)))))) (ih9 (k + 1) (by omega) (by omega))
  exact wX.sub (lsub_s (lsub_s (lsub_s (lsub_s (lsub_n (lsub_nil)))))) (L9 121 0 (by omega) (by omega))
theorem c_X7_firstPlace {G : GT} {h : HP} {m : Nat} {σ : SG} {r : Nat} (hm : LM h.kd h.gl h.fr m) (M : MR σ h m) (W : WF σ) (hr : r < σ.n) : Con G 8 0 0 yX7_firstPlace cX7_firstPlace 3 (some .int) [rv m, .int (nI r)] h (PI (fun v h' => ∃ (q : Nat) (f g : Nat → Int32), pl q = v ∧ frst σ r q ∧ scr h m f g = h')) := by
  refine Con.of (lv := [some (rv m), some (.int (nI r)), none]) (by decide) (by simp only [lvE_r, lvE_i, lvE_l, lvE_s, lvE_0]; rfl) (by simp only [lgl_r, lgl_i, lgl_l, lgl_s, lgl_0]; decide) (fun Γ C R => ?_)
  generalize hPP : (PI (fun v h' => ∃ (q : Nat) (f g : Nat → Int32), pl q = v ∧ frst σ r q ∧ scr h m f g = h')) = PP
  refine r_iconst (q := 1) (z := 0) (v := 0) C rfl (by decide +kernel) (by decide) ?_
  refine r_istore_n (q := 2) (z := 2) C 2 rfl (by decide +kernel) rfl (by decide) (by first | rfl | exact okst_rv rfl) ?_
  dsimp only [List.set]
  have L2 : ∀ (fuel2 : Nat) (p : Nat) (f g : Nat → Int32), 240 - p < fuel2 → (p ≤ 240) → (∀ q, q < p → ¬ σ.fit r q) → wX G Γ (qM G Γ PP 0 0) 0 0 (scr h m f g) 2 [some (rv m), some (.int (nI r)), some (.int (nI p))] [] := by
    intro fuel2
    induction fuel2 with
    | zero =>
      intro p f g hm2
      exact absurd hm2 (Nat.not_lt_zero _)
    | succ fuel2 ih2 =>
      intro p f g hm2 hp hno
      refine r_iload_n (q := 3) (z := 2) C 2 rfl (by decide +kernel) rfl rfl ?_
      refine r_sipush (q := 6) (z := 240) (v := 240) C rfl (by decide +kernel) (by decide) ?_
      refine r_icmp_ge (q := 9) (off := 20) (tgt := 26) C rfl (by decide +kernel) (by decide) (fun c6 => ?_) (fun c6 => ?_)
      · have ep : p = 240 := by have := (nI_leI (a := 240) (by omega) (by omega)).mp c6; omega
        refine r_iconst (q := 27) (z := (-1)) (v := (-1)) C rfl (by decide +kernel) (by decide) ?_
        exact r_iret C (by decide +kernel) rfl (by decide) (by decide) (eqP hPP ⟨_, rfl, ⟨240, _, _, rfl, ⟨by omega, fun e => absurd e (by decide), fun q hq => hno q (by omega)⟩, rfl⟩⟩)
      · have hlt : p < 240 := Nat.lt_of_not_le (fun e => c6 (nI_le (a := 240) e (by omega)))
        refine r_aload_n (q := 10) (z := 0) C 0 rfl (by decide +kernel) rfl rfl ?_
        refine r_iload_n (q := 11) (z := 1) C 1 rfl (by decide +kernel) rfl rfl ?_
        refine r_iload_n (q := 12) (z := 2) C 2 rfl (by decide +kernel) rfl rfl ?_
        refine cV2I (q := 15) C R rfl (by decide +kernel) lk_X7_323 (c_X7_fitsAt hm (M.scr hm) W hr hlt) (by decide) (by decide) (by decide) rfl (by first | exact Nat.le_of_ble_eq_true rfl | (simp only [List.map_cons, List.map_nil, List.sum_cons, List.sum_nil, rv_cat]; exact Nat.le_of_ble_eq_true rfl)) rfl hm.1 ?_
        rintro _ _ ⟨t12, f12, g12, rfl, ht12, rfl⟩
        rw [scr_scr hm]
        refine r_if_eq (q := 18) (off := 5) (tgt := 20) C rfl (by decide +kernel) (by decide) (fun c15 => ?_) (fun c15 => ?_)
        · refine r_iinc (q := 23) (z := 1) (v := 1) C 2 rfl (by decide +kernel) rfl (by decide) (by decide) (by first | rfl | exact okst_rv rfl) ?_
          dsimp only [List.set]
          rw [nI_1]
          refine r_goto (off := -21) (tgt := 2) C (by decide +kernel) (by decide) ?_
          exact ih2 (p + 1) _ _ (by omega) (by omega) (fun q hq hf => by
            by_cases e : q = p
            · subst e; have := ht12.mpr hf; rw [(b2i_0 _).mp c15] at this; cases this
            · exact hno q (by omega) hf)
        · refine r_iload_n (q := 19) (z := 2) C 2 rfl (by decide +kernel) rfl rfl ?_
          exact r_iret C (by decide +kernel) rfl (by decide) (by decide) (eqP hPP ⟨_, rfl, ⟨p, _, _, pl_in hlt, ⟨by omega, fun _ => ht12.mp ((b2i_n0 _).mp c15), hno⟩, rfl⟩⟩)
  have z0 := L2 241 0 (h.ai (h.fr 486 m)) (h.ai (h.fr 487 m)) (by omega) (by omega) (fun q hq => absurd hq (Nat.not_lt_zero q))
  rw [scr_self] at z0
  exact z0
theorem c_X7_nextAsked {G : GT} {h : HP} {m : Nat} {σ : SG} {as : Nat → Bool} (hm : LM h.kd h.gl h.fr m) (M : MR σ h m) (W : WF σ) (ha : Fl (h.ai (h.fr 488 m)) as σ.n) : Con G 2 0 0 yX7_nextAsked cX7_nextAsked 3 (some .int) [rv m] h (PI (fun v h' => bx (bestN σ as σ.n) = v ∧ (if bestN σ as σ.n < 10 then h.row (h.fr 488 m) (upd (h.ai (h.fr 488 m)) (bestN σ as σ.n) 0) else h) = h')) := by
  refine Con.of (lv := [some (rv m), none, none]) (by decide) (by simp only [lvE_r, lvE_i, lvE_l, lvE_s, lvE_0]; rfl) (by simp only [lgl_r, lgl_i, lgl_l, lgl_s, lgl_0]; decide) (fun Γ C R => ?_)
  generalize hPP : (PI (fun v h' => bx (bestN σ as σ.n) = v ∧ (if bestN σ as σ.n < 10 then h.row (h.fr 488 m) (upd (h.ai (h.fr 488 m)) (bestN σ as σ.n) 0) else h) = h')) = PP
  have r10 := W.n10
  refine r_iconst (q := 1) (z := (-1)) (v := (-1)) C rfl (by decide +kernel) (by decide) ?_
  refine r_istore_n (q := 2) (z := 1) C 1 rfl (by decide +kernel) rfl (by decide) (by first | rfl | exact okst_rv rfl) ?_
  dsimp only [List.set]
  refine r_iconst (q := 3) (z := 0) (v := 0) C rfl (by decide +kernel) (by decide) ?_
  refine r_istore_n (q := 4) (z := 2) C 2 rfl (by decide +kernel) rfl (by decide) (by first | rfl | exact okst_rv rfl) ?_
  dsimp only [List.set]
  have L4 : ∀ (fuel4 : Nat) (k : Nat), σ.n - k < fuel4 → (k ≤ σ.n) → wX G Γ (qM G Γ PP 0 0) 0 0 (h) 4 [some (rv m), some (.int (bx (bestN σ as k))), some (.int (nI k))] [] := by
    intro fuel4
    induction fuel4 with
    | zero =>
      intro k hm4
      exact absurd hm4 (Nat.not_lt_zero _)
    | succ fuel4 ih4 =>
      intro k hm4 hk
      refine r_iload_n (q := 5) (z := 2) C 2 rfl (by decide +kernel) rfl rfl ?_
      refine r_aload_n (q := 6) (z := 0) C 0 rfl (by decide +kernel) rfl rfl ?_
      refine r_getI (q := 9) C 7 24 472 rfl (by decide +kernel) rfl (by decide) rfl rfl wf_X7_243 win7 hm.1 ?_
      rw [M.fn]
      refine r_icmp_ge (q := 12) (off := 43) (tgt := 52) C rfl (by decide +kernel) (by decide) (fun c9 => ?_) (fun c9 => ?_)
      · have ek : k = σ.n := by have := (nI_leI (by omega) (by omega)).mp c9; omega
        subst ek
        refine r_iload_n (q := 53) (z := 1) C 1 rfl (by decide +kernel) rfl rfl ?_
        refine r_if_lt (q := 56) (off := 10) (tgt := 63) C rfl (by decide +kernel) (by decide) (fun c53 => ?_) (fun c53 => ?_)
        · have hb := bx_neg.mp c53
          refine r_iload_n (q := 64) (z := 1) C 1 rfl (by decide +kernel) rfl rfl ?_
          exact r_iret C (by decide +kernel) rfl (by decide) (by decide) (eqP hPP ⟨_, rfl, ⟨rfl, by first | rw [if_pos hb] | rw [if_neg hb]⟩⟩)
        · have hb : bestN σ as σ.n < 10 := by
            rcases Nat.lt_or_ge (bestN σ as σ.n) 10 with e | e
            · exact e
            · exact absurd (bx_neg.mpr (by omega)) c53
          refine r_aload_n (q := 57) (z := 0) C 0 rfl (by decide +kernel) rfl rfl ?_
          refine r_getR (q := 60) C 7 40 488 rfl (by decide +kernel) rfl (by decide) rfl rfl wf_X7_127 win7 hm.1 ?_
          refine r_iload_n (q := 61) (z := 1) C 1 rfl (by decide +kernel) rfl rfl ?_
          refine r_iconst (q := 62) (z := 0) (v := 0) C rfl (by decide +kernel) (by decide) ?_
          refine r_zast (q := 63) C rfl (by decide +kernel) (show vp_nar .boolean 0 = 0 by decide) hm.k488 (by rw [bx_in hb]; exact vp_in_nI hb (by decide)) ?_
          rw [stI_row, show (bx (bestN σ as σ.n)).toNatClampNeg = bestN σ as σ.n by rw [bx_in hb]; exact nI_clamp (by omega)]
          refine r_iload_n (q := 64) (z := 1) C 1 rfl (by decide +kernel) rfl rfl ?_
          exact r_iret C (by decide +kernel) rfl (by decide) (by decide) (eqP hPP ⟨_, rfl, ⟨rfl, by first | rw [if_pos hb] | rw [if_neg hb]⟩⟩)
      · have hlt : k < σ.n := Nat.lt_of_not_le (fun e => c9 (nI_le e (by omega)))
        have J45 : ∀ (v : Int32), (v = bx (bestN σ as (k + 1))) → wX G Γ (qM G Γ PP 0 0) 0 0 (h) 45 [some (rv m), some (.int (bx (bestN σ as k))), some (.int (nI k))] [.int v] := by
          intro v hv
          subst hv
          refine r_istore_n (q := 46) (z := 1) C 1 rfl (by decide +kernel) rfl (by decide) (by first | rfl | exact okst_rv rfl) ?_
          dsimp only [List.set]
          refine r_iinc (q := 49) (z := 1) (v := 1) C 2 rfl (by decide +kernel) rfl (by decide) (by decide) (by first | rfl | exact okst_rv rfl) ?_
          dsimp only [List.set]
          rw [nI_1]
          refine r_goto (off := -45) (tgt := 4) C (by decide +kernel) (by decide) ?_
          exact ih4 (k + 1) (by omega) (by omega)
        refine r_aload_n (q := 13) (z := 0) C 0 rfl (by decide +kernel) rfl rfl ?_
        refine r_getR (q := 16) C 7 40 488 rfl (by decide +kernel) rfl (by decide) rfl rfl wf_X7_127 win7 hm.1 ?_
        refine r_iload_n (q := 17) (z := 2) C 2 rfl (by decide +kernel) rfl rfl ?_
        refine r_zald (q := 18) C rfl (by decide +kernel) hm.k488 (vp_in_nI (by omega) (by decide)) ?_
        rw [nI_clamp (by omega), ha _ (by omega)]
        refine r_if_eq (q := 21) (off := 26) (tgt := 44) C rfl (by decide +kernel) (by decide) (fun c18 => ?_) (fun c18 => ?_)
        · have ev : bx (bestN σ as k) = bx (bestN σ as (k + 1)) := by simp [bestN, (b2i_0 _).mp c18]
          refine r_iload_n (q := 45) (z := 1) C 1 rfl (by decide +kernel) rfl rfl ?_
          exact J45 _ ev
        · refine r_iload_n (q := 22) (z := 1) C 1 rfl (by decide +kernel) rfl rfl ?_
          refine r_if_lt (q := 25) (off := 18) (tgt := 40) C rfl (by decide +kernel) (by decide) (fun c22 => ?_) (fun c22 => ?_)
          · have ev : nI k = bx (bestN σ as (k + 1)) := by have h1 := bx_neg.mp c22; simp only [bestN]; rw [(b2i_n0 _).mp c18]; simp [h1, bx_in (show k < 10 by omega)]
            refine r_iload_n (q := 41) (z := 2) C 2 rfl (by decide +kernel) rfl rfl ?_
            refine r_goto (off := 4) (tgt := 45) C (by decide +kernel) (by decide) ?_
            exact J45 _ ev
          · have hb : bestN σ as k < 10 := by
              rcases Nat.lt_or_ge (bestN σ as k) 10 with e | e
              · exact e
              · exact absurd (bx_neg.mpr (by omega)) c22
            have hbk := bestN_lt (by omega) hb
            have hw1 := (W.2.2.1 k hlt).2.2.2.2.2.2
            have hw2 := (W.2.2.1 (bestN σ as k) (by omega)).2.2.2.2.2.2
            refine r_aload_n (q := 26) (z := 0) C 0 rfl (by decide +kernel) rfl rfl ?_
            refine r_getR (q := 29) C 7 29 477 rfl (by decide +kernel) rfl (by decide) rfl rfl wf_X7_100 win7 hm.1 ?_
            refine r_iload_n (q := 30) (z := 2) C 2 rfl (by decide +kernel) rfl rfl ?_
            refine r_iald (q := 31) C rfl (by decide +kernel) hm.k477 (vp_in_nI (by omega) (by decide)) ?_
            rw [nI_clamp (by omega), M.ark (by omega)]
            refine r_aload_n (q := 32) (z := 0) C 0 rfl (by decide +kernel) rfl rfl ?_
            refine r_getR (q := 35) C 7 29 477 rfl (by decide +kernel) rfl (by decide) rfl rfl wf_X7_100 win7 hm.1 ?_
            refine r_iload_n (q := 36) (z := 1) C 1 rfl (by decide +kernel) rfl rfl ?_
            refine r_iald (q := 37) C rfl (by decide +kernel) hm.k477 (by rw [bx_in hb]; exact vp_in_nI hb (by decide)) ?_
            rw [show (bx (bestN σ as k)).toNatClampNeg = bestN σ as k by rw [bx_in hb]; exact nI_clamp (by omega)]
            rw [M.ark (by omega)]
            refine r_icmp_le (q := 40) (off := 7) (tgt := 44) C rfl (by decide +kernel) (by decide) (fun c37 => ?_) (fun c37 => ?_)
            · rw [nI_leI (by omega) (by omega)] at c37
              have ev : bx (bestN σ as k) = bx (bestN σ as (k + 1)) := by simp only [bestN]; rw [if_neg]; simp [hb]; omega
              refine r_iload_n (q := 45) (z := 1) C 1 rfl (by decide +kernel) rfl rfl ?_
              exact J45 _ ev
            · rw [nI_leI (by omega) (by omega)] at c37
              have ev : nI k = bx (bestN σ as (k + 1)) := by simp only [bestN]; rw [if_pos, bx_in (by omega)]; rw [(b2i_n0 _).mp c18]; simp [hb]; omega
              refine r_iload_n (q := 41) (z := 2) C 2 rfl (by decide +kernel) rfl rfl ?_
              refine r_goto (off := 4) (tgt := 45) C (by decide +kernel) (by decide) ?_
              exact J45 _ ev
  exact L4 (σ.n + 1) 0 (by omega) (by omega)
end
section
/-! ===== layAll ===== -/
def bfr (σ : SG) (a b : Nat) : Prop := σ.rk b < σ.rk a ∨ (σ.rk a = σ.rk b ∧ a < b)
/-- the rides, the greater rank first, of one rank by numbers -/
def Srt (σ : SG) (L : List Nat) : Prop := L.Pairwise (bfr σ) ∧ ∀ r, r ∈ L ↔ r < σ.n
noncomputable def fstP (σ : SG) (r : Nat) : Nat := @Classical.epsilon Nat ⟨0⟩ (frst σ r)
theorem frst_one {σ : SG} {r q q' : Nat} (h : frst σ r q) (h' : frst σ r q') : q = q' := by
  rcases Nat.lt_trichotomy q q' with e | e | e
  · exact absurd (h.2.1 (by have := h'.1; omega)) (h'.2.2 q e)
  · exact e
  · exact absurd (h'.2.1 (by have := h.1; omega)) (h.2.2 q' e)
theorem fstP_eq {σ : SG} {r q : Nat} (h : frst σ r q) : fstP σ r = q := frst_one (@Classical.epsilon_spec_aux Nat ⟨0⟩ (frst σ r) ⟨q, h⟩) h
noncomputable def lay1 (σ : SG) (r : Nat) : SG := cif (σ.fit r (σ.rt r)) (σ.li_ (upN σ.li r (σ.rt r))) σ
noncomputable def lay2 (σ : SG) (r : Nat) : SG := σ.li_ (upN σ.li r (fstP σ r))
def ask1 (σ : SG) (r : Nat) : Bool := decide (¬ σ.li r < 240) && decide (σ.rt r < 240)
def ask2 (σ : SG) (r : Nat) : Bool := decide (¬ σ.li r < 240)
noncomputable def p1 (σ : SG) (L : List Nat) : SG := L.foldl (fun σ r => if ask1 σ r then lay1 σ r else σ) σ
noncomputable def p2 (σ : SG) (L : List Nat) : SG := L.foldl (fun σ r => if ask2 σ r then lay2 σ r else σ) σ
theorem lay1_form (σ : SG) (r : Nat) : lay1 σ r = σ.li_ (lay1 σ r).li ∧ ∀ q, q ≠ r → (lay1 σ r).li q = σ.li q := by
  unfold lay1
  by_cases e : σ.fit r (σ.rt r)
  · rw [cif_t e]; exact ⟨rfl, fun q hq => upN_n hq⟩
  · rw [cif_f e]; exact ⟨rfl, fun q hq => rfl⟩
theorem lay2_form (σ : SG) (r : Nat) : lay2 σ r = σ.li_ (lay2 σ r).li ∧ ∀ q, q ≠ r → (lay2 σ r).li q = σ.li q := ⟨rfl, fun q hq => upN_n hq⟩
theorem li_li (σ : SG) (f g : Nat → Nat) : (σ.li_ f).li_ g = σ.li_ g := rfl
theorem Srt.nd {σ : SG} : ∀ {L : List Nat}, L.Pairwise (bfr σ) → L.Nodup
  | [], _ => List.nodup_nil
  | a :: l, h => by
    rw [List.pairwise_cons] at h
    rw [List.nodup_cons]
    refine ⟨fun e => ?_, Srt.nd h.2⟩
    have := h.1 a e
    unfold bfr at this; omega
/-- a pass over those that are asked at its begin -/
theorem pass_eq {st : SG → Nat → SG} {as : SG → Nat → Bool} (hst : ∀ σ r, st σ r = σ.li_ (st σ r).li ∧ ∀ q, q ≠ r → (st σ r).li q = σ.li q) (has : ∀ (σ : SG) (f : Nat → Nat) (r : Nat), f r = σ.li r → as (σ.li_ f) r = as σ r) (σ : SG) :
    ∀ (L : List Nat) (σ2 : SG), L.Nodup → σ2 = σ.li_ σ2.li → (∀ r ∈ L, σ2.li r = σ.li r) → L.foldl (fun σ r => if as σ r then st σ r else σ) σ2 = (L.filter (as σ)).foldl st σ2
  | [], _, _, _, _ => rfl
  | a :: l, σ2, hn, hf, hl => by
    rw [List.nodup_cons] at hn
    have ea : as σ2 a = as σ a := by rw [hf]; exact has σ σ2.li a (hl a List.mem_cons_self)
    rw [List.foldl_cons, List.filter_cons, ea]
    cases e : as σ a with
    | true =>
      rw [if_pos rfl, if_pos rfl, List.foldl_cons]
      refine pass_eq hst has σ l (st σ2 a) hn.2 ?_ (fun r hr => ?_)
      · have e9 : ∀ X, σ2.li_ X = σ.li_ X := fun X => by rw [hf]; rfl
        exact (hst σ2 a).1.trans (e9 _)
      · rw [(hst σ2 a).2 r (fun e => hn.1 (e ▸ hr)), hl r (List.mem_cons_of_mem _ hr)]
    | false =>
      rw [if_neg (by decide), if_neg (by decide)]
      exact pass_eq hst has σ l σ2 hn.2 hf (fun r hr => hl r (List.mem_cons_of_mem _ hr))
theorem p1_eq {σ : SG} {L : List Nat} (h : Srt σ L) : p1 σ L = (L.filter (ask1 σ)).foldl lay1 σ := pass_eq lay1_form (fun σ f r e => by show (decide (¬ f r < 240) && decide (σ.rt r < 240)) = (decide (¬ σ.li r < 240) && decide (σ.rt r < 240)); rw [e]) σ L σ (Srt.nd h.1) rfl (fun _ _ => rfl)
theorem p2_eq {σ : SG} {L : List Nat} (h : Srt σ L) : p2 σ L = (L.filter (ask2 σ)).foldl lay2 σ := pass_eq lay2_form (fun σ f r e => by show decide (¬ f r < 240) = decide (¬ σ.li r < 240); rw [e]) σ L σ (Srt.nd h.1) rfl (fun _ _ => rfl)
def hd10 : List Nat → Nat
  | [] => 10
  | a :: _ => a
/-- of a sorted row the first is the best -/
theorem best_hd {σ : SG} {as : Nat → Bool} {l : List Nat} (hs : l.Pairwise (bfr σ)) (hn : σ.n ≤ 10) (hl : ∀ j, j < σ.n → (as j = true ↔ j ∈ l)) (hb : ∀ j ∈ l, j < σ.n) : bestN σ as σ.n = hd10 l := by
  have key : ∀ k, k ≤ σ.n → (bestN σ as k = 10 ∧ ∀ j, j < k → j ∉ l) ∨ (bestN σ as k < k ∧ bestN σ as k ∈ l ∧ ∀ j, j < k → j ∈ l → j = bestN σ as k ∨ bfr σ (bestN σ as k) j) := by
    intro k
    induction k with
    | zero => intro _; exact Or.inl ⟨rfl, fun j hj => absurd hj (Nat.not_lt_zero j)⟩
    | succ k ih =>
      intro hk
      have hk' := hl k (by omega)
      simp only [bestN]
      rcases ih (by omega) with ⟨e1, e2⟩ | ⟨e1, e2, e3⟩
      · by_cases ha : as k = true
        · rw [if_pos (by simp [ha, e1])]
          refine Or.inr ⟨by omega, hk'.mp ha, fun j hj hm => ?_⟩
          by_cases ej : j = k
          · exact Or.inl ej
          · exact absurd hm (e2 j (by omega))
        · rw [if_neg (by simp [ha])]
          refine Or.inl ⟨e1, fun j hj hm => ?_⟩
          by_cases ej : j = k
          · exact ha (hk'.mpr (ej ▸ hm))
          · exact e2 j (by omega) hm
      · by_cases ha : as k = true
        · by_cases hr : σ.rk (bestN σ as k) < σ.rk k
          · rw [if_pos (by simp [ha, hr])]
            refine Or.inr ⟨by omega, hk'.mp ha, fun j hj hm => ?_⟩
            by_cases ej : j = k
            · exact Or.inl ej
            · rcases e3 j (by omega) hm with e | e
              · subst e; exact Or.inr (Or.inl hr)
              · refine Or.inr (Or.inl ?_)
                rcases e with e | e <;> omega
          · rw [if_neg (by simp [hr]; omega)]
            refine Or.inr ⟨by omega, e2, fun j hj hm => ?_⟩
            by_cases ej : j = k
            · subst ej
              refine Or.inr ?_
              unfold bfr; omega
            · exact e3 j (by omega) hm
        · rw [if_neg (by simp [ha])]
          refine Or.inr ⟨by omega, e2, fun j hj hm => ?_⟩
          by_cases ej : j = k
          · exact absurd (hk'.mpr (ej ▸ hm)) ha
          · exact e3 j (by omega) hm
  cases l with
  | nil =>
    rcases key σ.n (Nat.le_refl _) with ⟨e1, -⟩ | ⟨-, e2, -⟩
    · exact e1
    · cases e2
  | cons a t =>
    rw [List.pairwise_cons] at hs
    have ha := hb a List.mem_cons_self
    rcases key σ.n (Nat.le_refl _) with ⟨-, e2⟩ | ⟨e1, e2, e3⟩
    · exact absurd List.mem_cons_self (e2 a ha)
    · rcases e3 a ha List.mem_cons_self with e | e
      · exact e.symm
      · rcases List.mem_cons.mp e2 with e4 | e4
        · exact e4
        · have := hs.1 _ e4
          unfold bfr at this e; omega
theorem WF.li_up {σ : SG} (h : WF σ) {r p : Nat} (hr : r < σ.n) (hp : p ≤ 240) (ho : p < 240 → σ.onG r p) : WF (σ.li_ (upN σ.li r p)) := by
  obtain ⟨h1, h2, h3, h4, h5, h6⟩ := h
  refine ⟨h1, h2, h3, fun q hq => ?_, fun q hq hl => ?_, h6⟩
  · obtain ⟨a, b, c⟩ := h4 q hq
    show upN σ.li r p q ≤ 240 ∧ σ.rt q ≤ 240 ∧ (σ.n ≤ q → upN σ.li r p q = 240 ∧ σ.rt q = 240)
    by_cases e : q = r
    · subst e; rw [upN_s]; exact ⟨hp, b, fun e => absurd e (by omega)⟩
    · rw [upN_n e]; exact ⟨a, b, c⟩
  · have hl' : upN σ.li r p q < 240 := hl
    show σ.onG q (upN σ.li r p q)
    by_cases e : q = r
    · subst e; rw [upN_s] at hl' ⊢; exact ho hl'
    · rw [upN_n e] at hl' ⊢; exact h5 q hq hl'
theorem WF.lay1 {σ : SG} (h : WF σ) {r : Nat} (hr : r < σ.n) : WF (lay1 σ r) := by
  show WF (cif (σ.fit r (σ.rt r)) (σ.li_ (upN σ.li r (σ.rt r))) σ)
  by_cases e : σ.fit r (σ.rt r)
  · rw [cif_t e]; exact h.li_up hr (h.2.2.2.1 r (by have := h.1; omega)).2.1 (fun _ => e.1.1)
  · rw [cif_f e]; exact h
theorem nxt_facts {σ : SG} {h h' : HP} {m : Nat} {as : Nat → Bool} (hm : LM h.kd h.gl h.fr m) (M : MR σ h m) (W : WF σ) (ha : Fl (h.ai (h.fr 488 m)) as σ.n) (e : (if bestN σ as σ.n < 10 then h.row (h.fr 488 m) (upd (h.ai (h.fr 488 m)) (bestN σ as σ.n) 0) else h) = h') :
    MR σ h' m ∧ Fm [488] [] h h' ∧ Fl (h'.ai (h'.fr 488 m)) (fun j => as j && decide (j ≠ bestN σ as σ.n)) σ.n := by
  subst e
  by_cases hb : bestN σ as σ.n < 10
  · rw [if_pos hb]
    refine ⟨M.row hm (by rw [hm.g488]; decide), Fm.row Fm.rf (by rw [hm.g488]; decide), fun j hj => ?_⟩
    rw [fr_row, ai_row_eq]
    show (if j = bestN σ as σ.n then (0 : Int32) else h.ai (h.fr 488 m) j) = _
    by_cases ej : j = bestN σ as σ.n
    · simp [ej, b2i]
    · simp [ej, ha j hj]
  · rw [if_neg hb]
    refine ⟨M, Fm.rf, fun j hj => ?_⟩
    rw [ha j hj]
    have : j ≠ bestN σ as σ.n := by have := W.1; omega
    simp [this]
theorem tail_flag {l : List Nat} {j : Nat} {b : Bool} (hnd : l.Nodup) (hm : b = true ↔ j ∈ l) : (b && decide (j ≠ hd10 l)) = decide (j ∈ l.tail) := by
  cases l with
  | nil =>
    have e : b = false := by
      cases b with
      | false => rfl
      | true => exact absurd (hm.mp rfl) List.not_mem_nil
    rw [e]; simp
  | cons a t =>
    rw [List.nodup_cons] at hnd
    show (b && decide (j ≠ a)) = decide (j ∈ t)
    by_cases ej : j = a
    · subst ej; simp [hnd.1]
    · have e : b = decide (j ∈ t) := by rw [Bool.eq_iff_iff, hm, List.mem_cons, decide_eq_true_eq]; exact ⟨fun e => e.resolve_left ej, Or.inr⟩
      rw [e]; simp [ej]

theorem c_X7_layAll {G : GT} {h : HP} {m : Nat} {σ : SG} {L : List Nat} (hm : LM h.kd h.gl h.fr m) (M : MR σ h m) (W : WF σ) (hL : Srt σ L) : Con G 9 0 0 yX7_layAll cX7_layAll 2 (some .int) [rv m] h (PI (fun v h' => nI (σ.n - lyN (p2 (p1 σ L) L) σ.n) = v ∧ MR (p2 (p1 σ L) L) h' m ∧ WF (p2 (p1 σ L) L) ∧ Fm [478, 486, 487, 488] [448] h h')) := by
  refine Con.of (lv := [some (rv m), none]) (by decide) (by simp only [lvE_r, lvE_i, lvE_l, lvE_s, lvE_0]; rfl) (by simp only [lgl_r, lgl_i, lgl_l, lgl_s, lgl_0]; decide) (fun Γ C R => ?_)
  generalize hPP : (PI (fun v h' => nI (σ.n - lyN (p2 (p1 σ L) L) σ.n) = v ∧ MR (p2 (p1 σ L) L) h' m ∧ WF (p2 (p1 σ L) L) ∧ Fm [478, 486, 487, 488] [448] h h')) = PP
  have r10 := W.n10
  have M1 : MR σ (h.setI 448 m 0) m := M.setI (by decide) (by decide) (by decide)
  refine r_aload_n (q := 1) (z := 0) C 0 rfl (by decide +kernel) rfl rfl ?_
  refine r_iconst (q := 2) (z := 0) (v := 0) C rfl (by decide +kernel) (by decide) ?_
  refine r_putI (q := 5) C 7 0 448 rfl (by decide +kernel) rfl (by decide) rfl rfl wf_X7_1 win7 tyX7 tyX7_ok nmX7 rfl (tyX7_ok 0 (by decide)) rfl wnd7 rfl rfl hm.1 ?_
  have L138 : ∀ (fuel138 : Nat) (h2 : HP) (σ2 : SG) (l : List Nat) (v : Int32), l.length < fuel138 → (Fm [478, 486, 487, 488] [448] h h2) → (MR σ2 h2 m) → (WF σ2) → (σ2 = σ.li_ σ2.li) → (l.Pairwise (bfr σ)) → (∀ j ∈ l, j < σ.n) → (∀ j ∈ l, ¬ σ2.li j < 240) → (Fl (h2.ai (h2.fr 488 m)) (fun j => decide (j ∈ l.tail)) σ.n) → (v = bx (hd10 l)) → (l.foldl lay2 σ2 = p2 (p1 σ L) L) → wX G Γ (qM G Γ PP 0 0) 0 0 (h2) 138 [some (rv m), some (.int v)] [] := by
    intro fuel138
    induction fuel138 with
    | zero =>
      intro h2 σ2 l v hm138
      exact absurd hm138 (Nat.not_lt_zero _)
    | succ fuel138 ih138 =>
      intro h2 σ2 l v hm138 F2 M2 W2 e2 hs hb hask hA hv hT
      have hm0 := hm
      have hm : LM h2.kd h2.gl h2.fr m := LM.fm F2 hm0
      have en : σ2.n = σ.n := by rw [e2]; rfl
      have erk : σ2.rk = σ.rk := by rw [e2]; rfl
      refine r_iload_n (q := 139) (z := 1) C 1 rfl (by decide +kernel) rfl rfl ?_
      refine r_if_lt (q := 142) (off := 22) (tgt := 161) C rfl (by decide +kernel) (by decide) (fun c139 => ?_) (fun c139 => ?_)
      · have hl0 : l = [] := by
          cases l with
          | nil => rfl
          | cons a t => rw [hv] at c139; exact absurd (bx_neg.mp c139) (by show ¬ ¬ a < 10; have := hb a List.mem_cons_self; have := W.1; omega)
        subst hl0
        have hσ : σ2 = p2 (p1 σ L) L := hT
        rw [hσ] at M2 W2 e2 en
        refine r_aload_n (q := 162) (z := 0) C 0 rfl (by decide +kernel) rfl rfl ?_
        refine r_getI (q := 165) C 7 24 472 rfl (by decide +kernel) rfl (by decide) rfl rfl wf_X7_243 win7 hm.1 ?_
        rw [M2.fn, en]
        refine r_aload_n (q := 166) (z := 0) C 0 rfl (by decide +kernel) rfl rfl ?_
        refine cV0I (q := 169) C R rfl (by decide +kernel) lk_X7_304 (c_X7_lying hm M2 W2) (by decide) (by decide) (by decide) rfl (by first | exact Nat.le_of_ble_eq_true rfl | (simp only [List.map_cons, List.map_nil, List.sum_cons, List.sum_nil, rv_cat]; exact Nat.le_of_ble_eq_true rfl)) rfl hm.1 ?_
        rintro _ _ ⟨rfl, rfl⟩
        rw [en]
        refine r_isub (q := 170) C rfl (by decide +kernel) ?_
        rw [pk_sub (by have := lyN_le (p2 (p1 σ L) L) σ.n; omega)]
        exact r_iret C (by decide +kernel) rfl (by decide) (by decide) (eqP hPP ⟨_, rfl, ⟨rfl, M2, W2, F2⟩⟩)
      · obtain ⟨a, t, rfl⟩ : ∃ a t, l = a :: t := by
          cases l with
          | nil => rw [hv] at c139; exact absurd (by decide) c139
          | cons a t => exact ⟨a, t, rfl⟩
        rw [List.pairwise_cons] at hs
        have hr : a < σ.n := hb a List.mem_cons_self
        have r10 := W.1
        have hva : v = nI a := hv.trans (bx_in (show a < 10 by omega))
        subst hva
        refine r_aload_n (q := 143) (z := 0) C 0 rfl (by decide +kernel) rfl rfl ?_
        refine r_getR (q := 146) C 7 30 478 rfl (by decide +kernel) rfl (by decide) rfl rfl wf_X7_103 win7 hm.1 ?_
        refine r_iload_n (q := 147) (z := 1) C 1 rfl (by decide +kernel) rfl rfl ?_
        refine r_aload_n (q := 148) (z := 0) C 0 rfl (by decide +kernel) rfl rfl ?_
        refine r_iload_n (q := 149) (z := 1) C 1 rfl (by decide +kernel) rfl rfl ?_
        refine cV1I (q := 152) C R rfl (by decide +kernel) lk_X7_329 (c_X7_firstPlace hm M2 W2 (by rw [en]; exact hr)) (by decide) (by decide) (by decide) rfl (by first | exact Nat.le_of_ble_eq_true rfl | (simp only [List.map_cons, List.map_nil, List.sum_cons, List.sum_nil, rv_cat]; exact Nat.le_of_ble_eq_true rfl)) rfl hm.1 ?_
        rintro _ _ ⟨q149, f149, g149, rfl, hq149, rfl⟩
        refine r_iast (q := 153) C rfl (by decide +kernel) rfl hm.k478 (vp_in_nI (by omega) (by decide)) ?_
        try simp only [fr_row]
        rw [stI_row, nI_clamp (by omega)]
        obtain ⟨σ3, h3⟩ : ∃ z, z = lay2 σ2 a := ⟨_, rfl⟩
        have h3f : σ3 = σ2.li_ (upN σ2.li a q149) := by rw [h3, lay2, fstP_eq hq149]
        have M3 := MR.li_up (h := scr h2 m f149 g149) (r := a) (p := q149) hm (M2.scr hm) rfl
        rw [← h3f] at M3
        have W3 : WF σ3 := by rw [h3f]; exact W2.li_up (by rw [en]; exact hr) hq149.1 (fun e => (hq149.2.1 e).1.1)
        have n3 : σ3.n = σ.n := by rw [h3f]; exact en
        have rk3 : σ3.rk = σ.rk := by rw [h3f]; exact erk
        have e9 : ∀ X, σ2.li_ X = σ.li_ X := fun X => by rw [e2]; rfl
        have e3 : σ3 = σ.li_ σ3.li := by rw [h3f]; exact e9 _
        have hli3 : ∀ j ∈ t, σ3.li j = σ2.li j := fun j hj => by rw [h3f]; exact upN_n (fun e => by have := hs.1 j hj; rw [e] at this; unfold bfr at this; omega)
        have hask3 : ∀ j ∈ t, ¬ σ3.li j < 240 := fun j hj => by rw [hli3 j hj]; exact hask j (List.mem_cons_of_mem _ hj)
        have hT3 : t.foldl lay2 σ3 = p2 (p1 σ L) L := by rw [h3]; exact hT
        have as154 : Fl (((scr h2 m f149 g149).row (h2.fr 478 m) (upd ((scr h2 m f149 g149).ai (h2.fr 478 m)) a (pl q149))).ai (((scr h2 m f149 g149).row (h2.fr 478 m) (upd ((scr h2 m f149 g149).ai (h2.fr 478 m)) a (pl q149))).fr 488 m)) (fun j => decide (j ∈ t)) σ3.n := by
          show Fl (((scr h2 m f149 g149).row (h2.fr 478 m) (upd ((scr h2 m f149 g149).ai (h2.fr 478 m)) a (pl q149))).ai (h2.fr 488 m)) _ _
          rw [ai_row_ne (gl_ne hm.g488 hm.g478 (by decide))]
          show Fl (((h2.row (h2.fr 486 m) _).row (h2.fr 487 m) _).ai (h2.fr 488 m)) _ _
          rw [ai_row_ne (gl_ne hm.g488 hm.g487 (by decide)), ai_row_ne (gl_ne hm.g488 hm.g486 (by decide)), n3]
          exact hA
        refine r_aload_n (q := 154) (z := 0) C 0 rfl (by decide +kernel) rfl rfl ?_
        refine cV0I (q := 157) C R rfl (by decide +kernel) lk_X7_326 (c_X7_nextAsked (as := fun j => decide (j ∈ t)) hm M3 W3 as154) (by decide) (by decide) (by decide) rfl (by first | exact Nat.le_of_ble_eq_true rfl | (simp only [List.map_cons, List.map_nil, List.sum_cons, List.sum_nil, rv_cat]; exact Nat.le_of_ble_eq_true rfl)) rfl hm.1 ?_
        rintro _ h154 ⟨rfl, n154⟩
        obtain ⟨M154, F154, A154⟩ := nxt_facts (h := (scr h2 m f149 g149).row (h2.fr 478 m) (upd ((scr h2 m f149 g149).ai (h2.fr 478 m)) a (pl q149))) hm M3 W3 as154 n154
        have hbest : bestN σ3 (fun j => decide (j ∈ t)) σ3.n = hd10 t := best_hd (by rw [show bfr σ3 = bfr σ by unfold bfr; rw [rk3]]; exact hs.2) W3.1 (fun j _ => by simp) (fun j hj => by rw [n3]; exact hb j (List.mem_cons_of_mem _ hj))
        have F154t : Fm [478, 486, 487, 488] [448] h h154 := by
          refine Fm.tr ?_ (F154.mono (by decide) (by decide))
          refine Fm.row (Fm.sc (F2) hm0 (by decide) (by decide)) ?_
          rw [F2.2.1, hm0.g478]; decide
        have hA3 : Fl (h154.ai (h154.fr 488 m)) (fun j => decide (j ∈ t.tail)) σ.n := fun j hj => by
          rw [A154 j (by rw [n3]; exact hj), hbest]
          exact congrArg b2i (tail_flag (Srt.nd hs.2) (by simp))
        have hv3 : bx (bestN σ3 (fun j => decide (j ∈ t)) σ3.n) = bx (hd10 t) := by rw [hbest]
        refine r_istore_n (q := 158) (z := 1) C 1 rfl (by decide +kernel) rfl (by decide) (by first | rfl | exact okst_rv rfl) ?_
        dsimp only [List.set]
        refine r_goto (off := -20) (tgt := 138) C (by decide +kernel) (by decide) ?_
        exact ih138 h154 σ3 t _ (by simp at hm138 ⊢; omega) F154t M154 W3 e3 hs.2 (fun j hj => hb j (List.mem_cons_of_mem _ hj)) hask3 hA3 hv3 hT3
  have L99 : ∀ (fuel99 : Nat) (h2 : HP) (k : Nat), σ.n - k < fuel99 → (Fm [478, 486, 487, 488] [448] h h2) → (MR (p1 σ L) h2 m) → (WF (p1 σ L)) → (p1 σ L = σ.li_ (p1 σ L).li) → (k ≤ σ.n) → wX G Γ (qM G Γ PP 0 0) 0 0 (h2.row (h2.fr 488 m) (mix (fun r => b2i (ask2 (p1 σ L) r)) (h2.ai (h2.fr 488 m)) k)) 99 [some (rv m), some (.int (nI k))] [] := by
    intro fuel99
    induction fuel99 with
    | zero =>
      intro h2 k hm99
      exact absurd hm99 (Nat.not_lt_zero _)
    | succ fuel99 ih99 =>
      intro h2 k hm99 F2 M2 W2 e2 hk
      have hm0 := hm
      have hm : LM h2.kd h2.gl h2.fr m := LM.fm F2 hm0
      have en : (p1 σ L).n = σ.n := by rw [e2]; rfl
      have erk : (p1 σ L).rk = σ.rk := by rw [e2]; rfl
      have r10 := W.1
      have M9r : MR (p1 σ L) (h2.row (h2.fr 488 m) (mix (fun r => b2i (ask2 (p1 σ L) r)) (h2.ai (h2.fr 488 m)) k)) m := M2.row hm (by rw [hm.g488]; decide)
      refine r_iload_n (q := 100) (z := 1) C 1 rfl (by decide +kernel) rfl rfl ?_
      refine r_aload_n (q := 101) (z := 0) C 0 rfl (by decide +kernel) rfl rfl ?_
      refine r_getI (q := 104) C 7 24 472 rfl (by decide +kernel) rfl (by decide) rfl rfl wf_X7_243 win7 hm.1 ?_
      rw [fi_row, M2.fn, en]
      refine r_icmp_ge (q := 107) (off := 29) (tgt := 133) C rfl (by decide +kernel) (by decide) (fun c104 => ?_) (fun c104 => ?_)
      · have ek : k = σ.n := by have := (nI_leI (by omega) (by omega)).mp c104; omega
        subst ek
        refine r_aload_n (q := 134) (z := 0) C 0 rfl (by decide +kernel) rfl rfl ?_
        refine cV0I (q := 137) C R rfl (by decide +kernel) lk_X7_326 (c_X7_nextAsked hm M9r W2 (fun j hj => by rw [fr_row, ai_row_eq, mix_in (by rw [← en]; exact hj)])) (by decide) (by decide) (by decide) rfl (by first | exact Nat.le_of_ble_eq_true rfl | (simp only [List.map_cons, List.map_nil, List.sum_cons, List.sum_nil, rv_cat]; exact Nat.le_of_ble_eq_true rfl)) rfl hm.1 ?_
        rintro _ h134 ⟨rfl, n134⟩
        obtain ⟨M134, F134, A134⟩ := nxt_facts (h := h2.row (h2.fr 488 m) _) hm M9r W2 (fun j hj => by rw [fr_row, ai_row_eq, mix_in (by rw [← en]; exact hj)]) n134
        have ebf : bfr (p1 σ L) = bfr σ := by unfold bfr; rw [erk]
        have hbest : bestN (p1 σ L) (ask2 (p1 σ L)) (p1 σ L).n = hd10 (L.filter (ask2 (p1 σ L))) := best_hd (by rw [ebf]; exact hL.1.filter _) W2.1 (fun j hj => by rw [List.mem_filter, hL.2]; exact ⟨fun e => ⟨by rw [← en]; exact hj, e⟩, fun e => e.2⟩) (fun j hj => by rw [en]; exact (hL.2 j).mp (List.mem_filter.mp hj).1)
        have F134t : Fm [478, 486, 487, 488] [448] h h134 := Fm.tr (Fm.row F2 (by rw [F2.2.1, hm0.g488]; decide)) (F134.mono (by decide) (by decide))
        have hask0 : ∀ j ∈ L.filter (ask2 (p1 σ L)), ¬ (p1 σ L).li j < 240 := fun j hj => by have := (List.mem_filter.mp hj).2; simp only [ask2, decide_eq_true_eq] at this; exact this
        have hnd := Srt.nd (hL.1.filter (ask2 (p1 σ L)))
        have hA0 : Fl (h134.ai (h134.fr 488 m)) (fun j => decide (j ∈ (L.filter (ask2 (p1 σ L))).tail)) σ.n := fun j hj => by
          rw [A134 j (by rw [en]; exact hj), hbest]
          have hmem : ask2 (p1 σ L) j = true ↔ j ∈ L.filter (ask2 (p1 σ L)) := by rw [List.mem_filter, hL.2]; exact ⟨fun e => ⟨hj, e⟩, fun e => e.2⟩
          exact congrArg b2i (tail_flag hnd hmem)
        have hv0 : bx (bestN (p1 σ L) (ask2 (p1 σ L)) (p1 σ L).n) = bx (hd10 (L.filter (ask2 (p1 σ L)))) := by rw [hbest]
        have hT0 : (L.filter (ask2 (p1 σ L))).foldl lay2 (p1 σ L) = p2 (p1 σ L) L := (p2_eq ⟨by rw [ebf]; exact hL.1, fun r => by rw [en]; exact hL.2 r⟩).symm
        refine r_istore_n (q := 138) (z := 1) C 1 rfl (by decide +kernel) rfl (by decide) (by first | rfl | exact okst_rv rfl) ?_
        dsimp only [List.set]
        exact L138 ((L.filter (ask2 (p1 σ L))).length + 1) h134 (p1 σ L) (L.filter (ask2 (p1 σ L))) _ (by omega) F134t M134 W2 e2 (hL.1.filter _) (fun j hj => (hL.2 j).mp (List.mem_filter.mp hj).1) hask0 hA0 hv0 hT0
      · have hlt : k < σ.n := Nat.lt_of_not_le (fun e => c104 (nI_le e (by omega)))
        refine r_aload_n (q := 108) (z := 0) C 0 rfl (by decide +kernel) rfl rfl ?_
        refine r_getR (q := 111) C 7 40 488 rfl (by decide +kernel) rfl (by decide) rfl rfl wf_X7_127 win7 hm.1 ?_
        refine r_iload_n (q := 112) (z := 1) C 1 rfl (by decide +kernel) rfl rfl ?_
        refine r_aload_n (q := 113) (z := 0) C 0 rfl (by decide +kernel) rfl rfl ?_
        refine r_getR (q := 116) C 7 30 478 rfl (by decide +kernel) rfl (by decide) rfl rfl wf_X7_103 win7 hm.1 ?_
        refine r_iload_n (q := 117) (z := 1) C 1 rfl (by decide +kernel) rfl rfl ?_
        refine r_iald (q := 118) C rfl (by decide +kernel) hm.k478 (vp_in_nI (by omega) (by decide)) ?_
        rw [nI_clamp (by omega), M9r.ali (by omega)]
        refine r_if_ge (q := 121) (off := 7) (tgt := 125) C rfl (by decide +kernel) (by decide) (fun c118 => ?_) (fun c118 => ?_)
        · have ev : b2i (ask2 (p1 σ L) k) = 0 := by simp [ask2, pl_le.mp c118, b2i]
          refine r_iconst (q := 126) (z := 0) (v := b2i (ask2 (p1 σ L) k)) C rfl (by decide +kernel) (by rw [ev]; decide) ?_
          refine r_zast (q := 127) C rfl (by decide +kernel) (by first | exact b2i_vn _ | rfl) hm.k488 (vp_in_nI (by omega) (by decide)) ?_
          try simp only [fr_row]
          rw [row_stI, nI_clamp (by omega), mix_s (fun r => b2i (ask2 (p1 σ L) r))]
          refine r_iinc (q := 130) (z := 1) (v := 1) C 1 rfl (by decide +kernel) rfl (by decide) (by decide) (by first | rfl | exact okst_rv rfl) ?_
          dsimp only [List.set]
          rw [nI_1]
          refine r_goto (off := -31) (tgt := 99) C (by decide +kernel) (by decide) ?_
          exact ih99 h2 (k + 1) (by omega) F2 M2 W2 e2 (by omega)
        · have ev : b2i (ask2 (p1 σ L) k) = 1 := by simp [ask2, mt pl_le.mpr c118, b2i]
          refine r_iconst (q := 122) (z := 1) (v := b2i (ask2 (p1 σ L) k)) C rfl (by decide +kernel) (by rw [ev]; decide) ?_
          refine r_goto (off := 4) (tgt := 126) C (by decide +kernel) (by decide) ?_
          refine r_zast (q := 127) C rfl (by decide +kernel) (by first | exact b2i_vn _ | rfl) hm.k488 (vp_in_nI (by omega) (by decide)) ?_
          try simp only [fr_row]
          rw [row_stI, nI_clamp (by omega), mix_s (fun r => b2i (ask2 (p1 σ L) r))]
          refine r_iinc (q := 130) (z := 1) (v := 1) C 1 rfl (by decide +kernel) rfl (by decide) (by decide) (by first | rfl | exact okst_rv rfl) ?_
          dsimp only [List.set]
          rw [nI_1]
          refine r_goto (off := -31) (tgt := 99) C (by decide +kernel) (by decide) ?_
          exact ih99 h2 (k + 1) (by omega) F2 M2 W2 e2 (by omega)
  have L55 : ∀ (fuel55 : Nat) (h2 : HP) (σ2 : SG) (l : List Nat) (v : Int32), l.length < fuel55 → (Fm [478, 486, 487, 488] [448] h h2) → (MR σ2 h2 m) → (WF σ2) → (σ2 = σ.li_ σ2.li) → (l.Pairwise (bfr σ)) → (∀ j ∈ l, j < σ.n) → (∀ j ∈ l, ¬ σ2.li j < 240 ∧ σ.rt j < 240) → (Fl (h2.ai (h2.fr 488 m)) (fun j => decide (j ∈ l.tail)) σ.n) → (v = bx (hd10 l)) → (l.foldl lay1 σ2 = p1 σ L) → wX G Γ (qM G Γ PP 0 0) 0 0 (h2) 55 [some (rv m), some (.int v)] [] := by
    intro fuel55
    induction fuel55 with
    | zero =>
      intro h2 σ2 l v hm55
      exact absurd hm55 (Nat.not_lt_zero _)
    | succ fuel55 ih55 =>
      intro h2 σ2 l v hm55 F2 M2 W2 e2 hs hb hask hA hv hT
      have hm0 := hm
      have hm : LM h2.kd h2.gl h2.fr m := LM.fm F2 hm0
      have en : σ2.n = σ.n := by rw [e2]; rfl
      have erk : σ2.rk = σ.rk := by rw [e2]; rfl
      refine r_iload_n (q := 56) (z := 1) C 1 rfl (by decide +kernel) rfl rfl ?_
      refine r_if_lt (q := 59) (off := 41) (tgt := 97) C rfl (by decide +kernel) (by decide) (fun c56 => ?_) (fun c56 => ?_)
      · have hl0 : l = [] := by
          cases l with
          | nil => rfl
          | cons a t => rw [hv] at c56; exact absurd (bx_neg.mp c56) (by show ¬ ¬ a < 10; have := hb a List.mem_cons_self; have := W.1; omega)
        subst hl0
        have hσ : σ2 = p1 σ L := hT
        rw [hσ] at M2 W2 e2
        refine r_iconst (q := 98) (z := 0) (v := 0) C rfl (by decide +kernel) (by decide) ?_
        refine r_istore_n (q := 99) (z := 1) C 1 rfl (by decide +kernel) rfl (by decide) (by first | rfl | exact okst_rv rfl) ?_
        dsimp only [List.set]
        have z0 := L99 (σ.n + 1) h2 0 (by omega) F2 M2 W2 e2 (by omega)
        rw [mix_0, row_self] at z0
        exact z0
      · obtain ⟨a, t, rfl⟩ : ∃ a t, l = a :: t := by
          cases l with
          | nil => rw [hv] at c56; exact absurd (by decide) c56
          | cons a t => exact ⟨a, t, rfl⟩
        rw [List.pairwise_cons] at hs
        have hr : a < σ.n := hb a List.mem_cons_self
        have r10 := W.1
        have hva : v = nI a := hv.trans (bx_in (show a < 10 by omega))
        subst hva
        refine r_aload_n (q := 60) (z := 0) C 0 rfl (by decide +kernel) rfl rfl ?_
        refine r_getR (q := 63) C 7 30 478 rfl (by decide +kernel) rfl (by decide) rfl rfl wf_X7_103 win7 hm.1 ?_
        refine r_iload_n (q := 64) (z := 1) C 1 rfl (by decide +kernel) rfl rfl ?_
        refine r_aload_n (q := 65) (z := 0) C 0 rfl (by decide +kernel) rfl rfl ?_
        refine r_iload_n (q := 66) (z := 1) C 1 rfl (by decide +kernel) rfl rfl ?_
        refine r_aload_n (q := 67) (z := 0) C 0 rfl (by decide +kernel) rfl rfl ?_
        refine r_getR (q := 70) C 7 31 479 rfl (by decide +kernel) rfl (by decide) rfl rfl wf_X7_106 win7 hm.1 ?_
        refine r_iload_n (q := 71) (z := 1) C 1 rfl (by decide +kernel) rfl rfl ?_
        refine r_iald (q := 72) C rfl (by decide +kernel) hm.k479 (vp_in_nI (by omega) (by decide)) ?_
        rw [nI_clamp (by omega), M2.art (by omega)]
        have hrt : σ2.rt a = σ.rt a := by rw [e2]; rfl
        rw [hrt, pl_in (hask a List.mem_cons_self).2]
        refine cV2I (q := 75) C R rfl (by decide +kernel) lk_X7_323 (c_X7_fitsAt hm M2 W2 (by rw [en]; exact hr) (hask a List.mem_cons_self).2) (by decide) (by decide) (by decide) rfl (by first | exact Nat.le_of_ble_eq_true rfl | (simp only [List.map_cons, List.map_nil, List.sum_cons, List.sum_nil, rv_cat]; exact Nat.le_of_ble_eq_true rfl)) rfl hm.1 ?_
        rintro _ _ ⟨t72, f72, g72, rfl, ht72, rfl⟩
        refine r_if_eq (q := 78) (off := 12) (tgt := 87) C rfl (by decide +kernel) (by decide) (fun c75 => ?_) (fun c75 => ?_)
        · have hfit : ¬ σ2.fit a (σ2.rt a) := fun e => by rw [hrt] at e; have := ht72.mpr e; rw [(b2i_0 _).mp c75] at this; cases this
          obtain ⟨σ3, h3⟩ : ∃ z, z = lay1 σ2 a := ⟨_, rfl⟩
          have h3f : σ3 = σ2.li_ (upN σ2.li a 240) := by rw [h3, lay1, cif_f hfit, show (240 : Nat) = σ2.li a from by have h9 := (W2.2.2.2.1 a (by omega)).1; have h8 := (hask a List.mem_cons_self).1; omega, upN_self]; rfl
          obtain ⟨vv, hvv⟩ : ∃ z : Int32, z = -1 := ⟨_, rfl⟩
          have hpv : vv = pl 240 := hvv
          have W3 : WF σ3 := by rw [h3]; exact WF.lay1 W2 (by rw [en]; exact hr)
          refine r_iconst (q := 88) (z := (-1)) (v := vv) C rfl (by decide +kernel) (by rw [hvv]; decide) ?_
          refine r_iast (q := 89) C rfl (by decide +kernel) rfl hm.k478 (vp_in_nI (by omega) (by decide)) ?_
          try simp only [fr_row]
          rw [stI_row, nI_clamp (by omega)]
          have M3 := MR.li_up (h := scr h2 m f72 g72) (r := a) hm (M2.scr hm) hpv
          rw [← h3f] at M3
          have n3 : σ3.n = σ.n := by rw [h3f]; exact en
          have rk3 : σ3.rk = σ.rk := by rw [h3f]; exact erk
          have e9 : ∀ X, σ2.li_ X = σ.li_ X := fun X => by rw [e2]; rfl
          have e3 : σ3 = σ.li_ σ3.li := by rw [h3f]; exact e9 _
          have hli3 : ∀ j ∈ t, σ3.li j = σ2.li j := fun j hj => by rw [h3f]; exact upN_n (fun e => by have := hs.1 j hj; rw [e] at this; unfold bfr at this; omega)
          have hask3 : ∀ j ∈ t, ¬ σ3.li j < 240 ∧ σ.rt j < 240 := fun j hj => by rw [hli3 j hj]; exact hask j (List.mem_cons_of_mem _ hj)
          have hT3 : t.foldl lay1 σ3 = p1 σ L := by rw [h3]; exact hT
          have as90 : Fl (((scr h2 m f72 g72).row (h2.fr 478 m) (upd ((scr h2 m f72 g72).ai (h2.fr 478 m)) a vv)).ai (((scr h2 m f72 g72).row (h2.fr 478 m) (upd ((scr h2 m f72 g72).ai (h2.fr 478 m)) a vv)).fr 488 m)) (fun j => decide (j ∈ t)) σ3.n := by
            show Fl (((scr h2 m f72 g72).row (h2.fr 478 m) (upd ((scr h2 m f72 g72).ai (h2.fr 478 m)) a vv)).ai (h2.fr 488 m)) _ _
            rw [ai_row_ne (gl_ne hm.g488 hm.g478 (by decide))]
            show Fl (((h2.row (h2.fr 486 m) _).row (h2.fr 487 m) _).ai (h2.fr 488 m)) _ _
            rw [ai_row_ne (gl_ne hm.g488 hm.g487 (by decide)), ai_row_ne (gl_ne hm.g488 hm.g486 (by decide)), n3]
            exact hA
          refine r_aload_n (q := 90) (z := 0) C 0 rfl (by decide +kernel) rfl rfl ?_
          refine cV0I (q := 93) C R rfl (by decide +kernel) lk_X7_326 (c_X7_nextAsked (as := fun j => decide (j ∈ t)) hm M3 W3 as90) (by decide) (by decide) (by decide) rfl (by first | exact Nat.le_of_ble_eq_true rfl | (simp only [List.map_cons, List.map_nil, List.sum_cons, List.sum_nil, rv_cat]; exact Nat.le_of_ble_eq_true rfl)) rfl hm.1 ?_
          rintro _ h90 ⟨rfl, n90⟩
          obtain ⟨M90, F90, A90⟩ := nxt_facts (h := (scr h2 m f72 g72).row (h2.fr 478 m) (upd ((scr h2 m f72 g72).ai (h2.fr 478 m)) a vv)) hm M3 W3 as90 n90
          have hbest : bestN σ3 (fun j => decide (j ∈ t)) σ3.n = hd10 t := best_hd (by rw [show bfr σ3 = bfr σ by unfold bfr; rw [rk3]]; exact hs.2) W3.1 (fun j _ => by simp) (fun j hj => by rw [n3]; exact hb j (List.mem_cons_of_mem _ hj))
          have F90t : Fm [478, 486, 487, 488] [448] h h90 := by
            refine Fm.tr ?_ (F90.mono (by decide) (by decide))
            refine Fm.row (Fm.sc (F2) hm0 (by decide) (by decide)) ?_
            rw [F2.2.1, hm0.g478]; decide
          have hA3 : Fl (h90.ai (h90.fr 488 m)) (fun j => decide (j ∈ t.tail)) σ.n := fun j hj => by
            rw [A90 j (by rw [n3]; exact hj), hbest]
            exact congrArg b2i (tail_flag (Srt.nd hs.2) (by simp))
          have hv3 : bx (bestN σ3 (fun j => decide (j ∈ t)) σ3.n) = bx (hd10 t) := by rw [hbest]
          refine r_istore_n (q := 94) (z := 1) C 1 rfl (by decide +kernel) rfl (by decide) (by first | rfl | exact okst_rv rfl) ?_
          dsimp only [List.set]
          refine r_goto (off := -39) (tgt := 55) C (by decide +kernel) (by decide) ?_
          exact ih55 h90 σ3 t _ (by simp at hm55 ⊢; omega) F90t M90 W3 e3 hs.2 (fun j hj => hb j (List.mem_cons_of_mem _ hj)) hask3 hA3 hv3 hT3
        · have hfit : σ2.fit a (σ2.rt a) := by rw [hrt]; exact ht72.mp ((b2i_n0 _).mp c75)
          obtain ⟨σ3, h3⟩ : ∃ z, z = lay1 σ2 a := ⟨_, rfl⟩
          have h3f : σ3 = σ2.li_ (upN σ2.li a (σ.rt a)) := by rw [h3, lay1, cif_t hfit, hrt]
          obtain ⟨vv, hvv⟩ : ∃ z : Int32, z = nI (σ.rt a) := ⟨_, rfl⟩
          have hpv : vv = pl (σ.rt a) := hvv.trans (pl_in (hask a List.mem_cons_self).2).symm
          have W3 : WF σ3 := by rw [h3]; exact WF.lay1 W2 (by rw [en]; exact hr)
          refine r_aload_n (q := 79) (z := 0) C 0 rfl (by decide +kernel) rfl rfl ?_
          refine r_getR (q := 82) C 7 31 479 rfl (by decide +kernel) rfl (by decide) rfl rfl wf_X7_106 win7 hm.1 ?_
          refine r_iload_n (q := 83) (z := 1) C 1 rfl (by decide +kernel) rfl rfl ?_
          refine r_iald (q := 84) C rfl (by decide +kernel) hm.k479 (vp_in_nI (by omega) (by decide)) ?_
          rw [nI_clamp (by omega), (M2.scr hm).art (by omega), hrt, pl_in (hask a List.mem_cons_self).2, ← hvv]
          refine r_goto (off := 4) (tgt := 88) C (by decide +kernel) (by decide) ?_
          refine r_iast (q := 89) C rfl (by decide +kernel) rfl hm.k478 (vp_in_nI (by omega) (by decide)) ?_
          try simp only [fr_row]
          rw [stI_row, nI_clamp (by omega)]
          have M3 := MR.li_up (h := scr h2 m f72 g72) (r := a) hm (M2.scr hm) hpv
          rw [← h3f] at M3
          have n3 : σ3.n = σ.n := by rw [h3f]; exact en
          have rk3 : σ3.rk = σ.rk := by rw [h3f]; exact erk
          have e9 : ∀ X, σ2.li_ X = σ.li_ X := fun X => by rw [e2]; rfl
          have e3 : σ3 = σ.li_ σ3.li := by rw [h3f]; exact e9 _
          have hli3 : ∀ j ∈ t, σ3.li j = σ2.li j := fun j hj => by rw [h3f]; exact upN_n (fun e => by have := hs.1 j hj; rw [e] at this; unfold bfr at this; omega)
          have hask3 : ∀ j ∈ t, ¬ σ3.li j < 240 ∧ σ.rt j < 240 := fun j hj => by rw [hli3 j hj]; exact hask j (List.mem_cons_of_mem _ hj)
          have hT3 : t.foldl lay1 σ3 = p1 σ L := by rw [h3]; exact hT
          have as90 : Fl (((scr h2 m f72 g72).row (h2.fr 478 m) (upd ((scr h2 m f72 g72).ai (h2.fr 478 m)) a vv)).ai (((scr h2 m f72 g72).row (h2.fr 478 m) (upd ((scr h2 m f72 g72).ai (h2.fr 478 m)) a vv)).fr 488 m)) (fun j => decide (j ∈ t)) σ3.n := by
            show Fl (((scr h2 m f72 g72).row (h2.fr 478 m) (upd ((scr h2 m f72 g72).ai (h2.fr 478 m)) a vv)).ai (h2.fr 488 m)) _ _
            rw [ai_row_ne (gl_ne hm.g488 hm.g478 (by decide))]
            show Fl (((h2.row (h2.fr 486 m) _).row (h2.fr 487 m) _).ai (h2.fr 488 m)) _ _
            rw [ai_row_ne (gl_ne hm.g488 hm.g487 (by decide)), ai_row_ne (gl_ne hm.g488 hm.g486 (by decide)), n3]
            exact hA
          refine r_aload_n (q := 90) (z := 0) C 0 rfl (by decide +kernel) rfl rfl ?_
          refine cV0I (q := 93) C R rfl (by decide +kernel) lk_X7_326 (c_X7_nextAsked (as := fun j => decide (j ∈ t)) hm M3 W3 as90) (by decide) (by decide) (by decide) rfl (by first | exact Nat.le_of_ble_eq_true rfl | (simp only [List.map_cons, List.map_nil, List.sum_cons, List.sum_nil, rv_cat]; exact Nat.le_of_ble_eq_true rfl)) rfl hm.1 ?_
          rintro _ h90 ⟨rfl, n90⟩
          obtain ⟨M90, F90, A90⟩ := nxt_facts (h := (scr h2 m f72 g72).row (h2.fr 478 m) (upd ((scr h2 m f72 g72).ai (h2.fr 478 m)) a vv)) hm M3 W3 as90 n90
          have hbest : bestN σ3 (fun j => decide (j ∈ t)) σ3.n = hd10 t := best_hd (by rw [show bfr σ3 = bfr σ by unfold bfr; rw [rk3]]; exact hs.2) W3.1 (fun j _ => by simp) (fun j hj => by rw [n3]; exact hb j (List.mem_cons_of_mem _ hj))
          have F90t : Fm [478, 486, 487, 488] [448] h h90 := by
            refine Fm.tr ?_ (F90.mono (by decide) (by decide))
            refine Fm.row (Fm.sc (F2) hm0 (by decide) (by decide)) ?_
            rw [F2.2.1, hm0.g478]; decide
          have hA3 : Fl (h90.ai (h90.fr 488 m)) (fun j => decide (j ∈ t.tail)) σ.n := fun j hj => by
            rw [A90 j (by rw [n3]; exact hj), hbest]
            exact congrArg b2i (tail_flag (Srt.nd hs.2) (by simp))
          have hv3 : bx (bestN σ3 (fun j => decide (j ∈ t)) σ3.n) = bx (hd10 t) := by rw [hbest]
          refine r_istore_n (q := 94) (z := 1) C 1 rfl (by decide +kernel) rfl (by decide) (by first | rfl | exact okst_rv rfl) ?_
          dsimp only [List.set]
          refine r_goto (off := -39) (tgt := 55) C (by decide +kernel) (by decide) ?_
          exact ih55 h90 σ3 t _ (by simp at hm55 ⊢; omega) F90t M90 W3 e3 hs.2 (fun j hj => hb j (List.mem_cons_of_mem _ hj)) hask3 hA3 hv3 hT3
  refine r_iconst (q := 6) (z := 0) (v := 0) C rfl (by decide +kernel) (by decide) ?_
  refine r_istore_n (q := 7) (z := 1) C 1 rfl (by decide +kernel) rfl (by decide) (by first | rfl | exact okst_rv rfl) ?_
  dsimp only [List.set]
  have L7 : ∀ (fuel7 : Nat) (k : Nat), σ.n - k < fuel7 → (k ≤ σ.n) → wX G Γ (qM G Γ PP 0 0) 0 0 ((h.setI 448 m 0).row (h.fr 488 m) (mix (fun r => b2i (ask1 σ r)) (h.ai (h.fr 488 m)) k)) 7 [some (rv m), some (.int (nI k))] [] := by
    intro fuel7
    induction fuel7 with
    | zero =>
      intro k hm7
      exact absurd hm7 (Nat.not_lt_zero _)
    | succ fuel7 ih7 =>
      intro k hm7 hk
      have M7 : MR σ ((h.setI 448 m 0).row (h.fr 488 m) (mix (fun r => b2i (ask1 σ r)) (h.ai (h.fr 488 m)) k)) m := MR.row (h := h.setI 448 m 0) hm M1 (by show h.gl (h.fr 488 m) ∉ _; rw [hm.g488]; decide)
      refine r_iload_n (q := 8) (z := 1) C 1 rfl (by decide +kernel) rfl rfl ?_
      refine r_aload_n (q := 9) (z := 0) C 0 rfl (by decide +kernel) rfl rfl ?_
      refine r_getI (q := 12) C 7 24 472 rfl (by decide +kernel) rfl (by decide) rfl rfl wf_X7_243 win7 hm.1 ?_
      rw [fi_row, M1.fn]
      refine r_icmp_ge (q := 15) (off := 38) (tgt := 50) C rfl (by decide +kernel) (by decide) (fun c12 => ?_) (fun c12 => ?_)
      · have ek : k = σ.n := by have := (nI_leI (by omega) (by omega)).mp c12; omega
        subst ek
        refine r_aload_n (q := 51) (z := 0) C 0 rfl (by decide +kernel) rfl rfl ?_
        refine cV0I (q := 54) C R rfl (by decide +kernel) lk_X7_326 (c_X7_nextAsked hm M7 W (fun j hj => by rw [fr_row, fr_setI, ai_row_eq, mix_in hj])) (by decide) (by decide) (by decide) rfl (by first | exact Nat.le_of_ble_eq_true rfl | (simp only [List.map_cons, List.map_nil, List.sum_cons, List.sum_nil, rv_cat]; exact Nat.le_of_ble_eq_true rfl)) rfl hm.1 ?_
        rintro _ h51 ⟨rfl, n51⟩
        obtain ⟨M51, F51, A51⟩ := nxt_facts (h := (h.setI 448 m 0).row (h.fr 488 m) _) hm M7 W (fun j hj => by rw [fr_row, fr_setI, ai_row_eq, mix_in hj]) n51
        have hbest : bestN σ (ask1 σ) σ.n = hd10 (L.filter (ask1 σ)) := best_hd (hL.1.filter _) W.1 (fun j hj => by rw [List.mem_filter, hL.2]; exact ⟨fun e => ⟨hj, e⟩, fun e => e.2⟩) (fun j hj => (hL.2 j).mp (List.mem_filter.mp hj).1)
        have F51t : Fm [478, 486, 487, 488] [448] h h51 := Fm.tr (Fm.row (Fm.rf.setI (by decide)) (by rw [hm.g488]; decide)) (F51.mono (by decide) (by decide))
        have hask0 : ∀ j ∈ L.filter (ask1 σ), ¬ σ.li j < 240 ∧ σ.rt j < 240 := fun j hj => by have := (List.mem_filter.mp hj).2; simp only [ask1, Bool.and_eq_true, decide_eq_true_eq] at this; exact this
        have hnd := Srt.nd (hL.1.filter (ask1 σ))
        have hA0 : Fl (h51.ai (h51.fr 488 m)) (fun j => decide (j ∈ (L.filter (ask1 σ)).tail)) σ.n := fun j hj => by
          rw [A51 j hj, hbest]
          have hmem : ask1 σ j = true ↔ j ∈ L.filter (ask1 σ) := by rw [List.mem_filter, hL.2]; exact ⟨fun e => ⟨hj, e⟩, fun e => e.2⟩
          exact congrArg b2i (tail_flag hnd hmem)
        have hv0 : bx (bestN σ (ask1 σ) σ.n) = bx (hd10 (L.filter (ask1 σ))) := by rw [hbest]
        refine r_istore_n (q := 55) (z := 1) C 1 rfl (by decide +kernel) rfl (by decide) (by first | rfl | exact okst_rv rfl) ?_
        dsimp only [List.set]
        exact L55 ((L.filter (ask1 σ)).length + 1) h51 σ (L.filter (ask1 σ)) _ (by omega) F51t M51 W rfl (hL.1.filter _) (fun j hj => (hL.2 j).mp (List.mem_filter.mp hj).1) hask0 hA0 hv0 (p1_eq hL).symm
      · have hlt : k < σ.n := Nat.lt_of_not_le (fun e => c12 (nI_le e (by omega)))
        refine r_aload_n (q := 16) (z := 0) C 0 rfl (by decide +kernel) rfl rfl ?_
        refine r_getR (q := 19) C 7 40 488 rfl (by decide +kernel) rfl (by decide) rfl rfl wf_X7_127 win7 hm.1 ?_
        refine r_iload_n (q := 20) (z := 1) C 1 rfl (by decide +kernel) rfl rfl ?_
        refine r_aload_n (q := 21) (z := 0) C 0 rfl (by decide +kernel) rfl rfl ?_
        refine r_getR (q := 24) C 7 30 478 rfl (by decide +kernel) rfl (by decide) rfl rfl wf_X7_103 win7 hm.1 ?_
        refine r_iload_n (q := 25) (z := 1) C 1 rfl (by decide +kernel) rfl rfl ?_
        refine r_iald (q := 26) C rfl (by decide +kernel) hm.k478 (vp_in_nI (by omega) (by decide)) ?_
        rw [nI_clamp (by omega), M7.ali (by omega)]
        refine r_if_ge (q := 29) (off := 16) (tgt := 42) C rfl (by decide +kernel) (by decide) (fun c26 => ?_) (fun c26 => ?_)
        · have ev : b2i (ask1 σ k) = 0 := by simp [ask1, pl_le.mp c26, b2i]
          refine r_iconst (q := 43) (z := 0) (v := b2i (ask1 σ k)) C rfl (by decide +kernel) (by rw [ev]; decide) ?_
          refine r_zast (q := 44) C rfl (by decide +kernel) (by first | exact b2i_vn _ | rfl) hm.k488 (vp_in_nI (by omega) (by decide)) ?_
          try simp only [fr_row, fr_setI]
          rw [row_stI, nI_clamp (by omega), mix_s (fun r => b2i (ask1 σ r))]
          refine r_iinc (q := 47) (z := 1) (v := 1) C 1 rfl (by decide +kernel) rfl (by decide) (by decide) (by first | rfl | exact okst_rv rfl) ?_
          dsimp only [List.set]
          rw [nI_1]
          refine r_goto (off := -40) (tgt := 7) C (by decide +kernel) (by decide) ?_
          exact ih7 (k + 1) (by omega) (by omega)
        · have c26 := mt pl_le.mpr c26
          refine r_aload_n (q := 30) (z := 0) C 0 rfl (by decide +kernel) rfl rfl ?_
          refine r_getR (q := 33) C 7 31 479 rfl (by decide +kernel) rfl (by decide) rfl rfl wf_X7_106 win7 hm.1 ?_
          refine r_iload_n (q := 34) (z := 1) C 1 rfl (by decide +kernel) rfl rfl ?_
          refine r_iald (q := 35) C rfl (by decide +kernel) hm.k479 (vp_in_nI (by omega) (by decide)) ?_
          rw [nI_clamp (by omega), M7.art (by omega)]
          refine r_if_lt (q := 38) (off := 7) (tgt := 42) C rfl (by decide +kernel) (by decide) (fun c35 => ?_) (fun c35 => ?_)
          · have ev : b2i (ask1 σ k) = 0 := by simp [ask1, pl_neg.mp c35, b2i]
            refine r_iconst (q := 43) (z := 0) (v := b2i (ask1 σ k)) C rfl (by decide +kernel) (by rw [ev]; decide) ?_
            refine r_zast (q := 44) C rfl (by decide +kernel) (by first | exact b2i_vn _ | rfl) hm.k488 (vp_in_nI (by omega) (by decide)) ?_
            try simp only [fr_row, fr_setI]
            rw [row_stI, nI_clamp (by omega), mix_s (fun r => b2i (ask1 σ r))]
            refine r_iinc (q := 47) (z := 1) (v := 1) C 1 rfl (by decide +kernel) rfl (by decide) (by decide) (by first | rfl | exact okst_rv rfl) ?_
            dsimp only [List.set]
            rw [nI_1]
            refine r_goto (off := -40) (tgt := 7) C (by decide +kernel) (by decide) ?_
            exact ih7 (k + 1) (by omega) (by omega)
          · have ev : b2i (ask1 σ k) = 1 := by simp [ask1, pl_nn.mp c35, c26, b2i]
            refine r_iconst (q := 39) (z := 1) (v := b2i (ask1 σ k)) C rfl (by decide +kernel) (by rw [ev]; decide) ?_
            refine r_goto (off := 4) (tgt := 43) C (by decide +kernel) (by decide) ?_
            refine r_zast (q := 44) C rfl (by decide +kernel) (by first | exact b2i_vn _ | rfl) hm.k488 (vp_in_nI (by omega) (by decide)) ?_
            try simp only [fr_row, fr_setI]
            rw [row_stI, nI_clamp (by omega), mix_s (fun r => b2i (ask1 σ r))]
            refine r_iinc (q := 47) (z := 1) (v := 1) C 1 rfl (by decide +kernel) rfl (by decide) (by decide) (by first | rfl | exact okst_rv rfl) ?_
            dsimp only [List.set]
            rw [nI_1]
            refine r_goto (off := -40) (tgt := 7) C (by decide +kernel) (by decide) ?_
            exact ih7 (k + 1) (by omega) (by omega)
  have z0 := L7 (σ.n + 1) 0 (by omega) (by omega)
  rw [mix_0, show (h.setI 448 m 0).row (h.fr 488 m) (h.ai (h.fr 488 m)) = h.setI 448 m 0 from row_self] at z0
  exact z0
end
section
theorem fa_or (a b : Nat) : nI a ||| nI b = nI (a ||| b) := by
  apply Int32.toBitVec_inj.1
  show BitVec.ofNat 32 a ||| BitVec.ofNat 32 b = BitVec.ofNat 32 (a ||| b)
  apply BitVec.eq_of_getLsbD_eq
  intro i hi
  simp [hi]
/-- a remainder by a power of two, as a mask -/
theorem shl1 : ∀ q : Nat, q < 10 → (1 : Int32) <<< (nI q &&& 31) = nI (2 ^ q) := by decide
theorem sh31 : ∀ q : Nat, q < 10 → ((nI q &&& 31).toBitVec.smod 32).toNat = q := by decide
theorem shrb {s q : Nat} (hs : s < 2 ^ 31) (hq : q < 10) : nI s >>> (nI q &&& 31) = nI (s / 2 ^ q) := pk_shrN hs _ q (sh31 q hq)
theorem and1 {n : Nat} (h : n < 2 ^ 32) : nI n &&& 1 = nI (n % 2) := pk_andN h 1 (by decide)
/-- the set of those below n that p holds of -/
def mset (p : Nat → Bool) : Nat → Nat
  | 0 => 0
  | n + 1 => if p n then mset p n ||| 2 ^ n else mset p n
theorem mset_lt (p : Nat → Bool) : ∀ n, mset p n < 2 ^ n
  | 0 => by show (0 : Nat) < 1; decide
  | n + 1 => by
    have h := mset_lt p n
    have h2 : 2 ^ n < 2 ^ (n + 1) := Nat.pow_lt_pow_right (by decide) (by omega)
    simp only [mset]; split
    · exact Nat.or_lt_two_pow (by omega) h2
    · omega
theorem mset_10 (p : Nat → Bool) {n : Nat} (hn : n ≤ 10) : mset p n < 1024 := by
  have h := mset_lt p n
  have : 2 ^ n ≤ 2 ^ 10 := Nat.pow_le_pow_right (by decide) hn
  omega
theorem mset_congr {p q : Nat → Bool} : ∀ n, (∀ k, k < n → p k = q k) → mset p n = mset q n
  | 0, _ => rfl
  | n + 1, h => by simp only [mset]; rw [mset_congr n (fun k hk => h k (by omega)), h n (by omega)]
def popk (s : Nat) : Nat → Nat
  | 0 => 0
  | k + 1 => popk s k + s / 2 ^ k % 2
def pop (s : Nat) : Nat := popk s 10
theorem popk_le (s : Nat) : ∀ k, popk s k ≤ k
  | 0 => Nat.le_refl _
  | k + 1 => by have := popk_le s k; simp only [popk]; omega
def dcl (x y w z : Nat) : Nat := 12 * (y + z) + x + (w - 1) / 2
/-- r could grow to the cells at x, y, w wide, z high -/
def SG.gok (σ : SG) (r x y w z : Nat) : Bool := decide (x + w ≤ 12 ∧ y + z < 10) && ((!inn x y w z (12 * σ.gr) && !σ.cl (dcl x y w z)) && !anyb (fun c => inn x y w z c && σ.cl c) 120) && anyb (fun c => inn x y w z c && σ.cv r c) 120
def SG.mv0 (σ : SG) (r x y w z q : Nat) : Bool := decide (q ≠ r) && (decide (σ.li q < 240) && (inn x y w z (σ.dr q) || σ.cv q (dcl x y w z)))
def SG.mvq (σ : SG) (r x y w z q : Nat) : Bool := σ.mv0 r x y w z q || (decide (q ≠ r) && anyb (fun c => inn x y w z c && σ.cv q c) 120)
/-- the first place with the fewest to move, among the first k: (place or 240, set) -/
def chg (σ : SG) (r w z : Nat) : Nat → Nat × Nat
  | 0 => (240, 0)
  | p + 1 => if σ.gok r (px p) (py p) (wAt w z p) (wAt z w p) && (decide (¬ (chg σ r w z p).1 < 240) || decide (pop (mset (σ.mvq r (px p) (py p) (wAt w z p) (wAt z w p)) σ.n) < pop (chg σ r w z p).2)) then (p, mset (σ.mvq r (px p) (py p) (wAt w z p) (wAt z w p)) σ.n) else chg σ r w z p
theorem chg_2 {σ : SG} (hn : σ.n ≤ 10) {r w z : Nat} : ∀ k, (chg σ r w z k).2 < 1024
  | 0 => by show (0 : Nat) < 1024; decide
  | p + 1 => by
    simp only [chg]; split
    · exact mset_10 _ hn
    · exact chg_2 hn p
def pm2 (x : Nat) : Int32 := if x < 240 then nI x else -2
theorem pm2_neg {x : Nat} : pm2 x < 0 ↔ ¬ x < 240 := by
  unfold pm2; split
  · rename_i h; exact ⟨fun e => absurd e (nI_pos (by omega)), fun e => absurd h e⟩
  · rename_i h; exact ⟨fun _ => h, fun _ => by decide⟩
def chP (σ : SG) (x w z k : Int32) : Prop := ((0 ≤ x ∧ x < nI σ.n) ∧ σ.li x.toNatClampNeg < 240) ∧ (1 ≤ w ∧ w ≤ 4) ∧ (1 ≤ z ∧ z ≤ 4) ∧ 0 ≤ k ∧ k ≤ 1
def chV (σ : SG) (r w z : Nat) (k : Int32) : Int32 := if (chg σ r w z 240).1 < 240 then (if k = 0 then nI (chg σ r w z 240).2 else nI (chg σ r w z 240).1) else -2
theorem wAt_r {w z p : Nat} (h1 : 1 ≤ w ∧ w ≤ 4) (h2 : 1 ≤ z ∧ z ≤ 4) : 1 ≤ wAt w z p ∧ wAt w z p ≤ 4 := by unfold wAt; split <;> assumption


theorem c_X7_bits {G : GT} {h : HP} {s : Nat} (hs : s < 1024) : Con G 1 0 0 yX7_bits cX7_bits 3 (some .int) [.int (nI s)] h (PI (fun v h' => nI (pop s) = v ∧ h = h')) := by
  refine Con.of (lv := [some (.int (nI s)), none, none]) (by decide) (by simp only [lvE_r, lvE_i, lvE_l, lvE_s, lvE_0]; rfl) (by simp only [lgl_r, lgl_i, lgl_l, lgl_s, lgl_0]; decide) (fun Γ C R => ?_)
  generalize hPP : (PI (fun v h' => nI (pop s) = v ∧ h = h')) = PP
  refine r_iconst (q := 1) (z := 0) (v := 0) C rfl (by decide +kernel) (by decide) ?_
  refine r_istore_n (q := 2) (z := 1) C 1 rfl (by decide +kernel) rfl (by decide) (by first | rfl | exact okst_rv rfl) ?_
  dsimp only [List.set]
  refine r_iconst (q := 3) (z := 0) (v := 0) C rfl (by decide +kernel) (by decide) ?_
  refine r_istore_n (q := 4) (z := 2) C 2 rfl (by decide +kernel) rfl (by decide) (by first | rfl | exact okst_rv rfl) ?_
  dsimp only [List.set]
  have L4 : ∀ (fuel4 : Nat) (k : Nat), 10 - k < fuel4 → (k ≤ 10) → wX G Γ (qM G Γ PP 0 0) 0 0 (h) 4 [some (.int (nI s)), some (.int (nI (popk s k))), some (.int (nI k))] [] := by
    intro fuel4
    induction fuel4 with
    | zero =>
      intro k hm4
      exact absurd hm4 (Nat.not_lt_zero _)
    | succ fuel4 ih4 =>
      intro k hm4 hk
      refine r_iload_n (q := 5) (z := 2) C 2 rfl (by decide +kernel) rfl rfl ?_
      refine r_bipush (q := 7) (z := 10) (v := 10) C rfl (by decide +kernel) (by decide) ?_
      refine r_icmp_ge (q := 10) (off := 17) (tgt := 24) C rfl (by decide +kernel) (by decide) (fun c7 => ?_) (fun c7 => ?_)
      · have ek : k = 10 := by have := (nI_leI (a := 10) (by omega) (by omega)).mp c7; omega
        subst ek
        refine r_iload_n (q := 25) (z := 1) C 1 rfl (by decide +kernel) rfl rfl ?_
        exact r_iret C (by decide +kernel) rfl (by decide) (by decide) (eqP hPP ⟨_, rfl, ⟨rfl, rfl⟩⟩)
      · have hlt : k < 10 := Nat.lt_of_not_le (fun e => c7 (nI_le (a := 10) e (by omega)))
        refine r_iload_n (q := 11) (z := 1) C 1 rfl (by decide +kernel) rfl rfl ?_
        refine r_iload_n (q := 12) (z := 0) C 0 rfl (by decide +kernel) rfl rfl ?_
        refine r_iload_n (q := 13) (z := 2) C 2 rfl (by decide +kernel) rfl rfl ?_
        refine r_ishr (q := 14) C rfl (by decide +kernel) ?_
        rw [shrb (by omega) hlt]
        refine r_iconst (q := 15) (z := 1) (v := 1) C rfl (by decide +kernel) (by decide) ?_
        refine r_iand (q := 16) C rfl (by decide +kernel) ?_
        rw [and1 (by have : s / 2 ^ k ≤ s := Nat.div_le_self _ _; omega)]
        refine r_iadd (q := 17) C rfl (by decide +kernel) ?_
        rw [nI_add]
        refine r_istore_n (q := 18) (z := 1) C 1 rfl (by decide +kernel) rfl (by decide) (by first | rfl | exact okst_rv rfl) ?_
        dsimp only [List.set]
        refine r_iinc (q := 21) (z := 1) (v := 1) C 2 rfl (by decide +kernel) rfl (by decide) (by decide) (by first | rfl | exact okst_rv rfl) ?_
        dsimp only [List.set]
        rw [nI_1]
        refine r_goto (off := -17) (tgt := 4) C (by decide +kernel) (by decide) ?_
        exact ih4 (k + 1) (by omega) (by omega)
  exact L4 11 0 (by omega) (by omega)
theorem c_X7_movesFor {G : GT} {h : HP} {m : Nat} {σ : SG} {r x y w z : Nat} (hm : LM h.kd h.gl h.fr m) (M : MR σ h m) (W : WF σ) (hr : r < σ.n) (hx : x < 12) (hy : y < 10) (hw : 1 ≤ w ∧ w ≤ 4) (hz : 1 ≤ z ∧ z ≤ 4) : Con G 4 0 0 yX7_movesFor cX7_movesFor 13 (some .int) [rv m, .int (nI r), .int (nI x), .int (nI y), .int (nI w), .int (nI z)] h (PI (fun v h' => (if σ.gok r x y w z then nI (mset (σ.mvq r x y w z) σ.n) else -2) = v ∧ h = h')) := by
  refine Con.of (lv := [some (rv m), some (.int (nI r)), some (.int (nI x)), some (.int (nI y)), some (.int (nI w)), some (.int (nI z)), none, none, none, none, none, none, none]) (by decide) (by simp only [lvE_r, lvE_i, lvE_l, lvE_s, lvE_0]; rfl) (by simp only [lgl_r, lgl_i, lgl_l, lgl_s, lgl_0]; decide) (fun Γ C R => ?_)
  generalize hPP : (PI (fun v h' => (if σ.gok r x y w z then nI (mset (σ.mvq r x y w z) σ.n) else -2) = v ∧ h = h')) = PP
  have r10 := W.n10
  have g10 := W.gr10
  have L182 : ∀ (fuel182 : Nat) (q : Nat), σ.n - q < fuel182 → (q ≤ σ.n) → (σ.gok r x y w z = true) → (x + w ≤ 12) → (y + z < 10) → wX G Γ (qM G Γ PP 0 0) 0 0 (h) 182 [some (rv m), some (.int (nI r)), some (.int (nI x)), some (.int (nI y)), some (.int (nI w)), some (.int (nI z)), some (.int (nI (dcl x y w z))), none, none, some (.int (nI (mset (σ.mvq r x y w z) q))), some (.int (nI q)), none, none] [] := by
    intro fuel182
    induction fuel182 with
    | zero =>
      intro q hm182
      exact absurd hm182 (Nat.not_lt_zero _)
    | succ fuel182 ih182 =>
      intro q hm182 hq0 hok hg1 hg2
      refine r_iload (q := 184) C 10 rfl (by decide +kernel) rfl ?_
      refine r_aload_n (q := 185) (z := 0) C 0 rfl (by decide +kernel) rfl rfl ?_
      refine r_getI (q := 188) C 7 24 472 rfl (by decide +kernel) rfl (by decide) rfl rfl wf_X7_243 win7 hm.1 ?_
      rw [M.fn]
      refine r_icmp_ge (q := 191) (off := 138) (tgt := 326) C rfl (by decide +kernel) (by decide) (fun c188 => ?_) (fun c188 => ?_)
      · have eq0 : q = σ.n := by have := (nI_leI (by omega) (by omega)).mp c188; omega
        subst eq0
        refine r_iload (q := 328) C 9 rfl (by decide +kernel) rfl ?_
        exact r_iret C (by decide +kernel) rfl (by decide) (by decide) (eqP hPP ⟨_, rfl, ⟨by rw [if_pos hok], rfl⟩⟩)
      · have hlq : q < σ.n := Nat.lt_of_not_le (fun e => c188 (nI_le e (by omega)))
        have hdc : dcl x y w z < 120 := by unfold dcl; omega
        have J241 : ∀ (v : Int32), (v = b2i (σ.mv0 r x y w z q || (decide (q ≠ r) && anyb (fun c => inn x y w z c && σ.cv q c) 0))) → wX G Γ (qM G Γ PP 0 0) 0 0 (h) 241 [some (rv m), some (.int (nI r)), some (.int (nI x)), some (.int (nI y)), some (.int (nI w)), some (.int (nI z)), some (.int (nI (dcl x y w z))), none, none, some (.int (nI (mset (σ.mvq r x y w z) q))), some (.int (nI q)), none, none] [.int v] := by
          intro v hv
          subst hv
          refine r_istore (q := 243) C 11 rfl (by decide +kernel) (by decide) (by first | rfl | exact okst_rv rfl) ?_
          dsimp only [List.set]
          refine r_iconst (q := 244) (z := 0) (v := 0) C rfl (by decide +kernel) (by decide) ?_
          refine r_istore (q := 246) C 12 rfl (by decide +kernel) (by decide) (by first | rfl | exact okst_rv rfl) ?_
          dsimp only [List.set]
          have L246 : ∀ (fuel246 : Nat) (i : Nat), 120 - i < fuel246 → (i ≤ 120) → wX G Γ (qM G Γ PP 0 0) 0 0 (h) 246 [some (rv m), some (.int (nI r)), some (.int (nI x)), some (.int (nI y)), some (.int (nI w)), some (.int (nI z)), some (.int (nI (dcl x y w z))), none, none, some (.int (nI (mset (σ.mvq r x y w z) q))), some (.int (nI q)), some (.int (b2i (σ.mv0 r x y w z q || (decide (q ≠ r) && anyb (fun c => inn x y w z c && σ.cv q c) i)))), some (.int (nI i))] [] := by
            intro fuel246
            induction fuel246 with
            | zero =>
              intro i hm246
              exact absurd hm246 (Nat.not_lt_zero _)
            | succ fuel246 ih246 =>
              intro i hm246 hi
              refine r_iload (q := 248) C 12 rfl (by decide +kernel) rfl ?_
              refine r_bipush (q := 250) (z := 120) (v := 120) C rfl (by decide +kernel) (by decide) ?_
              refine r_icmp_ge (q := 253) (off := 52) (tgt := 302) C rfl (by decide +kernel) (by decide) (fun c250 => ?_) (fun c250 => ?_)
              · have ez : i = 120 := by have := (nI_leI (a := 120) (by omega) (by omega)).mp c250; omega
                subst ez
                refine r_iload (q := 304) C 9 rfl (by decide +kernel) rfl ?_
                refine r_iload (q := 306) C 11 rfl (by decide +kernel) rfl ?_
                refine r_if_eq (q := 309) (off := 10) (tgt := 316) C rfl (by decide +kernel) (by decide) (fun c306 => ?_) (fun c306 => ?_)
                · have e317 : nI (mset (σ.mvq r x y w z) q) ||| 0 = nI (mset (σ.mvq r x y w z) (q + 1)) := by
                    rw [mset, if_neg (by unfold SG.mvq; rw [(b2i_0 _).mp c306]; decide)]
                    exact (fa_or _ 0).trans (by rw [Nat.or_zero])
                  refine r_iconst (q := 317) (z := 0) (v := 0) C rfl (by decide +kernel) (by decide) ?_
                  refine r_ior (q := 318) C rfl (by decide +kernel) ?_
                  rw [e317]
                  refine r_istore (q := 320) C 9 rfl (by decide +kernel) (by decide) (by first | rfl | exact okst_rv rfl) ?_
                  dsimp only [List.set]
                  refine r_iinc (q := 323) (z := 1) (v := 1) C 10 rfl (by decide +kernel) rfl (by decide) (by decide) (by first | rfl | exact okst_rv rfl) ?_
                  dsimp only [List.set]
                  rw [nI_1]
                  refine r_goto (off := -141) (tgt := 182) C (by decide +kernel) (by decide) ?_
                  exact wX.sub (lsub_s (lsub_s (lsub_s (lsub_s (lsub_s (lsub_s (lsub_s (lsub_n (lsub_n (lsub_s (lsub_s (lsub_n (lsub_n (lsub_nil)))))))))))))) (ih182 (q + 1) (by omega) (by omega) hok hg1 hg2)
                · have e317 : nI (mset (σ.mvq r x y w z) q) ||| nI (2 ^ q) = nI (mset (σ.mvq r x y w z) (q + 1)) := by
                    rw [mset, if_pos (by unfold SG.mvq; exact (b2i_n0 _).mp c306)]
                    exact fa_or _ _
                  refine r_iconst (q := 310) (z := 1) (v := 1) C rfl (by decide +kernel) (by decide) ?_
                  refine r_iload (q := 312) C 10 rfl (by decide +kernel) rfl ?_
                  refine r_ishl (q := 313) C rfl (by decide +kernel) ?_
                  rw [shl1 q (by omega)]
                  refine r_goto (off := 4) (tgt := 317) C (by decide +kernel) (by decide) ?_
                  refine r_ior (q := 318) C rfl (by decide +kernel) ?_
                  rw [e317]
                  refine r_istore (q := 320) C 9 rfl (by decide +kernel) (by decide) (by first | rfl | exact okst_rv rfl) ?_
                  dsimp only [List.set]
                  refine r_iinc (q := 323) (z := 1) (v := 1) C 10 rfl (by decide +kernel) rfl (by decide) (by decide) (by first | rfl | exact okst_rv rfl) ?_
                  dsimp only [List.set]
                  rw [nI_1]
                  refine r_goto (off := -141) (tgt := 182) C (by decide +kernel) (by decide) ?_
                  exact wX.sub (lsub_s (lsub_s (lsub_s (lsub_s (lsub_s (lsub_s (lsub_s (lsub_n (lsub_n (lsub_s (lsub_s (lsub_n (lsub_n (lsub_nil)))))))))))))) (ih182 (q + 1) (by omega) (by omega) hok hg1 hg2)
              · have hlt : i < 120 := Nat.lt_of_not_le (fun e => c250 (nI_le (a := 120) e (by omega)))
                have J294 : ∀ (v : Int32), (v = b2i (σ.mv0 r x y w z q || (decide (q ≠ r) && anyb (fun c => inn x y w z c && σ.cv q c) (i + 1)))) → wX G Γ (qM G Γ PP 0 0) 0 0 (h) 294 [some (rv m), some (.int (nI r)), some (.int (nI x)), some (.int (nI y)), some (.int (nI w)), some (.int (nI z)), some (.int (nI (dcl x y w z))), none, none, some (.int (nI (mset (σ.mvq r x y w z) q))), some (.int (nI q)), some (.int (b2i (σ.mv0 r x y w z q || (decide (q ≠ r) && anyb (fun c => inn x y w z c && σ.cv q c) i)))), some (.int (nI i))] [.int v] := by
                  intro v hv
                  subst hv
                  refine r_istore (q := 296) C 11 rfl (by decide +kernel) (by decide) (by first | rfl | exact okst_rv rfl) ?_
                  dsimp only [List.set]
                  refine r_iinc (q := 299) (z := 1) (v := 1) C 12 rfl (by decide +kernel) rfl (by decide) (by decide) (by first | rfl | exact okst_rv rfl) ?_
                  dsimp only [List.set]
                  rw [nI_1]
                  refine r_goto (off := -53) (tgt := 246) C (by decide +kernel) (by decide) ?_
                  exact wX.sub (lsub_s (lsub_s (lsub_s (lsub_s (lsub_s (lsub_s (lsub_s (lsub_n (lsub_n (lsub_s (lsub_s (lsub_s (lsub_s (lsub_nil)))))))))))))) (ih246 (i + 1) (by omega) (by omega))
                refine r_iload (q := 255) C 11 rfl (by decide +kernel) rfl ?_
                refine r_if_ne (q := 258) (off := 34) (tgt := 289) C rfl (by decide +kernel) (by decide) (fun c255 => ?_) (fun c255 => ?_)
                · have ev : (1 : Int32) = b2i (σ.mv0 r x y w z q || (decide (q ≠ r) && anyb (fun c => inn x y w z c && σ.cv q c) (i + 1))) := by
                    have h9 := (b2i_n0 _).mp c255
                    simp only [anyb]
                    rw [Bool.or_eq_true, Bool.and_eq_true] at h9
                    rcases h9 with h9 | ⟨h9, h8⟩
                    · rw [h9]; rfl
                    · rw [h9, h8]; simp [b2i]
                  refine r_iconst (q := 290) (z := 1) (v := 1) C rfl (by decide +kernel) (by decide) ?_
                  refine r_goto (off := 4) (tgt := 294) C (by decide +kernel) (by decide) ?_
                  exact wX.sub (lsub_s (lsub_s (lsub_s (lsub_s (lsub_s (lsub_s (lsub_s (lsub_n (lsub_n (lsub_s (lsub_s (lsub_s (lsub_s (lsub_nil)))))))))))))) (J294 _ ev)
                · refine r_iload (q := 260) C 10 rfl (by decide +kernel) rfl ?_
                  refine r_iload_n (q := 261) (z := 1) C 1 rfl (by decide +kernel) rfl rfl ?_
                  refine r_icmp_eq (q := 264) (off := 32) (tgt := 293) C rfl (by decide +kernel) (by decide) (fun c261 => ?_) (fun c261 => ?_)
                  · have ev : (0 : Int32) = b2i (σ.mv0 r x y w z q || (decide (q ≠ r) && anyb (fun c => inn x y w z c && σ.cv q c) (i + 1))) := by
                      have h9 := (b2i_0 _).mp c255
                      rw [Bool.or_eq_false_iff] at h9
                      have e : q = r := (nI_eq (by omega) (by omega)).mp c261
                      rw [h9.1]; simp [e, b2i]
                    refine r_iconst (q := 294) (z := 0) (v := 0) C rfl (by decide +kernel) (by decide) ?_
                    exact wX.sub (lsub_s (lsub_s (lsub_s (lsub_s (lsub_s (lsub_s (lsub_s (lsub_n (lsub_n (lsub_s (lsub_s (lsub_s (lsub_s (lsub_nil)))))))))))))) (J294 _ ev)
                  · have hqr : q ≠ r := fun e => c261 (by rw [e])
                    refine r_iload_n (q := 265) (z := 2) C 2 rfl (by decide +kernel) rfl rfl ?_
                    refine r_iload_n (q := 266) (z := 3) C 3 rfl (by decide +kernel) rfl rfl ?_
                    refine r_iload (q := 268) C 4 rfl (by decide +kernel) rfl ?_
                    refine r_iload (q := 270) C 5 rfl (by decide +kernel) rfl ?_
                    refine r_iload (q := 272) C 12 rfl (by decide +kernel) rfl ?_
                    refine cS5I (q := 275) C R rfl (by decide +kernel) lk_X7_259 (c_X7_isIn (by omega) (by omega) (by omega) (by omega) (by omega)) (by decide) (by decide) (by decide) rfl (by first | exact Nat.le_of_ble_eq_true rfl | (simp only [List.map_cons, List.map_nil, List.sum_cons, List.sum_nil, rv_cat]; exact Nat.le_of_ble_eq_true rfl))  ?_
                    rintro _ _ ⟨rfl, rfl⟩
                    refine r_if_eq (q := 278) (off := 18) (tgt := 293) C rfl (by decide +kernel) (by decide) (fun c275 => ?_) (fun c275 => ?_)
                    · have ev : (0 : Int32) = b2i (σ.mv0 r x y w z q || (decide (q ≠ r) && anyb (fun c => inn x y w z c && σ.cv q c) (i + 1))) := by
                        have h9 := (b2i_0 _).mp c255
                        simp only [anyb, (b2i_0 _).mp c275, Bool.false_and, Bool.or_false]
                        rw [h9]; rfl
                      refine r_iconst (q := 294) (z := 0) (v := 0) C rfl (by decide +kernel) (by decide) ?_
                      exact wX.sub (lsub_s (lsub_s (lsub_s (lsub_s (lsub_s (lsub_s (lsub_s (lsub_n (lsub_n (lsub_s (lsub_s (lsub_s (lsub_s (lsub_nil)))))))))))))) (J294 _ ev)
                    · refine r_aload_n (q := 279) (z := 0) C 0 rfl (by decide +kernel) rfl rfl ?_
                      refine r_iload (q := 281) C 10 rfl (by decide +kernel) rfl ?_
                      refine r_iload (q := 283) C 12 rfl (by decide +kernel) rfl ?_
                      refine cV2I (q := 286) C R rfl (by decide +kernel) lk_X7_267 (c_X7_covers hm M W hlq (by omega)) (by decide) (by decide) (by decide) rfl (by first | exact Nat.le_of_ble_eq_true rfl | (simp only [List.map_cons, List.map_nil, List.sum_cons, List.sum_nil, rv_cat]; exact Nat.le_of_ble_eq_true rfl)) rfl hm.1 ?_
                      rintro _ _ ⟨rfl, rfl⟩
                      refine r_if_eq (q := 289) (off := 7) (tgt := 293) C rfl (by decide +kernel) (by decide) (fun c286 => ?_) (fun c286 => ?_)
                      · have ev : (0 : Int32) = b2i (σ.mv0 r x y w z q || (decide (q ≠ r) && anyb (fun c => inn x y w z c && σ.cv q c) (i + 1))) := by
                          have h9 := (b2i_0 _).mp c255
                          simp only [anyb, (b2i_0 _).mp c286, Bool.and_false, Bool.or_false]
                          rw [h9]; rfl
                        refine r_iconst (q := 294) (z := 0) (v := 0) C rfl (by decide +kernel) (by decide) ?_
                        exact wX.sub (lsub_s (lsub_s (lsub_s (lsub_s (lsub_s (lsub_s (lsub_s (lsub_n (lsub_n (lsub_s (lsub_s (lsub_s (lsub_s (lsub_nil)))))))))))))) (J294 _ ev)
                      · have ev : (1 : Int32) = b2i (σ.mv0 r x y w z q || (decide (q ≠ r) && anyb (fun c => inn x y w z c && σ.cv q c) (i + 1))) := by
                          simp only [anyb, (b2i_n0 _).mp c275, (b2i_n0 _).mp c286, Bool.and_self, Bool.or_true]
                          simp [hqr, b2i]
                        refine r_iconst (q := 290) (z := 1) (v := 1) C rfl (by decide +kernel) (by decide) ?_
                        refine r_goto (off := 4) (tgt := 294) C (by decide +kernel) (by decide) ?_
                        exact wX.sub (lsub_s (lsub_s (lsub_s (lsub_s (lsub_s (lsub_s (lsub_s (lsub_n (lsub_n (lsub_s (lsub_s (lsub_s (lsub_s (lsub_nil)))))))))))))) (J294 _ ev)
          exact wX.sub (lsub_s (lsub_s (lsub_s (lsub_s (lsub_s (lsub_s (lsub_s (lsub_n (lsub_n (lsub_s (lsub_s (lsub_s (lsub_s (lsub_nil)))))))))))))) (L246 121 0 (by omega) (by omega))
        refine r_iload (q := 193) C 10 rfl (by decide +kernel) rfl ?_
        refine r_iload_n (q := 194) (z := 1) C 1 rfl (by decide +kernel) rfl rfl ?_
        refine r_icmp_eq (q := 197) (off := 46) (tgt := 240) C rfl (by decide +kernel) (by decide) (fun c194 => ?_) (fun c194 => ?_)
        · have ev : (0 : Int32) = b2i (σ.mv0 r x y w z q || (decide (q ≠ r) && anyb (fun c => inn x y w z c && σ.cv q c) 0)) := by have e : q = r := (nI_eq (by omega) (by omega)).mp c194; simp [SG.mv0, e, anyb, b2i]
          refine r_iconst (q := 241) (z := 0) (v := 0) C rfl (by decide +kernel) (by decide) ?_
          exact wX.sub (lsub_s (lsub_s (lsub_s (lsub_s (lsub_s (lsub_s (lsub_s (lsub_n (lsub_n (lsub_s (lsub_s (lsub_n (lsub_n (lsub_nil)))))))))))))) (wX.sub (lsub_s (lsub_s (lsub_s (lsub_s (lsub_s (lsub_s (lsub_s (lsub_n (lsub_n (lsub_s (lsub_s (lsub_n (lsub_n lsub_nil))))))))))))) (J241 _ ev))
        · have hqr : q ≠ r := fun e => c194 (by rw [e])
          refine r_aload_n (q := 198) (z := 0) C 0 rfl (by decide +kernel) rfl rfl ?_
          refine r_getR (q := 201) C 7 30 478 rfl (by decide +kernel) rfl (by decide) rfl rfl wf_X7_103 win7 hm.1 ?_
          refine r_iload (q := 203) C 10 rfl (by decide +kernel) rfl ?_
          refine r_iald (q := 204) C rfl (by decide +kernel) hm.k478 (vp_in_nI (by omega) (by decide)) ?_
          rw [nI_clamp (by omega), M.ali (by omega)]
          refine r_if_lt (q := 207) (off := 36) (tgt := 240) C rfl (by decide +kernel) (by decide) (fun c204 => ?_) (fun c204 => ?_)
          · have ev : (0 : Int32) = b2i (σ.mv0 r x y w z q || (decide (q ≠ r) && anyb (fun c => inn x y w z c && σ.cv q c) 0)) := by have e := pl_neg.mp c204; simp [SG.mv0, e, anyb, b2i]
            refine r_iconst (q := 241) (z := 0) (v := 0) C rfl (by decide +kernel) (by decide) ?_
            exact wX.sub (lsub_s (lsub_s (lsub_s (lsub_s (lsub_s (lsub_s (lsub_s (lsub_n (lsub_n (lsub_s (lsub_s (lsub_n (lsub_n (lsub_nil)))))))))))))) (wX.sub (lsub_s (lsub_s (lsub_s (lsub_s (lsub_s (lsub_s (lsub_s (lsub_n (lsub_n (lsub_s (lsub_s (lsub_n (lsub_n lsub_nil))))))))))))) (J241 _ ev))
          · have hl := pl_nn.mp c204
            have hdr := W.dr hlq hl
            refine r_iload_n (q := 208) (z := 2) C 2 rfl (by decide +kernel) rfl rfl ?_
            refine r_iload_n (q := 209) (z := 3) C 3 rfl (by decide +kernel) rfl rfl ?_
            refine r_iload (q := 211) C 4 rfl (by decide +kernel) rfl ?_
            refine r_iload (q := 213) C 5 rfl (by decide +kernel) rfl ?_
            refine r_aload_n (q := 214) (z := 0) C 0 rfl (by decide +kernel) rfl rfl ?_
            refine r_iload (q := 216) C 10 rfl (by decide +kernel) rfl ?_
            refine cV1I (q := 219) C R rfl (by decide +kernel) lk_X7_292 (c_X7_door hm M W hlq) (by decide) (by decide) (by decide) rfl (by first | exact Nat.le_of_ble_eq_true rfl | (simp only [List.map_cons, List.map_nil, List.sum_cons, List.sum_nil, rv_cat]; exact Nat.le_of_ble_eq_true rfl)) rfl hm.1 ?_
            rintro _ _ ⟨rfl, rfl⟩
            rw [if_pos hl]
            refine cS5I (q := 222) C R rfl (by decide +kernel) lk_X7_259 (c_X7_isIn (by omega) (by omega) (by omega) (by omega) (by omega)) (by decide) (by decide) (by decide) rfl (by first | exact Nat.le_of_ble_eq_true rfl | (simp only [List.map_cons, List.map_nil, List.sum_cons, List.sum_nil, rv_cat]; exact Nat.le_of_ble_eq_true rfl))  ?_
            rintro _ _ ⟨rfl, rfl⟩
            refine r_if_ne (q := 225) (off := 14) (tgt := 236) C rfl (by decide +kernel) (by decide) (fun c222 => ?_) (fun c222 => ?_)
            · have ev : (1 : Int32) = b2i (σ.mv0 r x y w z q || (decide (q ≠ r) && anyb (fun c => inn x y w z c && σ.cv q c) 0)) := by simp [SG.mv0, hqr, hl, (b2i_n0 _).mp c222, b2i]
              refine r_iconst (q := 237) (z := 1) (v := 1) C rfl (by decide +kernel) (by decide) ?_
              refine r_goto (off := 4) (tgt := 241) C (by decide +kernel) (by decide) ?_
              exact wX.sub (lsub_s (lsub_s (lsub_s (lsub_s (lsub_s (lsub_s (lsub_s (lsub_n (lsub_n (lsub_s (lsub_s (lsub_n (lsub_n (lsub_nil)))))))))))))) (wX.sub (lsub_s (lsub_s (lsub_s (lsub_s (lsub_s (lsub_s (lsub_s (lsub_n (lsub_n (lsub_s (lsub_s (lsub_n (lsub_n lsub_nil))))))))))))) (J241 _ ev))
            · refine r_aload_n (q := 226) (z := 0) C 0 rfl (by decide +kernel) rfl rfl ?_
              refine r_iload (q := 228) C 10 rfl (by decide +kernel) rfl ?_
              refine r_iload (q := 230) C 6 rfl (by decide +kernel) rfl ?_
              refine cV2I (q := 233) C R rfl (by decide +kernel) lk_X7_267 (c_X7_covers hm M W hlq (by omega)) (by decide) (by decide) (by decide) rfl (by first | exact Nat.le_of_ble_eq_true rfl | (simp only [List.map_cons, List.map_nil, List.sum_cons, List.sum_nil, rv_cat]; exact Nat.le_of_ble_eq_true rfl)) rfl hm.1 ?_
              rintro _ _ ⟨rfl, rfl⟩
              refine r_if_eq (q := 236) (off := 7) (tgt := 240) C rfl (by decide +kernel) (by decide) (fun c233 => ?_) (fun c233 => ?_)
              · have ev : (0 : Int32) = b2i (σ.mv0 r x y w z q || (decide (q ≠ r) && anyb (fun c => inn x y w z c && σ.cv q c) 0)) := by simp [SG.mv0, (b2i_0 _).mp c222, (b2i_0 _).mp c233, anyb, b2i]
                refine r_iconst (q := 241) (z := 0) (v := 0) C rfl (by decide +kernel) (by decide) ?_
                exact wX.sub (lsub_s (lsub_s (lsub_s (lsub_s (lsub_s (lsub_s (lsub_s (lsub_n (lsub_n (lsub_s (lsub_s (lsub_n (lsub_n (lsub_nil)))))))))))))) (wX.sub (lsub_s (lsub_s (lsub_s (lsub_s (lsub_s (lsub_s (lsub_s (lsub_n (lsub_n (lsub_s (lsub_s (lsub_n (lsub_n lsub_nil))))))))))))) (J241 _ ev))
              · have ev : (1 : Int32) = b2i (σ.mv0 r x y w z q || (decide (q ≠ r) && anyb (fun c => inn x y w z c && σ.cv q c) 0)) := by simp [SG.mv0, hqr, hl, (b2i_n0 _).mp c233, b2i]
                refine r_iconst (q := 237) (z := 1) (v := 1) C rfl (by decide +kernel) (by decide) ?_
                refine r_goto (off := 4) (tgt := 241) C (by decide +kernel) (by decide) ?_
                exact wX.sub (lsub_s (lsub_s (lsub_s (lsub_s (lsub_s (lsub_s (lsub_s (lsub_n (lsub_n (lsub_s (lsub_s (lsub_n (lsub_n (lsub_nil)))))))))))))) (wX.sub (lsub_s (lsub_s (lsub_s (lsub_s (lsub_s (lsub_s (lsub_s (lsub_n (lsub_n (lsub_s (lsub_s (lsub_n (lsub_n lsub_nil))))))))))))) (J241 _ ev))
  have L78 : ∀ (fuel78 : Nat) (i : Nat), 120 - i < fuel78 → (i ≤ 120) → (x + w ≤ 12) → (y + z < 10) → wX G Γ (qM G Γ PP 0 0) 0 0 (h) 78 [some (rv m), some (.int (nI r)), some (.int (nI x)), some (.int (nI y)), some (.int (nI w)), some (.int (nI z)), some (.int (nI (dcl x y w z))), some (.int (b2i (((!inn x y w z (12 * σ.gr)) && !σ.cl (dcl x y w z)) && !anyb (fun c => inn x y w z c && σ.cl c) i))), some (.int (b2i (anyb (fun c => inn x y w z c && σ.cv r c) i))), some (.int (nI i)), none, none, none] [] := by
    intro fuel78
    induction fuel78 with
    | zero =>
      intro i hm78
      exact absurd hm78 (Nat.not_lt_zero _)
    | succ fuel78 ih78 =>
      intro i hm78 hi hg1 hg2
      refine r_iload (q := 80) C 9 rfl (by decide +kernel) rfl ?_
      refine r_bipush (q := 82) (z := 120) (v := 120) C rfl (by decide +kernel) (by decide) ?_
      refine r_icmp_ge (q := 85) (off := 81) (tgt := 163) C rfl (by decide +kernel) (by decide) (fun c82 => ?_) (fun c82 => ?_)
      · have ez : i = 120 := by have := (nI_leI (a := 120) (by omega) (by omega)).mp c82; omega
        subst ez
        refine r_iload (q := 165) C 7 rfl (by decide +kernel) rfl ?_
        refine r_if_eq (q := 168) (off := 8) (tgt := 173) C rfl (by decide +kernel) (by decide) (fun c165 => ?_) (fun c165 => ?_)
        · refine r_bipush (q := 175) (z := (-2)) (v := (-2)) C rfl (by decide +kernel) (by decide) ?_
          exact r_iret C (by decide +kernel) rfl (by decide) (by decide) (eqP hPP ⟨_, rfl, ⟨by rw [if_neg (by unfold SG.gok; first | (rw [(b2i_0 _).mp c165]; simp; done) | (rw [(b2i_0 _).mp c170]; simp; done))], rfl⟩⟩)
        · refine r_iload (q := 170) C 8 rfl (by decide +kernel) rfl ?_
          refine r_if_ne (q := 173) (off := 6) (tgt := 176) C rfl (by decide +kernel) (by decide) (fun c170 => ?_) (fun c170 => ?_)
          · have hok : σ.gok r x y w z = true := by unfold SG.gok; rw [(b2i_n0 _).mp c165, (b2i_n0 _).mp c170]; simp [hg1, hg2]
            refine r_iconst (q := 177) (z := 0) (v := 0) C rfl (by decide +kernel) (by decide) ?_
            refine r_istore (q := 179) C 9 rfl (by decide +kernel) (by decide) (by first | rfl | exact okst_rv rfl) ?_
            dsimp only [List.set]
            refine r_iconst (q := 180) (z := 0) (v := 0) C rfl (by decide +kernel) (by decide) ?_
            refine r_istore (q := 182) C 10 rfl (by decide +kernel) (by decide) (by first | rfl | exact okst_rv rfl) ?_
            dsimp only [List.set]
            exact wX.sub (lsub_s (lsub_s (lsub_s (lsub_s (lsub_s (lsub_s (lsub_s (lsub_n (lsub_n (lsub_s (lsub_s (lsub_n (lsub_n (lsub_nil)))))))))))))) (L182 (σ.n + 1) 0 (by omega) (by omega) hok hg1 hg2)
          · refine r_bipush (q := 175) (z := (-2)) (v := (-2)) C rfl (by decide +kernel) (by decide) ?_
            exact r_iret C (by decide +kernel) rfl (by decide) (by decide) (eqP hPP ⟨_, rfl, ⟨by rw [if_neg (by unfold SG.gok; first | (rw [(b2i_0 _).mp c165]; simp; done) | (rw [(b2i_0 _).mp c170]; simp; done))], rfl⟩⟩)
      · have hlt : i < 120 := Nat.lt_of_not_le (fun e => c82 (nI_le (a := 120) e (by omega)))
        have J155 : ∀ (v : Int32), (v = b2i (anyb (fun c => inn x y w z c && σ.cv r c) (i + 1))) → wX G Γ (qM G Γ PP 0 0) 0 0 (h) 155 [some (rv m), some (.int (nI r)), some (.int (nI x)), some (.int (nI y)), some (.int (nI w)), some (.int (nI z)), some (.int (nI (dcl x y w z))), some (.int (b2i (((!inn x y w z (12 * σ.gr)) && !σ.cl (dcl x y w z)) && !anyb (fun c => inn x y w z c && σ.cl c) (i + 1)))), some (.int (b2i (anyb (fun c => inn x y w z c && σ.cv r c) i))), some (.int (nI i)), none, none, none] [.int v] := by
          intro v hv
          subst hv
          refine r_istore (q := 157) C 8 rfl (by decide +kernel) (by decide) (by first | rfl | exact okst_rv rfl) ?_
          dsimp only [List.set]
          refine r_iinc (q := 160) (z := 1) (v := 1) C 9 rfl (by decide +kernel) rfl (by decide) (by decide) (by first | rfl | exact okst_rv rfl) ?_
          dsimp only [List.set]
          rw [nI_1]
          refine r_goto (off := -82) (tgt := 78) C (by decide +kernel) (by decide) ?_
          exact wX.sub (lsub_s (lsub_s (lsub_s (lsub_s (lsub_s (lsub_s (lsub_s (lsub_s (lsub_s (lsub_s (lsub_n (lsub_n (lsub_n (lsub_nil)))))))))))))) (ih78 (i + 1) (by omega) (by omega) hg1 hg2)
        have J119 : ∀ (v : Int32), (v = b2i (((!inn x y w z (12 * σ.gr)) && !σ.cl (dcl x y w z)) && !anyb (fun c => inn x y w z c && σ.cl c) (i + 1))) → wX G Γ (qM G Γ PP 0 0) 0 0 (h) 119 [some (rv m), some (.int (nI r)), some (.int (nI x)), some (.int (nI y)), some (.int (nI w)), some (.int (nI z)), some (.int (nI (dcl x y w z))), some (.int (b2i (((!inn x y w z (12 * σ.gr)) && !σ.cl (dcl x y w z)) && !anyb (fun c => inn x y w z c && σ.cl c) i))), some (.int (b2i (anyb (fun c => inn x y w z c && σ.cv r c) i))), some (.int (nI i)), none, none, none] [.int v] := by
          intro v hv
          subst hv
          refine r_istore (q := 121) C 7 rfl (by decide +kernel) (by decide) (by first | rfl | exact okst_rv rfl) ?_
          dsimp only [List.set]
          refine r_iload (q := 123) C 8 rfl (by decide +kernel) rfl ?_
          refine r_if_ne (q := 126) (off := 27) (tgt := 150) C rfl (by decide +kernel) (by decide) (fun c123 => ?_) (fun c123 => ?_)
          · have ev : (1 : Int32) = b2i (anyb (fun c => inn x y w z c && σ.cv r c) (i + 1)) := by simp only [anyb, (b2i_n0 _).mp c123, Bool.true_or]; rfl
            refine r_iconst (q := 151) (z := 1) (v := 1) C rfl (by decide +kernel) (by decide) ?_
            refine r_goto (off := 4) (tgt := 155) C (by decide +kernel) (by decide) ?_
            exact wX.sub (lsub_s (lsub_s (lsub_s (lsub_s (lsub_s (lsub_s (lsub_s (lsub_s (lsub_s (lsub_s (lsub_n (lsub_n (lsub_n (lsub_nil)))))))))))))) (J155 _ ev)
          · refine r_iload_n (q := 127) (z := 2) C 2 rfl (by decide +kernel) rfl rfl ?_
            refine r_iload_n (q := 128) (z := 3) C 3 rfl (by decide +kernel) rfl rfl ?_
            refine r_iload (q := 130) C 4 rfl (by decide +kernel) rfl ?_
            refine r_iload (q := 132) C 5 rfl (by decide +kernel) rfl ?_
            refine r_iload (q := 134) C 9 rfl (by decide +kernel) rfl ?_
            refine cS5I (q := 137) C R rfl (by decide +kernel) lk_X7_259 (c_X7_isIn (by omega) (by omega) (by omega) (by omega) (by omega)) (by decide) (by decide) (by decide) rfl (by first | exact Nat.le_of_ble_eq_true rfl | (simp only [List.map_cons, List.map_nil, List.sum_cons, List.sum_nil, rv_cat]; exact Nat.le_of_ble_eq_true rfl))  ?_
            rintro _ _ ⟨rfl, rfl⟩
            refine r_if_eq (q := 140) (off := 17) (tgt := 154) C rfl (by decide +kernel) (by decide) (fun c137 => ?_) (fun c137 => ?_)
            · have ev : (0 : Int32) = b2i (anyb (fun c => inn x y w z c && σ.cv r c) (i + 1)) := by simp only [anyb, (b2i_0 _).mp c123, (b2i_0 _).mp c137, Bool.false_and, Bool.or_self]; rfl
              refine r_iconst (q := 155) (z := 0) (v := 0) C rfl (by decide +kernel) (by decide) ?_
              exact wX.sub (lsub_s (lsub_s (lsub_s (lsub_s (lsub_s (lsub_s (lsub_s (lsub_s (lsub_s (lsub_s (lsub_n (lsub_n (lsub_n (lsub_nil)))))))))))))) (J155 _ ev)
            · refine r_aload_n (q := 141) (z := 0) C 0 rfl (by decide +kernel) rfl rfl ?_
              refine r_iload_n (q := 142) (z := 1) C 1 rfl (by decide +kernel) rfl rfl ?_
              refine r_iload (q := 144) C 9 rfl (by decide +kernel) rfl ?_
              refine cV2I (q := 147) C R rfl (by decide +kernel) lk_X7_267 (c_X7_covers hm M W hr (by omega)) (by decide) (by decide) (by decide) rfl (by first | exact Nat.le_of_ble_eq_true rfl | (simp only [List.map_cons, List.map_nil, List.sum_cons, List.sum_nil, rv_cat]; exact Nat.le_of_ble_eq_true rfl)) rfl hm.1 ?_
              rintro _ _ ⟨rfl, rfl⟩
              refine r_if_eq (q := 150) (off := 7) (tgt := 154) C rfl (by decide +kernel) (by decide) (fun c147 => ?_) (fun c147 => ?_)
              · have ev : (0 : Int32) = b2i (anyb (fun c => inn x y w z c && σ.cv r c) (i + 1)) := by simp only [anyb, (b2i_0 _).mp c123, (b2i_0 _).mp c147, Bool.and_false, Bool.or_self]; rfl
                refine r_iconst (q := 155) (z := 0) (v := 0) C rfl (by decide +kernel) (by decide) ?_
                exact wX.sub (lsub_s (lsub_s (lsub_s (lsub_s (lsub_s (lsub_s (lsub_s (lsub_s (lsub_s (lsub_s (lsub_n (lsub_n (lsub_n (lsub_nil)))))))))))))) (J155 _ ev)
              · have ev : (1 : Int32) = b2i (anyb (fun c => inn x y w z c && σ.cv r c) (i + 1)) := by simp only [anyb, (b2i_n0 _).mp c137, (b2i_n0 _).mp c147, Bool.and_self, Bool.or_true]; rfl
                refine r_iconst (q := 151) (z := 1) (v := 1) C rfl (by decide +kernel) (by decide) ?_
                refine r_goto (off := 4) (tgt := 155) C (by decide +kernel) (by decide) ?_
                exact wX.sub (lsub_s (lsub_s (lsub_s (lsub_s (lsub_s (lsub_s (lsub_s (lsub_s (lsub_s (lsub_s (lsub_n (lsub_n (lsub_n (lsub_nil)))))))))))))) (J155 _ ev)
        refine r_iload (q := 87) C 7 rfl (by decide +kernel) rfl ?_
        refine r_if_eq (q := 90) (off := 31) (tgt := 118) C rfl (by decide +kernel) (by decide) (fun c87 => ?_) (fun c87 => ?_)
        · have ev : (0 : Int32) = b2i (((!inn x y w z (12 * σ.gr)) && !σ.cl (dcl x y w z)) && !anyb (fun c => inn x y w z c && σ.cl c) (i + 1)) := by
            have h9 := (b2i_0 _).mp c87
            simp only [anyb]
            cases e1 : ((!inn x y w z (12 * σ.gr)) && !σ.cl (dcl x y w z)) with
            | false => rfl
            | true => rw [e1] at h9; simp only [Bool.true_and, Bool.not_eq_false'] at h9; rw [h9]; rfl
          refine r_iconst (q := 119) (z := 0) (v := 0) C rfl (by decide +kernel) (by decide) ?_
          exact wX.sub (lsub_s (lsub_s (lsub_s (lsub_s (lsub_s (lsub_s (lsub_s (lsub_s (lsub_s (lsub_s (lsub_n (lsub_n (lsub_n (lsub_nil)))))))))))))) (J119 _ ev)
        · refine r_iload_n (q := 91) (z := 2) C 2 rfl (by decide +kernel) rfl rfl ?_
          refine r_iload_n (q := 92) (z := 3) C 3 rfl (by decide +kernel) rfl rfl ?_
          refine r_iload (q := 94) C 4 rfl (by decide +kernel) rfl ?_
          refine r_iload (q := 96) C 5 rfl (by decide +kernel) rfl ?_
          refine r_iload (q := 98) C 9 rfl (by decide +kernel) rfl ?_
          refine cS5I (q := 101) C R rfl (by decide +kernel) lk_X7_259 (c_X7_isIn (by omega) (by omega) (by omega) (by omega) (by omega)) (by decide) (by decide) (by decide) rfl (by first | exact Nat.le_of_ble_eq_true rfl | (simp only [List.map_cons, List.map_nil, List.sum_cons, List.sum_nil, rv_cat]; exact Nat.le_of_ble_eq_true rfl))  ?_
          rintro _ _ ⟨rfl, rfl⟩
          refine r_if_eq (q := 104) (off := 13) (tgt := 114) C rfl (by decide +kernel) (by decide) (fun c101 => ?_) (fun c101 => ?_)
          · have ev : (1 : Int32) = b2i (((!inn x y w z (12 * σ.gr)) && !σ.cl (dcl x y w z)) && !anyb (fun c => inn x y w z c && σ.cl c) (i + 1)) := by
              have h9 := (b2i_n0 _).mp c87
              simp only [anyb, (b2i_0 _).mp c101, Bool.false_and, Bool.or_false]
              rw [h9]; rfl
            refine r_iconst (q := 115) (z := 1) (v := 1) C rfl (by decide +kernel) (by decide) ?_
            refine r_goto (off := 4) (tgt := 119) C (by decide +kernel) (by decide) ?_
            exact wX.sub (lsub_s (lsub_s (lsub_s (lsub_s (lsub_s (lsub_s (lsub_s (lsub_s (lsub_s (lsub_s (lsub_n (lsub_n (lsub_n (lsub_nil)))))))))))))) (J119 _ ev)
          · refine r_aload_n (q := 105) (z := 0) C 0 rfl (by decide +kernel) rfl rfl ?_
            refine r_getR (q := 108) C 7 36 484 rfl (by decide +kernel) rfl (by decide) rfl rfl wf_X7_118 win7 hm.1 ?_
            refine r_iload (q := 110) C 9 rfl (by decide +kernel) rfl ?_
            refine r_zald (q := 111) C rfl (by decide +kernel) hm.k484 (vp_in_nI hlt (by decide)) ?_
            rw [nI_clamp (by omega), M.acl hlt]
            refine r_if_ne (q := 114) (off := 7) (tgt := 118) C rfl (by decide +kernel) (by decide) (fun c111 => ?_) (fun c111 => ?_)
            · have ev : (0 : Int32) = b2i (((!inn x y w z (12 * σ.gr)) && !σ.cl (dcl x y w z)) && !anyb (fun c => inn x y w z c && σ.cl c) (i + 1)) := by
                simp only [anyb, (b2i_n0 _).mp c101, (b2i_n0 _).mp c111, Bool.and_self, Bool.or_true, Bool.not_true, Bool.and_false]
                rfl
              refine r_iconst (q := 119) (z := 0) (v := 0) C rfl (by decide +kernel) (by decide) ?_
              exact wX.sub (lsub_s (lsub_s (lsub_s (lsub_s (lsub_s (lsub_s (lsub_s (lsub_s (lsub_s (lsub_s (lsub_n (lsub_n (lsub_n (lsub_nil)))))))))))))) (J119 _ ev)
            · have ev : (1 : Int32) = b2i (((!inn x y w z (12 * σ.gr)) && !σ.cl (dcl x y w z)) && !anyb (fun c => inn x y w z c && σ.cl c) (i + 1)) := by
                have h9 := (b2i_n0 _).mp c87
                simp only [anyb, (b2i_0 _).mp c111, Bool.and_false, Bool.or_false]
                rw [h9]; rfl
              refine r_iconst (q := 115) (z := 1) (v := 1) C rfl (by decide +kernel) (by decide) ?_
              refine r_goto (off := 4) (tgt := 119) C (by decide +kernel) (by decide) ?_
              exact wX.sub (lsub_s (lsub_s (lsub_s (lsub_s (lsub_s (lsub_s (lsub_s (lsub_s (lsub_s (lsub_s (lsub_n (lsub_n (lsub_n (lsub_nil)))))))))))))) (J119 _ ev)
  refine r_iload_n (q := 1) (z := 2) C 2 rfl (by decide +kernel) rfl rfl ?_
  refine r_iload (q := 3) C 4 rfl (by decide +kernel) rfl ?_
  refine r_iadd (q := 4) C rfl (by decide +kernel) ?_
  rw [nI_add]
  refine r_bipush (q := 6) (z := 12) (v := 12) C rfl (by decide +kernel) (by decide) ?_
  refine r_icmp_gt (q := 9) (off := 12) (tgt := 18) C rfl (by decide +kernel) (by decide) (fun c6 => ?_) (fun c6 => ?_)
  · rw [show (12 : Int32) = nI 12 from rfl, nI_ltI (by omega) (by omega)] at c6
    refine r_bipush (q := 20) (z := (-2)) (v := (-2)) C rfl (by decide +kernel) (by decide) ?_
    exact r_iret C (by decide +kernel) rfl (by decide) (by decide) (eqP hPP ⟨_, rfl, ⟨by rw [if_neg (by unfold SG.gok; simp; omega)], rfl⟩⟩)
  · rw [show (12 : Int32) = nI 12 from rfl, nI_ltI (by omega) (by omega)] at c6
    have hg1 : x + w ≤ 12 := by omega
    refine r_iload_n (q := 10) (z := 3) C 3 rfl (by decide +kernel) rfl rfl ?_
    refine r_iload (q := 12) C 5 rfl (by decide +kernel) rfl ?_
    refine r_iadd (q := 13) C rfl (by decide +kernel) ?_
    rw [nI_add]
    refine r_bipush (q := 15) (z := 10) (v := 10) C rfl (by decide +kernel) (by decide) ?_
    refine r_icmp_lt (q := 18) (off := 6) (tgt := 21) C rfl (by decide +kernel) (by decide) (fun c15 => ?_) (fun c15 => ?_)
    · rw [show (10 : Int32) = nI 10 from rfl, nI_ltI (by omega) (by omega)] at c15
      have hg2 : y + z < 10 := c15
      have J70 : ∀ (v : Int32), (x + w ≤ 12) → (y + z < 10) → (v = b2i (((!inn x y w z (12 * σ.gr)) && !σ.cl (dcl x y w z)) && !anyb (fun c => inn x y w z c && σ.cl c) 0)) → wX G Γ (qM G Γ PP 0 0) 0 0 (h) 70 [some (rv m), some (.int (nI r)), some (.int (nI x)), some (.int (nI y)), some (.int (nI w)), some (.int (nI z)), some (.int (nI (dcl x y w z))), none, none, none, none, none, none] [.int v] := by
        intro v hg1 hg2 hv
        subst hv
        refine r_istore (q := 72) C 7 rfl (by decide +kernel) (by decide) (by first | rfl | exact okst_rv rfl) ?_
        dsimp only [List.set]
        refine r_iconst (q := 73) (z := 0) (v := 0) C rfl (by decide +kernel) (by decide) ?_
        refine r_istore (q := 75) C 8 rfl (by decide +kernel) (by decide) (by first | rfl | exact okst_rv rfl) ?_
        dsimp only [List.set]
        refine r_iconst (q := 76) (z := 0) (v := 0) C rfl (by decide +kernel) (by decide) ?_
        refine r_istore (q := 78) C 9 rfl (by decide +kernel) (by decide) (by first | rfl | exact okst_rv rfl) ?_
        dsimp only [List.set]
        exact wX.sub (lsub_s (lsub_s (lsub_s (lsub_s (lsub_s (lsub_s (lsub_s (lsub_s (lsub_s (lsub_s (lsub_n (lsub_n (lsub_n (lsub_nil)))))))))))))) (L78 121 0 (by omega) (by omega) hg1 hg2)
      refine r_bipush (q := 23) (z := 12) (v := 12) C rfl (by decide +kernel) (by decide) ?_
      refine r_iload_n (q := 24) (z := 3) C 3 rfl (by decide +kernel) rfl rfl ?_
      refine r_iload (q := 26) C 5 rfl (by decide +kernel) rfl ?_
      refine r_iadd (q := 27) C rfl (by decide +kernel) ?_
      rw [nI_add]
      refine r_imul (q := 28) C rfl (by decide +kernel) ?_
      rw [show (12 : Int32) = nI 12 from rfl, pk_mul]
      refine r_iload_n (q := 29) (z := 2) C 2 rfl (by decide +kernel) rfl rfl ?_
      refine r_iadd (q := 30) C rfl (by decide +kernel) ?_
      rw [nI_add]
      refine r_iload (q := 32) C 4 rfl (by decide +kernel) rfl ?_
      refine r_iconst (q := 33) (z := 1) (v := 1) C rfl (by decide +kernel) (by decide) ?_
      refine r_isub (q := 34) C rfl (by decide +kernel) ?_
      rw [m1x _ (by omega)]
      refine r_iconst (q := 35) (z := 2) (v := 2) C rfl (by decide +kernel) (by decide) ?_
      refine r_idiv (q := 36) C rfl (by decide +kernel) (by decide) ?_
      rw [show nI (w - 1) / 2 = nI ((w - 1) / 2) from pk_div (d := 2) (by omega) (by decide) (by decide)]
      refine r_iadd (q := 37) C rfl (by decide +kernel) ?_
      rw [nI_add, show 12 * (y + z) + x + (w - 1) / 2 = dcl x y w z from rfl]
      have hdc : dcl x y w z < 120 := by unfold dcl; omega
      refine r_istore (q := 39) C 6 rfl (by decide +kernel) (by decide) (by first | rfl | exact okst_rv rfl) ?_
      dsimp only [List.set]
      refine r_iload_n (q := 40) (z := 2) C 2 rfl (by decide +kernel) rfl rfl ?_
      refine r_iload_n (q := 41) (z := 3) C 3 rfl (by decide +kernel) rfl rfl ?_
      refine r_iload (q := 43) C 4 rfl (by decide +kernel) rfl ?_
      refine r_iload (q := 45) C 5 rfl (by decide +kernel) rfl ?_
      refine r_aload_n (q := 46) (z := 0) C 0 rfl (by decide +kernel) rfl rfl ?_
      refine cV0I (q := 49) C R rfl (by decide +kernel) lk_X7_280 (c_X7_gateCell hm M W) (by decide) (by decide) (by decide) rfl (by first | exact Nat.le_of_ble_eq_true rfl | (simp only [List.map_cons, List.map_nil, List.sum_cons, List.sum_nil, rv_cat]; exact Nat.le_of_ble_eq_true rfl)) rfl hm.1 ?_
      rintro _ _ ⟨rfl, rfl⟩
      refine cS5I (q := 52) C R rfl (by decide +kernel) lk_X7_259 (c_X7_isIn (by omega) (by omega) (by omega) (by omega) (by omega)) (by decide) (by decide) (by decide) rfl (by first | exact Nat.le_of_ble_eq_true rfl | (simp only [List.map_cons, List.map_nil, List.sum_cons, List.sum_nil, rv_cat]; exact Nat.le_of_ble_eq_true rfl))  ?_
      rintro _ _ ⟨rfl, rfl⟩
      refine r_if_ne (q := 55) (off := 17) (tgt := 69) C rfl (by decide +kernel) (by decide) (fun c52 => ?_) (fun c52 => ?_)
      · have ev : (0 : Int32) = b2i (((!inn x y w z (12 * σ.gr)) && !σ.cl (dcl x y w z)) && !anyb (fun c => inn x y w z c && σ.cl c) 0) := by rw [(b2i_n0 _).mp c52]; rfl
        refine r_iconst (q := 70) (z := 0) (v := 0) C rfl (by decide +kernel) (by decide) ?_
        exact wX.sub (lsub_s (lsub_s (lsub_s (lsub_s (lsub_s (lsub_s (lsub_s (lsub_n (lsub_n (lsub_n (lsub_n (lsub_n (lsub_n (lsub_nil)))))))))))))) (J70 _ hg1 hg2 ev)
      · refine r_aload_n (q := 56) (z := 0) C 0 rfl (by decide +kernel) rfl rfl ?_
        refine r_getR (q := 59) C 7 36 484 rfl (by decide +kernel) rfl (by decide) rfl rfl wf_X7_118 win7 hm.1 ?_
        refine r_iload (q := 61) C 6 rfl (by decide +kernel) rfl ?_
        refine r_zald (q := 62) C rfl (by decide +kernel) hm.k484 (vp_in_nI hdc (by decide)) ?_
        rw [nI_clamp (by omega), M.acl hdc]
        refine r_if_ne (q := 65) (off := 7) (tgt := 69) C rfl (by decide +kernel) (by decide) (fun c62 => ?_) (fun c62 => ?_)
        · have ev : (0 : Int32) = b2i (((!inn x y w z (12 * σ.gr)) && !σ.cl (dcl x y w z)) && !anyb (fun c => inn x y w z c && σ.cl c) 0) := by rw [(b2i_n0 _).mp c62, Bool.not_true, Bool.and_false]; rfl
          refine r_iconst (q := 70) (z := 0) (v := 0) C rfl (by decide +kernel) (by decide) ?_
          exact wX.sub (lsub_s (lsub_s (lsub_s (lsub_s (lsub_s (lsub_s (lsub_s (lsub_n (lsub_n (lsub_n (lsub_n (lsub_n (lsub_n (lsub_nil)))))))))))))) (J70 _ hg1 hg2 ev)
        · have ev : (1 : Int32) = b2i (((!inn x y w z (12 * σ.gr)) && !σ.cl (dcl x y w z)) && !anyb (fun c => inn x y w z c && σ.cl c) 0) := by rw [(b2i_0 _).mp c52, (b2i_0 _).mp c62]; rfl
          refine r_iconst (q := 66) (z := 1) (v := 1) C rfl (by decide +kernel) (by decide) ?_
          refine r_goto (off := 4) (tgt := 70) C (by decide +kernel) (by decide) ?_
          exact wX.sub (lsub_s (lsub_s (lsub_s (lsub_s (lsub_s (lsub_s (lsub_s (lsub_n (lsub_n (lsub_n (lsub_n (lsub_n (lsub_n (lsub_nil)))))))))))))) (J70 _ hg1 hg2 ev)
    · rw [show (10 : Int32) = nI 10 from rfl, nI_ltI (by omega) (by omega)] at c15
      refine r_bipush (q := 20) (z := (-2)) (v := (-2)) C rfl (by decide +kernel) (by decide) ?_
      exact r_iret C (by decide +kernel) rfl (by decide) (by decide) (eqP hPP ⟨_, rfl, ⟨by rw [if_neg (by unfold SG.gok; simp; omega)], rfl⟩⟩)
theorem c_X7_change {G : GT} {h : HP} {m : Nat} {σ : SG} {x w z k : Int32} (hm : LM h.kd h.gl h.fr m) (M : MR σ h m) (W : WF σ) : Con G 5 0 0 yX7_change cX7_change 9 (some .int) [rv m, .int x, .int w, .int z, .int k] h (PI (fun v h' => cif (chP σ x w z k) (chV σ x.toNatClampNeg w.toNatClampNeg z.toNatClampNeg k) (-1) = v ∧ h.setI 448 m 0 = h')) := by
  refine Con.of (lv := [some (rv m), some (.int x), some (.int w), some (.int z), some (.int k), none, none, none, none]) (by decide) (by simp only [lvE_r, lvE_i, lvE_l, lvE_s, lvE_0]; rfl) (by simp only [lgl_r, lgl_i, lgl_l, lgl_s, lgl_0]; decide) (fun Γ C R => ?_)
  generalize hPP : (PI (fun v h' => cif (chP σ x w z k) (chV σ x.toNatClampNeg w.toNatClampNeg z.toNatClampNeg k) (-1) = v ∧ h.setI 448 m 0 = h')) = PP
  have r10 := W.n10
  have M1 : MR σ (h.setI 448 m 0) m := M.setI (by decide) (by decide) (by decide)
  refine r_aload_n (q := 1) (z := 0) C 0 rfl (by decide +kernel) rfl rfl ?_
  refine r_iconst (q := 2) (z := 0) (v := 0) C rfl (by decide +kernel) (by decide) ?_
  refine r_putI (q := 5) C 7 0 448 rfl (by decide +kernel) rfl (by decide) rfl rfl wf_X7_1 win7 tyX7 tyX7_ok nmX7 rfl (tyX7_ok 0 (by decide)) rfl wnd7 rfl rfl hm.1 ?_
  have J53 : (¬ chP σ x w z k) → wX G Γ (qM G Γ PP 0 0) 0 0 (h.setI 448 m 0) 53 [some (rv m), some (.int x), some (.int w), some (.int z), some (.int k), none, none, none, none] [] := by
    intro  hn
    refine r_iconst (q := 54) (z := (-1)) (v := (-1)) C rfl (by decide +kernel) (by decide) ?_
    exact r_iret C (by decide +kernel) rfl (by decide) (by decide) (eqP hPP ⟨_, rfl, ⟨cif_f hn, rfl⟩⟩)
  refine r_aload_n (q := 6) (z := 0) C 0 rfl (by decide +kernel) rfl rfl ?_
  refine r_iload_n (q := 7) (z := 1) C 1 rfl (by decide +kernel) rfl rfl ?_
  refine cV1I (q := 10) C R rfl (by decide +kernel) lk_X7_316 (c_X7_isRide hm M1) (by decide) (by decide) (by decide) rfl (by first | exact Nat.le_of_ble_eq_true rfl | (simp only [List.map_cons, List.map_nil, List.sum_cons, List.sum_nil, rv_cat]; exact Nat.le_of_ble_eq_true rfl)) rfl hm.1 ?_
  rintro _ _ ⟨rfl, rfl⟩
  refine r_if_eq (q := 13) (off := 43) (tgt := 53) C rfl (by decide +kernel) (by decide) (fun c10 => ?_) (fun c10 => ?_)
  · have c10 := of_decide_eq_false ((b2i_0 _).mp c10)
    exact wX.sub (lsub_s (lsub_s (lsub_s (lsub_s (lsub_s (lsub_n (lsub_n (lsub_n (lsub_n (lsub_nil)))))))))) (J53 (fun e => c10 e.1.1))
  · have c10 := of_decide_eq_true ((b2i_n0 _).mp c10)
    obtain ⟨r, hr, hxr⟩ := ride_of r10 c10
    refine r_aload_n (q := 14) (z := 0) C 0 rfl (by decide +kernel) rfl rfl ?_
    refine r_getR (q := 17) C 7 30 478 rfl (by decide +kernel) rfl (by decide) rfl rfl wf_X7_103 win7 hm.1 ?_
    refine r_iload_n (q := 18) (z := 1) C 1 rfl (by decide +kernel) rfl rfl ?_
    refine r_iald (q := 19) C rfl (by decide +kernel) hm.k478 (by rw [hxr]; exact vp_in_nI (by omega) (by decide)) ?_
    rw [show x.toNatClampNeg = r by rw [hxr]; exact nI_clamp (by omega)]
    rw [M1.ali (by omega)]
    refine r_if_lt (q := 22) (off := 34) (tgt := 53) C rfl (by decide +kernel) (by decide) (fun c19 => ?_) (fun c19 => ?_)
    · have c19 : ¬ σ.li x.toNatClampNeg < 240 := by rw [hxr, nI_clamp (by omega)]; exact pl_neg.mp c19
      exact wX.sub (lsub_s (lsub_s (lsub_s (lsub_s (lsub_s (lsub_n (lsub_n (lsub_n (lsub_n (lsub_nil)))))))))) (J53 (fun e => c19 e.1.2))
    · have c19 : σ.li x.toNatClampNeg < 240 := by rw [hxr, nI_clamp (by omega)]; exact pl_nn.mp c19
      refine r_iload_n (q := 23) (z := 2) C 2 rfl (by decide +kernel) rfl rfl ?_
      refine r_iconst (q := 24) (z := 1) (v := 1) C rfl (by decide +kernel) (by decide) ?_
      refine r_icmp_lt (q := 27) (off := 29) (tgt := 53) C rfl (by decide +kernel) (by decide) (fun c24 => ?_) (fun c24 => ?_)
      · exact wX.sub (lsub_s (lsub_s (lsub_s (lsub_s (lsub_s (lsub_n (lsub_n (lsub_n (lsub_n (lsub_nil)))))))))) (J53 (fun e => absurd e.2.1.1 (Int32.not_le.mpr c24)))
      · refine r_iload_n (q := 28) (z := 2) C 2 rfl (by decide +kernel) rfl rfl ?_
        refine r_iconst (q := 29) (z := 4) (v := 4) C rfl (by decide +kernel) (by decide) ?_
        refine r_icmp_gt (q := 32) (off := 24) (tgt := 53) C rfl (by decide +kernel) (by decide) (fun c29 => ?_) (fun c29 => ?_)
        · exact wX.sub (lsub_s (lsub_s (lsub_s (lsub_s (lsub_s (lsub_n (lsub_n (lsub_n (lsub_n (lsub_nil)))))))))) (J53 (fun e => absurd e.2.1.2 (Int32.not_le.mpr c29)))
        · refine r_iload_n (q := 33) (z := 3) C 3 rfl (by decide +kernel) rfl rfl ?_
          refine r_iconst (q := 34) (z := 1) (v := 1) C rfl (by decide +kernel) (by decide) ?_
          refine r_icmp_lt (q := 37) (off := 19) (tgt := 53) C rfl (by decide +kernel) (by decide) (fun c34 => ?_) (fun c34 => ?_)
          · exact wX.sub (lsub_s (lsub_s (lsub_s (lsub_s (lsub_s (lsub_n (lsub_n (lsub_n (lsub_n (lsub_nil)))))))))) (J53 (fun e => absurd e.2.2.1.1 (Int32.not_le.mpr c34)))
          · refine r_iload_n (q := 38) (z := 3) C 3 rfl (by decide +kernel) rfl rfl ?_
            refine r_iconst (q := 39) (z := 4) (v := 4) C rfl (by decide +kernel) (by decide) ?_
            refine r_icmp_gt (q := 42) (off := 14) (tgt := 53) C rfl (by decide +kernel) (by decide) (fun c39 => ?_) (fun c39 => ?_)
            · exact wX.sub (lsub_s (lsub_s (lsub_s (lsub_s (lsub_s (lsub_n (lsub_n (lsub_n (lsub_n (lsub_nil)))))))))) (J53 (fun e => absurd e.2.2.1.2 (Int32.not_le.mpr c39)))
            · refine r_iload (q := 44) C 4 rfl (by decide +kernel) rfl ?_
              refine r_if_lt (q := 47) (off := 9) (tgt := 53) C rfl (by decide +kernel) (by decide) (fun c44 => ?_) (fun c44 => ?_)
              · exact wX.sub (lsub_s (lsub_s (lsub_s (lsub_s (lsub_s (lsub_n (lsub_n (lsub_n (lsub_n (lsub_nil)))))))))) (J53 (fun e => absurd e.2.2.2.1 (Int32.not_le.mpr c44)))
              · refine r_iload (q := 49) C 4 rfl (by decide +kernel) rfl ?_
                refine r_iconst (q := 50) (z := 1) (v := 1) C rfl (by decide +kernel) (by decide) ?_
                refine r_icmp_le (q := 53) (off := 5) (tgt := 55) C rfl (by decide +kernel) (by decide) (fun c50 => ?_) (fun c50 => ?_)
                · have hy : chP σ x w z k := ⟨⟨c10, c19⟩, ⟨Int32.not_lt.mp c24, Int32.not_lt.mp c29⟩, ⟨Int32.not_lt.mp c34, Int32.not_lt.mp c39⟩, Int32.not_lt.mp c44, c50⟩
                  obtain ⟨w1, w2, w3⟩ := nI_rng (a := 1) (b := 4) (by decide) hy.2.1.1 hy.2.1.2 (by decide)
                  obtain ⟨z1, z2, z3⟩ := nI_rng (a := 1) (b := 4) (by decide) hy.2.2.1.1 hy.2.2.1.2 (by decide)
                  generalize ew0 : w.toNatClampNeg = w0 at w1 w2 w3
                  generalize ez0 : z.toNatClampNeg = z0 at z1 z2 z3
                  clear J53
                  subst w3
                  subst z3
                  subst hxr
                  refine r_bipush (q := 57) (z := (-2)) (v := (-2)) C rfl (by decide +kernel) (by decide) ?_
                  refine r_istore (q := 59) C 5 rfl (by decide +kernel) (by decide) (by first | rfl | exact okst_rv rfl) ?_
                  dsimp only [List.set]
                  refine r_iconst (q := 60) (z := 0) (v := 0) C rfl (by decide +kernel) (by decide) ?_
                  refine r_istore (q := 62) C 6 rfl (by decide +kernel) (by decide) (by first | rfl | exact okst_rv rfl) ?_
                  dsimp only [List.set]
                  refine r_iconst (q := 63) (z := 0) (v := 0) C rfl (by decide +kernel) (by decide) ?_
                  refine r_istore (q := 65) C 7 rfl (by decide +kernel) (by decide) (by first | rfl | exact okst_rv rfl) ?_
                  dsimp only [List.set]
                  have L65 : ∀ (fuel65 : Nat) (p : Nat), 240 - p < fuel65 → (p ≤ 240) → wX G Γ (qM G Γ PP 0 0) 0 0 (h.setI 448 m 0) 65 [some (rv m), some (.int (nI r)), some (.int (nI w0)), some (.int (nI z0)), some (.int k), some (.int (pm2 (chg σ r w0 z0 p).1)), some (.int (nI (chg σ r w0 z0 p).2)), some (.int (nI p)), none] [] := by
                    intro fuel65
                    induction fuel65 with
                    | zero =>
                      intro p hm65
                      exact absurd hm65 (Nat.not_lt_zero _)
                    | succ fuel65 ih65 =>
                      intro p hm65 hp
                      refine r_iload (q := 67) C 7 rfl (by decide +kernel) rfl ?_
                      refine r_sipush (q := 70) (z := 240) (v := 240) C rfl (by decide +kernel) (by decide) ?_
                      refine r_icmp_ge (q := 73) (off := 83) (tgt := 153) C rfl (by decide +kernel) (by decide) (fun c70 => ?_) (fun c70 => ?_)
                      · have ep : p = 240 := by have := (nI_leI (a := 240) (by omega) (by omega)).mp c70; omega
                        refine r_iload (q := 155) C 5 rfl (by decide +kernel) rfl ?_
                        refine r_if_ge (q := 158) (off := 8) (tgt := 163) C rfl (by decide +kernel) (by decide) (fun c155 => ?_) (fun c155 => ?_)
                        · have hb : (chg σ r w0 z0 p).1 < 240 := Classical.not_not.mp (mt pm2_neg.mpr (Int32.not_lt.mpr c155))
                          refine r_iload (q := 165) C 4 rfl (by decide +kernel) rfl ?_
                          refine r_if_ne (q := 168) (off := 8) (tgt := 173) C rfl (by decide +kernel) (by decide) (fun c165 => ?_) (fun c165 => ?_)
                          · refine r_iload (q := 175) C 5 rfl (by decide +kernel) rfl ?_
                            exact r_iret C (by decide +kernel) rfl (by decide) (by decide) (eqP hPP ⟨_, rfl, ⟨by rw [cif_t hy, nI_clamp (by omega), ew0, ez0]; subst ep; unfold chV; first | (rw [if_neg hb]; done) | (rw [if_pos hb, if_pos c165]; done) | (rw [if_pos hb, if_neg c165]; exact (if_pos hb).symm), rfl⟩⟩)
                          · refine r_iload (q := 170) C 6 rfl (by decide +kernel) rfl ?_
                            refine r_goto (off := 5) (tgt := 175) C (by decide +kernel) (by decide) ?_
                            exact r_iret C (by decide +kernel) rfl (by decide) (by decide) (eqP hPP ⟨_, rfl, ⟨by rw [cif_t hy, nI_clamp (by omega), ew0, ez0]; subst ep; unfold chV; first | (rw [if_neg hb]; done) | (rw [if_pos hb, if_pos c165]; done) | (rw [if_pos hb, if_neg c165]; exact (if_pos hb).symm), rfl⟩⟩)
                        · have hb : ¬ (chg σ r w0 z0 p).1 < 240 := pm2_neg.mp (Int32.not_le.mp c155)
                          refine r_bipush (q := 160) (z := (-2)) (v := (-2)) C rfl (by decide +kernel) (by decide) ?_
                          refine r_goto (off := 15) (tgt := 175) C (by decide +kernel) (by decide) ?_
                          exact r_iret C (by decide +kernel) rfl (by decide) (by decide) (eqP hPP ⟨_, rfl, ⟨by rw [cif_t hy, nI_clamp (by omega), ew0, ez0]; subst ep; unfold chV; first | (rw [if_neg hb]; done) | (rw [if_pos hb, if_pos c165]; done) | (rw [if_pos hb, if_neg c165]; exact (if_pos hb).symm), rfl⟩⟩)
                      · have hlt : p < 240 := Nat.lt_of_not_le (fun e => c70 (nI_le (a := 240) e (by omega)))
                        have J147 : ∀ (v5 v6 : Int32), (v5 = pm2 (chg σ r w0 z0 (p + 1)).1) → (v6 = nI (chg σ r w0 z0 (p + 1)).2) → wX G Γ (qM G Γ PP 0 0) 0 0 (h.setI 448 m 0) 147 [some (rv m), some (.int (nI r)), some (.int (nI w0)), some (.int (nI z0)), some (.int k), some (.int v5), some (.int v6), some (.int (nI p)), none] [] := by
                          intro v5 v6 hv5 hv6
                          subst hv5
                          subst hv6
                          refine r_iinc (q := 150) (z := 1) (v := 1) C 7 rfl (by decide +kernel) rfl (by decide) (by decide) (by first | rfl | exact okst_rv rfl) ?_
                          dsimp only [List.set]
                          rw [nI_1]
                          refine r_goto (off := -85) (tgt := 65) C (by decide +kernel) (by decide) ?_
                          exact wX.sub (lsub_s (lsub_s (lsub_s (lsub_s (lsub_s (lsub_s (lsub_s (lsub_s (lsub_n (lsub_nil)))))))))) (ih65 (p + 1) (by omega) (by omega))
                        have J111 : ∀ (v : Int32), (v = nI (wAt z0 w0 p)) → wX G Γ (qM G Γ PP 0 0) 0 0 (h.setI 448 m 0) 111 [some (rv m), some (.int (nI r)), some (.int (nI w0)), some (.int (nI z0)), some (.int k), some (.int (pm2 (chg σ r w0 z0 p).1)), some (.int (nI (chg σ r w0 z0 p).2)), some (.int (nI p)), none] [.int v, .int (nI (wAt w0 z0 p)), .int (nI (py p)), .int (nI (px p)), .int (nI r), rv m] := by
                          intro v hv
                          subst hv
                          refine cV5I (q := 114) C R rfl (by decide +kernel) lk_X7_359 (c_X7_movesFor hm M1 W hr px_lt (py_lt hlt) (wAt_r ⟨w1, w2⟩ ⟨z1, z2⟩) (wAt_r ⟨z1, z2⟩ ⟨w1, w2⟩)) (by decide) (by decide) (by decide) rfl (by first | exact Nat.le_of_ble_eq_true rfl | (simp only [List.map_cons, List.map_nil, List.sum_cons, List.sum_nil, rv_cat]; exact Nat.le_of_ble_eq_true rfl)) rfl hm.1 ?_
                          rintro _ _ ⟨rfl, rfl⟩
                          have hm10 := mset_10 (σ.mvq r (px p) (py p) (wAt w0 z0 p) (wAt z0 w0 p)) r10
                          have hp1 := popk_le (mset (σ.mvq r (px p) (py p) (wAt w0 z0 p) (wAt z0 w0 p)) σ.n) 10
                          have hp2 := popk_le (chg σ r w0 z0 p).2 10
                          have hc2 := chg_2 r10 (r := r) (w := w0) (z := z0) p
                          refine r_istore (q := 116) C 8 rfl (by decide +kernel) (by decide) (by first | rfl | exact okst_rv rfl) ?_
                          dsimp only [List.set]
                          refine r_iload (q := 118) C 8 rfl (by decide +kernel) rfl ?_
                          refine r_if_lt (q := 121) (off := 29) (tgt := 147) C rfl (by decide +kernel) (by decide) (fun c118 => ?_) (fun c118 => ?_)
                          · have hg : σ.gok r (px p) (py p) (wAt w0 z0 p) (wAt z0 w0 p) = false := by
                              cases e : σ.gok r (px p) (py p) (wAt w0 z0 p) (wAt z0 w0 p) with
                              | false => rfl
                              | true => rw [e] at c118; exact absurd c118 (nI_pos (by omega))
                            have ec : (chg σ r w0 z0 (p + 1)) = (chg σ r w0 z0 p) := by simp only [chg, hg, Bool.false_and]; rfl
                            exact wX.sub (lsub_s (lsub_s (lsub_s (lsub_s (lsub_s (lsub_s (lsub_s (lsub_s (lsub_n (lsub_nil)))))))))) (J147 _ _ (by rw [ec]) (by rw [ec]))
                          · have hg : σ.gok r (px p) (py p) (wAt w0 z0 p) (wAt z0 w0 p) = true := by
                              cases e : σ.gok r (px p) (py p) (wAt w0 z0 p) (wAt z0 w0 p) with
                              | true => rfl
                              | false => rw [e] at c118; exact absurd (show (-2 : Int32) < 0 by decide) c118
                            rw [if_pos hg] at c118 ⊢
                            refine r_iload (q := 123) C 5 rfl (by decide +kernel) rfl ?_
                            refine r_if_lt (q := 126) (off := 16) (tgt := 139) C rfl (by decide +kernel) (by decide) (fun c123 => ?_) (fun c123 => ?_)
                            · have ec : (chg σ r w0 z0 (p + 1)) = (p, (mset (σ.mvq r (px p) (py p) (wAt w0 z0 p) (wAt z0 w0 p)) σ.n)) := by simp only [chg, hg, Bool.true_and]; rw [if_pos]; simp [pm2_neg.mp c123]
                              refine r_iload (q := 141) C 7 rfl (by decide +kernel) rfl ?_
                              refine r_istore (q := 143) C 5 rfl (by decide +kernel) (by decide) (by first | rfl | exact okst_rv rfl) ?_
                              dsimp only [List.set]
                              refine r_iload (q := 145) C 8 rfl (by decide +kernel) rfl ?_
                              refine r_istore (q := 147) C 6 rfl (by decide +kernel) (by decide) (by first | rfl | exact okst_rv rfl) ?_
                              dsimp only [List.set]
                              exact wX.sub (lsub_s (lsub_s (lsub_s (lsub_s (lsub_s (lsub_s (lsub_s (lsub_s (lsub_n (lsub_nil)))))))))) (J147 _ _ (by rw [ec]; exact (if_pos hlt).symm) (by rw [ec]))
                            · refine r_iload (q := 128) C 8 rfl (by decide +kernel) rfl ?_
                              refine cS1I (q := 131) C R rfl (by decide +kernel) lk_X7_363 (c_X7_bits hm10) (by decide) (by decide) (by decide) rfl (by first | exact Nat.le_of_ble_eq_true rfl | (simp only [List.map_cons, List.map_nil, List.sum_cons, List.sum_nil, rv_cat]; exact Nat.le_of_ble_eq_true rfl))  ?_
                              rintro _ _ ⟨rfl, rfl⟩
                              refine r_iload (q := 133) C 6 rfl (by decide +kernel) rfl ?_
                              refine cS1I (q := 136) C R rfl (by decide +kernel) lk_X7_363 (c_X7_bits hc2) (by decide) (by decide) (by decide) rfl (by first | exact Nat.le_of_ble_eq_true rfl | (simp only [List.map_cons, List.map_nil, List.sum_cons, List.sum_nil, rv_cat]; exact Nat.le_of_ble_eq_true rfl))  ?_
                              rintro _ _ ⟨rfl, rfl⟩
                              refine r_icmp_ge (q := 139) (off := 11) (tgt := 147) C rfl (by decide +kernel) (by decide) (fun c136 => ?_) (fun c136 => ?_)
                              · have hb : (chg σ r w0 z0 p).1 < 240 := Classical.not_not.mp (mt pm2_neg.mpr c123)
                                have c136 := (nI_leI (by show popk _ 10 < _; omega) (by show popk _ 10 < _; omega)).mp c136
                                have ec : (chg σ r w0 z0 (p + 1)) = (chg σ r w0 z0 p) := by simp only [chg, hg, Bool.true_and]; rw [if_neg]; simp [hb]; omega
                                exact wX.sub (lsub_s (lsub_s (lsub_s (lsub_s (lsub_s (lsub_s (lsub_s (lsub_s (lsub_n (lsub_nil)))))))))) (J147 _ _ (by rw [ec]) (by rw [ec]))
                              · have hb : (chg σ r w0 z0 p).1 < 240 := Classical.not_not.mp (mt pm2_neg.mpr c123)
                                have c136 := mt (fun e => nI_le e (by show popk _ 10 < _; omega)) c136
                                have ec : (chg σ r w0 z0 (p + 1)) = (p, (mset (σ.mvq r (px p) (py p) (wAt w0 z0 p) (wAt z0 w0 p)) σ.n)) := by simp only [chg, hg, Bool.true_and]; rw [if_pos]; simp [hb]; omega
                                refine r_iload (q := 141) C 7 rfl (by decide +kernel) rfl ?_
                                refine r_istore (q := 143) C 5 rfl (by decide +kernel) (by decide) (by first | rfl | exact okst_rv rfl) ?_
                                dsimp only [List.set]
                                refine r_iload (q := 145) C 8 rfl (by decide +kernel) rfl ?_
                                refine r_istore (q := 147) C 6 rfl (by decide +kernel) (by decide) (by first | rfl | exact okst_rv rfl) ?_
                                dsimp only [List.set]
                                exact wX.sub (lsub_s (lsub_s (lsub_s (lsub_s (lsub_s (lsub_s (lsub_s (lsub_s (lsub_n (lsub_nil)))))))))) (J147 _ _ (by rw [ec]; exact (if_pos hlt).symm) (by rw [ec]))
                        have J98 : ∀ (v : Int32), (v = nI (wAt w0 z0 p)) → wX G Γ (qM G Γ PP 0 0) 0 0 (h.setI 448 m 0) 98 [some (rv m), some (.int (nI r)), some (.int (nI w0)), some (.int (nI z0)), some (.int k), some (.int (pm2 (chg σ r w0 z0 p).1)), some (.int (nI (chg σ r w0 z0 p).2)), some (.int (nI p)), none] [.int v, .int (nI (py p)), .int (nI (px p)), .int (nI r), rv m] := by
                          intro v hv
                          subst hv
                          refine r_iload (q := 100) C 7 rfl (by decide +kernel) rfl ?_
                          refine r_iconst (q := 101) (z := 2) (v := 2) C rfl (by decide +kernel) (by decide) ?_
                          refine r_irem (q := 102) C rfl (by decide +kernel) (by decide) ?_
                          rw [show nI p - nI p / 2 * 2 = nI (p % 2) from pk_rem (d := 2) (by omega) (by decide) (by decide)]
                          refine r_iconst (q := 103) (z := 1) (v := 1) C rfl (by decide +kernel) (by decide) ?_
                          refine r_icmp_ne (q := 106) (off := 7) (tgt := 110) C rfl (by decide +kernel) (by decide) (fun c103 => ?_) (fun c103 => ?_)
                          · have ev : nI z0 = nI (wAt z0 w0 p) := by rw [wAt, if_neg (fun e => c103 (by rw [e]; rfl))]
                            refine r_iload_n (q := 111) (z := 3) C 3 rfl (by decide +kernel) rfl rfl ?_
                            exact wX.sub (lsub_s (lsub_s (lsub_s (lsub_s (lsub_s (lsub_s (lsub_s (lsub_s (lsub_n (lsub_nil)))))))))) (J111 _ ev)
                          · have ev : nI w0 = nI (wAt z0 w0 p) := by rw [wAt, if_pos ((nI_eq (b := 1) (by omega) (by decide)).mp c103)]
                            refine r_iload_n (q := 107) (z := 2) C 2 rfl (by decide +kernel) rfl rfl ?_
                            refine r_goto (off := 4) (tgt := 111) C (by decide +kernel) (by decide) ?_
                            exact wX.sub (lsub_s (lsub_s (lsub_s (lsub_s (lsub_s (lsub_s (lsub_s (lsub_s (lsub_n (lsub_nil)))))))))) (J111 _ ev)
                        refine r_aload_n (q := 74) (z := 0) C 0 rfl (by decide +kernel) rfl rfl ?_
                        refine r_iload_n (q := 75) (z := 1) C 1 rfl (by decide +kernel) rfl rfl ?_
                        refine r_iload (q := 77) C 7 rfl (by decide +kernel) rfl ?_
                        refine cS1I (q := 80) C R rfl (by decide +kernel) lk_X7_246 (c_X7_placeX hlt) (by decide) (by decide) (by decide) rfl (by first | exact Nat.le_of_ble_eq_true rfl | (simp only [List.map_cons, List.map_nil, List.sum_cons, List.sum_nil, rv_cat]; exact Nat.le_of_ble_eq_true rfl))  ?_
                        rintro _ _ ⟨rfl, rfl⟩
                        refine r_iload (q := 82) C 7 rfl (by decide +kernel) rfl ?_
                        refine cS1I (q := 85) C R rfl (by decide +kernel) lk_X7_249 (c_X7_placeY hlt) (by decide) (by decide) (by decide) rfl (by first | exact Nat.le_of_ble_eq_true rfl | (simp only [List.map_cons, List.map_nil, List.sum_cons, List.sum_nil, rv_cat]; exact Nat.le_of_ble_eq_true rfl))  ?_
                        rintro _ _ ⟨rfl, rfl⟩
                        refine r_iload (q := 87) C 7 rfl (by decide +kernel) rfl ?_
                        refine r_iconst (q := 88) (z := 2) (v := 2) C rfl (by decide +kernel) (by decide) ?_
                        refine r_irem (q := 89) C rfl (by decide +kernel) (by decide) ?_
                        rw [show nI p - nI p / 2 * 2 = nI (p % 2) from pk_rem (d := 2) (by omega) (by decide) (by decide)]
                        refine r_iconst (q := 90) (z := 1) (v := 1) C rfl (by decide +kernel) (by decide) ?_
                        refine r_icmp_ne (q := 93) (off := 7) (tgt := 97) C rfl (by decide +kernel) (by decide) (fun c90 => ?_) (fun c90 => ?_)
                        · have ev : nI w0 = nI (wAt w0 z0 p) := by rw [wAt, if_neg (fun e => c90 (by rw [e]; rfl))]
                          refine r_iload_n (q := 98) (z := 2) C 2 rfl (by decide +kernel) rfl rfl ?_
                          exact wX.sub (lsub_s (lsub_s (lsub_s (lsub_s (lsub_s (lsub_s (lsub_s (lsub_s (lsub_n (lsub_nil)))))))))) (J98 _ ev)
                        · have ev : nI z0 = nI (wAt w0 z0 p) := by rw [wAt, if_pos ((nI_eq (b := 1) (by omega) (by decide)).mp c90)]
                          refine r_iload_n (q := 94) (z := 3) C 3 rfl (by decide +kernel) rfl rfl ?_
                          refine r_goto (off := 4) (tgt := 98) C (by decide +kernel) (by decide) ?_
                          exact wX.sub (lsub_s (lsub_s (lsub_s (lsub_s (lsub_s (lsub_s (lsub_s (lsub_s (lsub_n (lsub_nil)))))))))) (J98 _ ev)
                  exact wX.sub (lsub_s (lsub_s (lsub_s (lsub_s (lsub_s (lsub_s (lsub_s (lsub_s (lsub_n (lsub_nil)))))))))) (L65 241 0 (by omega) (by omega))
                · exact wX.sub (lsub_s (lsub_s (lsub_s (lsub_s (lsub_s (lsub_n (lsub_n (lsub_n (lsub_n (lsub_nil)))))))))) (J53 (fun e => c50 e.2.2.2.2))
end
section
/-! ===== power ===== -/
def SG.ln (σ : SG) (r : Nat) : Nat := σ.dr r % 12 / 4
def SG.on (σ : SG) (l r : Nat) : Bool := decide (σ.li r < 240) && decide (σ.ln r = l)
theorem ln_lt {σ : SG} {r : Nat} : σ.ln r < 3 := by unfold SG.ln; omega
def sumP (σ : SG) (p : Nat → Bool) : Nat → Nat
  | 0 => 0
  | k + 1 => sumP σ p k + (if p k then σ.pw k else 0)
def pwS (σ : SG) : List Nat → Nat
  | [] => 0
  | a :: t => σ.pw a + pwS σ t
theorem sumP_congr {σ : SG} {p q : Nat → Bool} : ∀ n, (∀ k, k < n → p k = q k) → sumP σ p n = sumP σ q n
  | 0, _ => rfl
  | n + 1, h => by simp only [sumP]; rw [sumP_congr n (fun k hk => h k (by omega)), h n (by omega)]
theorem sumP_rm {σ : SG} {p : Nat → Bool} {a : Nat} (ha : p a = true) : ∀ n, a < n → sumP σ p n = σ.pw a + sumP σ (fun j => p j && decide (j ≠ a)) n
  | 0, h => absurd h (Nat.not_lt_zero _)
  | n + 1, h => by
    simp only [sumP]
    by_cases e : a = n
    · subst e
      rw [sumP_congr (σ := σ) (p := fun j => p j && decide (j ≠ a)) (q := p) a (fun k hk => by simp [show k ≠ a by omega])]
      simp [ha]; omega
    · rw [sumP_rm ha n (by omega)]
      simp [show n ≠ a by omega]; omega
theorem sumP_0 {σ : SG} {p : Nat → Bool} : ∀ n, (∀ k, k < n → p k = false) → sumP σ p n = 0
  | 0, _ => rfl
  | n + 1, h => by simp [sumP, sumP_0 n (fun k hk => h k (by omega)), h n (by omega)]
theorem sumP_list {σ : SG} {n : Nat} : ∀ (l : List Nat) (p : Nat → Bool), l.Nodup → (∀ j ∈ l, j < n) → (∀ j, j < n → (p j = true ↔ j ∈ l)) → sumP σ p n = pwS σ l
  | [], p, _, _, h => sumP_0 n (fun k hk => by
      cases e : p k with
      | false => rfl
      | true => exact absurd ((h k hk).mp e) List.not_mem_nil)
  | a :: t, p, hn, hb, h => by
    rw [List.nodup_cons] at hn
    have ha := hb a List.mem_cons_self
    rw [sumP_rm ((h a ha).mpr List.mem_cons_self) n ha, pwS]
    congr 1
    refine sumP_list t _ hn.2 (fun j hj => hb j (List.mem_cons_of_mem _ hj)) (fun j hj => ?_)
    rw [Bool.and_eq_true, h j hj, List.mem_cons, decide_eq_true_eq]
    constructor
    · rintro ⟨e | e, e2⟩
      · exact absurd e e2
      · exact e
    · intro e
      exact ⟨Or.inr e, fun e2 => hn.1 (e2 ▸ e)⟩
theorem sumP_le {σ : SG} (hw : WF σ) {p : Nat → Bool} : ∀ n, n ≤ σ.n → sumP σ p n ≤ 100 * n
  | 0, _ => Nat.le_refl _
  | n + 1, h => by
    have h1 := sumP_le hw (p := p) n (by omega)
    have h2 := (hw.2.2.1 n (by omega)).2.2.2.2.1
    simp only [sumP]; split <;> omega
/-- who goes dark first stands first; what is left when the line bears it -/
def drk (σ : SG) (B : Nat) : List Nat → List Nat
  | [] => []
  | a :: t => if B < pwS σ (a :: t) then drk σ B t else a :: t
def leastN (σ : SG) (lt : Nat → Bool) : Nat → Nat
  | 0 => 10
  | k + 1 => if lt k && (decide (¬ leastN σ lt k < 10) || decide (σ.rk k ≤ σ.rk (leastN σ lt k))) then k else leastN σ lt k
theorem leastN_lt {σ : SG} {as : Nat → Bool} : ∀ {k : Nat}, k ≤ 10 → leastN σ as k < 10 → leastN σ as k < k
  | 0, _, h => absurd h (show ¬ (10 : Nat) < 10 by decide)
  | k + 1, hk, h => by
    simp only [leastN] at h ⊢
    by_cases e : (as k && (decide (¬ leastN σ as k < 10) || decide (σ.rk k ≤ σ.rk (leastN σ as k)))) = true
    · rw [if_pos e]; omega
    · rw [if_neg e] at h ⊢
      have := leastN_lt (by omega) h; omega
theorem leastN_n {σ : SG} {lt : Nat → Bool} {k : Nat} (h : lt k = false) : leastN σ lt (k + 1) = leastN σ lt k := by simp only [leastN]; rw [h]; rfl
theorem leastN_t {σ : SG} {lt : Nat → Bool} {k : Nat} (h : lt k = true) (h2 : ¬ leastN σ lt k < 10 ∨ σ.rk k ≤ σ.rk (leastN σ lt k)) : leastN σ lt (k + 1) = k := by
  simp only [leastN]; rw [h, if_pos]; rw [Bool.true_and, Bool.or_eq_true, decide_eq_true_eq, decide_eq_true_eq]; exact h2
theorem leastN_f {σ : SG} {lt : Nat → Bool} {k : Nat} (hb : leastN σ lt k < 10) (h2 : ¬ σ.rk k ≤ σ.rk (leastN σ lt k)) : leastN σ lt (k + 1) = leastN σ lt k := by
  simp only [leastN]; rw [if_neg]; intro e; rw [Bool.and_eq_true, Bool.or_eq_true, decide_eq_true_eq, decide_eq_true_eq] at e; exact e.2.elim (fun q => q hb) h2
theorem least_hd {σ : SG} {as : Nat → Bool} {l : List Nat} (hs : l.Pairwise (fun a b => bfr σ b a)) (hn : σ.n ≤ 10) (hl : ∀ j, j < σ.n → (as j = true ↔ j ∈ l)) (hb : ∀ j ∈ l, j < σ.n) : leastN σ as σ.n = hd10 l := by
  have key : ∀ k, k ≤ σ.n → (leastN σ as k = 10 ∧ ∀ j, j < k → j ∉ l) ∨ (leastN σ as k < k ∧ leastN σ as k ∈ l ∧ ∀ j, j < k → j ∈ l → j = leastN σ as k ∨ bfr σ j (leastN σ as k)) := by
    intro k
    induction k with
    | zero => intro _; exact Or.inl ⟨rfl, fun j hj => absurd hj (Nat.not_lt_zero j)⟩
    | succ k ih =>
      intro hk
      have hk' := hl k (by omega)
      simp only [leastN]
      rcases ih (by omega) with ⟨e1, e2⟩ | ⟨e1, e2, e3⟩
      · by_cases ha : as k = true
        · rw [if_pos (by simp [ha, e1])]
          refine Or.inr ⟨by omega, hk'.mp ha, fun j hj hm => ?_⟩
          by_cases ej : j = k
          · exact Or.inl ej
          · exact absurd hm (e2 j (by omega))
        · rw [if_neg (by simp [ha])]
          refine Or.inl ⟨e1, fun j hj hm => ?_⟩
          by_cases ej : j = k
          · exact ha (hk'.mpr (ej ▸ hm))
          · exact e2 j (by omega) hm
      · by_cases ha : as k = true
        · by_cases hr : σ.rk k ≤ σ.rk (leastN σ as k)
          · rw [if_pos (by simp [ha, hr])]
            refine Or.inr ⟨by omega, hk'.mp ha, fun j hj hm => ?_⟩
            by_cases ej : j = k
            · exact Or.inl ej
            · refine Or.inr ?_
              rcases e3 j (by omega) hm with e | e
              · subst e; unfold bfr; omega
              · unfold bfr at e ⊢; omega
          · rw [if_neg (by simp [hr]; omega)]
            refine Or.inr ⟨by omega, e2, fun j hj hm => ?_⟩
            by_cases ej : j = k
            · subst ej
              refine Or.inr ?_
              unfold bfr; omega
            · exact e3 j (by omega) hm
        · rw [if_neg (by simp [ha])]
          refine Or.inr ⟨by omega, e2, fun j hj hm => ?_⟩
          by_cases ej : j = k
          · exact absurd (hk'.mpr (ej ▸ hm)) ha
          · exact e3 j (by omega) hm
  cases l with
  | nil =>
    rcases key σ.n (Nat.le_refl _) with ⟨e1, -⟩ | ⟨-, e2, -⟩
    · exact e1
    · cases e2
  | cons a t =>
    rw [List.pairwise_cons] at hs
    have ha := hb a List.mem_cons_self
    rcases key σ.n (Nat.le_refl _) with ⟨-, e2⟩ | ⟨e1, e2, e3⟩
    · exact absurd List.mem_cons_self (e2 a ha)
    · rcases e3 a ha List.mem_cons_self with e | e
      · exact e.symm
      · rcases List.mem_cons.mp e2 with e4 | e4
        · exact e4
        · have := hs.1 _ e4
          unfold bfr at this e; omega
/-- of the line l, who goes dark first -/
def dkL (σ : SG) (L : List Nat) (l : Nat) : List Nat := L.reverse.filter (σ.on l)
theorem dkL_mem {σ : SG} {L : List Nat} (hL : Srt σ L) {l j : Nat} : j ∈ dkL σ L l ↔ j < σ.n ∧ σ.on l j = true := by
  unfold dkL; rw [List.mem_filter, List.mem_reverse, hL.2]
theorem dkL_srt {σ : SG} {L : List Nat} (hL : Srt σ L) {l : Nat} : (dkL σ L l).Pairwise (fun a b => bfr σ b a) := by
  unfold dkL; exact (List.pairwise_reverse.mpr hL.1).filter _
theorem nd_dk {σ : SG} : ∀ {l : List Nat}, l.Pairwise (fun a b => bfr σ b a) → l.Nodup
  | [], _ => List.nodup_nil
  | a :: l, h => by
    rw [List.pairwise_cons] at h
    rw [List.nodup_cons]
    refine ⟨fun e => ?_, nd_dk h.2⟩
    have := h.1 a e
    unfold bfr at this; omega
theorem pwS_le {σ : SG} (hw : WF σ) {l : List Nat} (hn : l.Nodup) (hb : ∀ j ∈ l, j < σ.n) : pwS σ l ≤ 1000 := by
  rw [← sumP_list l (fun j => decide (j ∈ l)) hn hb (fun j _ => by simp)]
  have := sumP_le hw (p := fun j => decide (j ∈ l)) σ.n (Nat.le_refl _)
  have := hw.1
  omega
def ltP (σ : SG) (x : Int32) : Prop := (0 ≤ x ∧ x < nI σ.n) ∧ σ.li x.toNatClampNeg < 240
def ltV (σ : SG) (be : Nat → Nat) (L : List Nat) (r : Nat) : Int32 := if r ∈ drk σ (be (σ.ln r)) (dkL σ L (σ.ln r)) then 1 else 0

theorem c_X7_lineOf {G : GT} {h : HP} {m : Nat} {σ : SG} {r : Nat} (hm : LM h.kd h.gl h.fr m) (M : MR σ h m) (W : WF σ) (hr : r < σ.n) : Con G 4 0 0 yX7_lineOf cX7_lineOf 2 (some .int) [rv m, .int (nI r)] h (PI (fun v h' => (if σ.li r < 240 then nI (σ.ln r) else -1) = v ∧ h = h')) := by
  refine Con.of (lv := [some (rv m), some (.int (nI r))]) (by decide) (by simp only [lvE_r, lvE_i, lvE_l, lvE_s, lvE_0]; rfl) (by simp only [lgl_r, lgl_i, lgl_l, lgl_s, lgl_0]; decide) (fun Γ C R => ?_)
  generalize hPP : (PI (fun v h' => (if σ.li r < 240 then nI (σ.ln r) else -1) = v ∧ h = h')) = PP
  have r10 := W.n10
  refine r_aload_n (q := 1) (z := 0) C 0 rfl (by decide +kernel) rfl rfl ?_
  refine r_getR (q := 4) C 7 30 478 rfl (by decide +kernel) rfl (by decide) rfl rfl wf_X7_103 win7 hm.1 ?_
  refine r_iload_n (q := 5) (z := 1) C 1 rfl (by decide +kernel) rfl rfl ?_
  refine r_iald (q := 6) C rfl (by decide +kernel) hm.k478 (vp_in_nI (by omega) (by decide)) ?_
  rw [nI_clamp (by omega), M.ali (by omega)]
  refine r_if_ge (q := 9) (off := 7) (tgt := 13) C rfl (by decide +kernel) (by decide) (fun c6 => ?_) (fun c6 => ?_)
  · have hl := pl_le.mp c6
    have hd := W.dr hr hl
    refine r_aload_n (q := 14) (z := 0) C 0 rfl (by decide +kernel) rfl rfl ?_
    refine r_iload_n (q := 15) (z := 1) C 1 rfl (by decide +kernel) rfl rfl ?_
    refine cV1I (q := 18) C R rfl (by decide +kernel) lk_X7_292 (c_X7_door hm M W hr) (by decide) (by decide) (by decide) rfl (by first | exact Nat.le_of_ble_eq_true rfl | (simp only [List.map_cons, List.map_nil, List.sum_cons, List.sum_nil, rv_cat]; exact Nat.le_of_ble_eq_true rfl)) rfl hm.1 ?_
    rintro _ _ ⟨rfl, rfl⟩
    rw [if_pos hl]
    refine r_bipush (q := 20) (z := 12) (v := 12) C rfl (by decide +kernel) (by decide) ?_
    refine r_irem (q := 21) C rfl (by decide +kernel) (by decide) ?_
    rw [rem12 hd]
    refine r_iconst (q := 22) (z := 4) (v := 4) C rfl (by decide +kernel) (by decide) ?_
    refine r_idiv (q := 23) C rfl (by decide +kernel) (by decide) ?_
    rw [show nI (σ.dr r % 12) / 4 = nI (σ.dr r % 12 / 4) from pk_div (d := 4) (by omega) (by decide) (by decide)]
    exact r_iret C (by decide +kernel) rfl (by decide) (by decide) (eqP hPP ⟨_, rfl, ⟨by first | (rw [if_neg hl]; done) | (rw [if_pos hl]; rfl), rfl⟩⟩)
  · have hl := mt pl_le.mpr c6
    refine r_iconst (q := 10) (z := (-1)) (v := (-1)) C rfl (by decide +kernel) (by decide) ?_
    refine r_goto (off := 13) (tgt := 23) C (by decide +kernel) (by decide) ?_
    exact r_iret C (by decide +kernel) rfl (by decide) (by decide) (eqP hPP ⟨_, rfl, ⟨by first | (rw [if_neg hl]; done) | (rw [if_pos hl]; rfl), rfl⟩⟩)
theorem c_X7_lights {G : GT} {h : HP} {m : Nat} {σ : SG} {be sh : Nat → Nat} {ra l : Nat} {L : List Nat} (hm : LM h.kd h.gl h.fr m) (M : MR σ h m) (W : WF σ) (Mb : MB be sh ra h m) (hL : Srt σ L) (hl3 : l < 3) : Con G 5 0 0 yX7_lights cX7_lights 5 none [rv m, .int (nI l)] h (PV (fun h' => ∃ f, h.row (h.fr 495 m) f = h' ∧ Fl f (fun j => decide (j ∈ drk σ (be l) (dkL σ L l))) σ.n)) := by
  refine Con.of (lv := [some (rv m), some (.int (nI l)), none, none, none]) (by decide) (by simp only [lvE_r, lvE_i, lvE_l, lvE_s, lvE_0]; rfl) (by simp only [lgl_r, lgl_i, lgl_l, lgl_s, lgl_0]; decide) (fun Γ C R => ?_)
  generalize hPP : (PV (fun h' => ∃ f, h.row (h.fr 495 m) f = h' ∧ Fl f (fun j => decide (j ∈ drk σ (be l) (dkL σ L l))) σ.n)) = PP
  have r10 := W.n10
  have M2 : ∀ f, MR σ (h.row (h.fr 495 m) f) m := fun f => M.row hm (by rw [hm.g495]; decide)
  have hne : h.fr 492 m ≠ h.fr 495 m := gl_ne hm.g492 hm.g495 (by decide)
  have hbe := Mb.1 l hl3
  have L60 : ∀ (fuel60 : Nat) (f : Nat → Int32) (D : List Nat), D.length < fuel60 → (Fl f (fun j => decide (j ∈ D)) σ.n) → (D.Pairwise (fun a b => bfr σ b a)) → (∀ j ∈ D, j < σ.n) → (drk σ (be l) D = drk σ (be l) (dkL σ L l)) → wX G Γ (qM G Γ PP 0 0) 0 0 (h.row (h.fr 495 m) f) 60 [some (rv m), some (.int (nI l)), some (.int (nI (pwS σ D))), none, none] [] := by
    intro fuel60
    induction fuel60 with
    | zero =>
      intro f D hm60
      exact absurd hm60 (Nat.not_lt_zero _)
    | succ fuel60 ih60 =>
      intro f D hm60 hF hs hb hT
      refine r_iload_n (q := 61) (z := 2) C 2 rfl (by decide +kernel) rfl rfl ?_
      refine r_aload_n (q := 62) (z := 0) C 0 rfl (by decide +kernel) rfl rfl ?_
      refine r_getR (q := 65) C 7 44 492 rfl (by decide +kernel) rfl (by decide) rfl rfl wf_X7_139 win7 hm.1 ?_
      refine r_iload_n (q := 66) (z := 1) C 1 rfl (by decide +kernel) rfl rfl ?_
      refine r_iald (q := 67) C rfl (by decide +kernel) hm.k492 (vp_in_nI hl3 (by decide)) ?_
      try simp only [fr_row]
      rw [nI_clamp (by omega), ai_row_ne hne, hbe.1]
      have hp9 := pwS_le W (nd_dk hs) hb
      have hbl := hbe.2
      refine r_icmp_le (q := 70) (off := 79) (tgt := 146) C rfl (by decide +kernel) (by decide) (fun c67 => ?_) (fun c67 => ?_)
      · have c67 := (nI_leI (by omega) (by omega)).mp c67
        exact r_ret C (by decide +kernel) rfl (by decide) (by decide) (eqP hPP ⟨rfl, ⟨f, rfl, by rw [← hT]; cases D with | nil => exact hF | cons a t => (rw [drk, if_neg (by omega)]; exact hF)⟩⟩)
      · have c67 : be l < pwS σ D := Nat.lt_of_not_le (fun e => c67 (nI_le e (by omega)))
        obtain ⟨a, t, rfl⟩ : ∃ a t, D = a :: t := by
          cases D with
          | nil => exact absurd c67 (Nat.not_lt_zero _)
          | cons a t => exact ⟨a, t, rfl⟩
        have hs0 := hs
        rw [List.pairwise_cons] at hs
        have ha := hb a List.mem_cons_self
        refine r_iconst (q := 71) (z := (-1)) (v := (-1)) C rfl (by decide +kernel) (by decide) ?_
        refine r_istore_n (q := 72) (z := 3) C 3 rfl (by decide +kernel) rfl (by decide) (by first | rfl | exact okst_rv rfl) ?_
        dsimp only [List.set]
        refine r_iconst (q := 73) (z := 0) (v := 0) C rfl (by decide +kernel) (by decide) ?_
        refine r_istore (q := 75) C 4 rfl (by decide +kernel) (by decide) (by first | rfl | exact okst_rv rfl) ?_
        dsimp only [List.set]
        have L75 : ∀ (fuel75 : Nat) (k : Nat), σ.n - k < fuel75 → (k ≤ σ.n) → wX G Γ (qM G Γ PP 0 0) 0 0 (h.row (h.fr 495 m) f) 75 [some (rv m), some (.int (nI l)), some (.int (nI (pwS σ (a :: t)))), some (.int (bx (leastN σ (fun j => decide (j ∈ a :: t)) k))), some (.int (nI k))] [] := by
          intro fuel75
          induction fuel75 with
          | zero =>
            intro k hm75
            exact absurd hm75 (Nat.not_lt_zero _)
          | succ fuel75 ih75 =>
            intro k hm75 hk
            refine r_iload (q := 77) C 4 rfl (by decide +kernel) rfl ?_
            refine r_aload_n (q := 78) (z := 0) C 0 rfl (by decide +kernel) rfl rfl ?_
            refine r_getI (q := 81) C 7 24 472 rfl (by decide +kernel) rfl (by decide) rfl rfl wf_X7_243 win7 hm.1 ?_
            rw [fi_row, M.fn]
            refine r_icmp_ge (q := 84) (off := 46) (tgt := 127) C rfl (by decide +kernel) (by decide) (fun c81 => ?_) (fun c81 => ?_)
            · have ek : k = σ.n := by have := (nI_leI (by omega) (by omega)).mp c81; omega
              subst ek
              rw [least_hd (l := a :: t) hs0 r10 (fun j _ => by simp) hb, show bx (hd10 (a :: t)) = nI a from bx_in (show a < 10 by omega)]
              refine r_aload_n (q := 128) (z := 0) C 0 rfl (by decide +kernel) rfl rfl ?_
              refine r_getR (q := 131) C 7 47 495 rfl (by decide +kernel) rfl (by decide) rfl rfl wf_X7_148 win7 hm.1 ?_
              refine r_iload_n (q := 132) (z := 3) C 3 rfl (by decide +kernel) rfl rfl ?_
              refine r_iconst (q := 133) (z := 0) (v := 0) C rfl (by decide +kernel) (by decide) ?_
              refine r_zast (q := 134) C rfl (by decide +kernel) (show vp_nar .boolean 0 = 0 by decide) hm.k495 (vp_in_nI (by omega) (by decide)) ?_
              try simp only [fr_row]
              rw [row_stI, nI_clamp (by omega)]
              refine r_iload_n (q := 135) (z := 2) C 2 rfl (by decide +kernel) rfl rfl ?_
              refine r_aload_n (q := 136) (z := 0) C 0 rfl (by decide +kernel) rfl rfl ?_
              refine r_getR (q := 139) C 7 27 475 rfl (by decide +kernel) rfl (by decide) rfl rfl wf_X7_94 win7 hm.1 ?_
              refine r_iload_n (q := 140) (z := 3) C 3 rfl (by decide +kernel) rfl rfl ?_
              refine r_iald (q := 141) C rfl (by decide +kernel) hm.k475 (vp_in_nI (by omega) (by decide)) ?_
              rw [nI_clamp (by omega), (M2 _).apw (by omega)]
              refine r_isub (q := 142) C rfl (by decide +kernel) ?_
              rw [pk_sub (by rw [pwS]; omega), show pwS σ (a :: t) - σ.pw a = pwS σ t by rw [pwS]; omega]
              have hnd := nd_dk hs0
              rw [List.nodup_cons] at hnd
              have hF2 : Fl (upd f a 0) (fun j => decide (j ∈ t)) σ.n := fun j hj => by
                show (if j = a then (0 : Int32) else f j) = _
                by_cases e : j = a
                · subst e; simp [hnd.1, b2i]
                · rw [if_neg e, hF j hj]; simp [e]
              have hT2 : drk σ (be l) t = drk σ (be l) (dkL σ L l) := by rw [← hT, drk, if_pos c67]
              refine r_istore_n (q := 143) (z := 2) C 2 rfl (by decide +kernel) rfl (by decide) (by first | rfl | exact okst_rv rfl) ?_
              dsimp only [List.set]
              refine r_goto (off := -83) (tgt := 60) C (by decide +kernel) (by decide) ?_
              exact wX.sub (lsub_s (lsub_s (lsub_s (lsub_n (lsub_n (lsub_nil)))))) (ih60 _ t (by simp at hm60 ⊢; omega) hF2 hs.2 (fun j hj => hb j (List.mem_cons_of_mem _ hj)) hT2)
            · have hlt : k < σ.n := Nat.lt_of_not_le (fun e => c81 (nI_le e (by omega)))
              have J120 : ∀ (v : Int32), (v = bx (leastN σ (fun j => decide (j ∈ a :: t)) (k + 1))) → wX G Γ (qM G Γ PP 0 0) 0 0 (h.row (h.fr 495 m) f) 120 [some (rv m), some (.int (nI l)), some (.int (nI (pwS σ (a :: t)))), some (.int (bx (leastN σ (fun j => decide (j ∈ a :: t)) k))), some (.int (nI k))] [.int v] := by
                intro v hv
                subst hv
                refine r_istore_n (q := 121) (z := 3) C 3 rfl (by decide +kernel) rfl (by decide) (by first | rfl | exact okst_rv rfl) ?_
                dsimp only [List.set]
                refine r_iinc (q := 124) (z := 1) (v := 1) C 4 rfl (by decide +kernel) rfl (by decide) (by decide) (by first | rfl | exact okst_rv rfl) ?_
                dsimp only [List.set]
                rw [nI_1]
                refine r_goto (off := -49) (tgt := 75) C (by decide +kernel) (by decide) ?_
                exact ih75 (k + 1) (by omega) (by omega)
              refine r_aload_n (q := 85) (z := 0) C 0 rfl (by decide +kernel) rfl rfl ?_
              refine r_getR (q := 88) C 7 47 495 rfl (by decide +kernel) rfl (by decide) rfl rfl wf_X7_148 win7 hm.1 ?_
              refine r_iload (q := 90) C 4 rfl (by decide +kernel) rfl ?_
              refine r_zald (q := 91) C rfl (by decide +kernel) hm.k495 (vp_in_nI (by omega) (by decide)) ?_
              try simp only [fr_row]
              rw [nI_clamp (by omega), ai_row_eq, hF _ hlt]
              refine r_if_eq (q := 94) (off := 28) (tgt := 119) C rfl (by decide +kernel) (by decide) (fun c91 => ?_) (fun c91 => ?_)
              · have ev : bx (leastN σ (fun j => decide (j ∈ a :: t)) k) = bx (leastN σ (fun j => decide (j ∈ a :: t)) (k + 1)) := congrArg bx (leastN_n (lt := fun j => decide (j ∈ a :: t)) ((b2i_0 _).mp c91)).symm
                refine r_iload_n (q := 120) (z := 3) C 3 rfl (by decide +kernel) rfl rfl ?_
                exact J120 _ ev
              · refine r_iload_n (q := 95) (z := 3) C 3 rfl (by decide +kernel) rfl rfl ?_
                refine r_if_lt (q := 98) (off := 19) (tgt := 114) C rfl (by decide +kernel) (by decide) (fun c95 => ?_) (fun c95 => ?_)
                · have ev : nI k = bx (leastN σ (fun j => decide (j ∈ a :: t)) (k + 1)) := by rw [leastN_t (lt := fun j => decide (j ∈ a :: t)) ((b2i_n0 _).mp c91) (Or.inl (bx_neg.mp c95)), bx_in (by omega)]
                  refine r_iload (q := 116) C 4 rfl (by decide +kernel) rfl ?_
                  refine r_goto (off := 4) (tgt := 120) C (by decide +kernel) (by decide) ?_
                  exact J120 _ ev
                · have hb1 : leastN σ (fun j => decide (j ∈ a :: t)) k < 10 := by
                    rcases Nat.lt_or_ge (leastN σ (fun j => decide (j ∈ a :: t)) k) 10 with e | e
                    · exact e
                    · exact absurd (bx_neg.mpr (by omega)) c95
                  have hbk := leastN_lt (by omega) hb1
                  have hw1 := (W.2.2.1 k hlt).2.2.2.2.2.2
                  have hw2 := (W.2.2.1 (leastN σ (fun j => decide (j ∈ a :: t)) k) (by omega)).2.2.2.2.2.2
                  refine r_aload_n (q := 99) (z := 0) C 0 rfl (by decide +kernel) rfl rfl ?_
                  refine r_getR (q := 102) C 7 29 477 rfl (by decide +kernel) rfl (by decide) rfl rfl wf_X7_100 win7 hm.1 ?_
                  refine r_iload (q := 104) C 4 rfl (by decide +kernel) rfl ?_
                  refine r_iald (q := 105) C rfl (by decide +kernel) hm.k477 (vp_in_nI (by omega) (by decide)) ?_
                  rw [nI_clamp (by omega), (M2 _).ark (by omega)]
                  refine r_aload_n (q := 106) (z := 0) C 0 rfl (by decide +kernel) rfl rfl ?_
                  refine r_getR (q := 109) C 7 29 477 rfl (by decide +kernel) rfl (by decide) rfl rfl wf_X7_100 win7 hm.1 ?_
                  refine r_iload_n (q := 110) (z := 3) C 3 rfl (by decide +kernel) rfl rfl ?_
                  refine r_iald (q := 111) C rfl (by decide +kernel) hm.k477 (by rw [bx_in hb1]; exact vp_in_nI hb1 (by decide)) ?_
                  rw [show (bx (leastN σ (fun j => decide (j ∈ a :: t)) k)).toNatClampNeg = leastN σ (fun j => decide (j ∈ a :: t)) k by rw [bx_in hb1]; exact nI_clamp (by omega)]
                  rw [(M2 _).ark (by omega)]
                  refine r_icmp_gt (q := 114) (off := 8) (tgt := 119) C rfl (by decide +kernel) (by decide) (fun c111 => ?_) (fun c111 => ?_)
                  · rw [nI_ltI (by omega) (by omega)] at c111
                    have ev : bx (leastN σ (fun j => decide (j ∈ a :: t)) k) = bx (leastN σ (fun j => decide (j ∈ a :: t)) (k + 1)) := congrArg bx (leastN_f (lt := fun j => decide (j ∈ a :: t)) hb1 (by omega)).symm
                    refine r_iload_n (q := 120) (z := 3) C 3 rfl (by decide +kernel) rfl rfl ?_
                    exact J120 _ ev
                  · rw [nI_ltI (by omega) (by omega)] at c111
                    have ev : nI k = bx (leastN σ (fun j => decide (j ∈ a :: t)) (k + 1)) := by rw [leastN_t (lt := fun j => decide (j ∈ a :: t)) ((b2i_n0 _).mp c91) (Or.inr (by omega)), bx_in (by omega)]
                    refine r_iload (q := 116) C 4 rfl (by decide +kernel) rfl ?_
                    refine r_goto (off := 4) (tgt := 120) C (by decide +kernel) (by decide) ?_
                    exact J120 _ ev
        exact L75 (σ.n + 1) 0 (by omega) (by omega)
  refine r_iconst (q := 1) (z := 0) (v := 0) C rfl (by decide +kernel) (by decide) ?_
  refine r_istore_n (q := 2) (z := 2) C 2 rfl (by decide +kernel) rfl (by decide) (by first | rfl | exact okst_rv rfl) ?_
  dsimp only [List.set]
  refine r_iconst (q := 3) (z := 0) (v := 0) C rfl (by decide +kernel) (by decide) ?_
  refine r_istore_n (q := 4) (z := 3) C 3 rfl (by decide +kernel) rfl (by decide) (by first | rfl | exact okst_rv rfl) ?_
  dsimp only [List.set]
  have L4 : ∀ (fuel4 : Nat) (k : Nat), σ.n - k < fuel4 → (k ≤ σ.n) → wX G Γ (qM G Γ PP 0 0) 0 0 (h.row (h.fr 495 m) (mix (fun r => b2i (σ.on l r)) (h.ai (h.fr 495 m)) k)) 4 [some (rv m), some (.int (nI l)), some (.int (nI (sumP σ (σ.on l) k))), some (.int (nI k)), none] [] := by
    intro fuel4
    induction fuel4 with
    | zero =>
      intro k hm4
      exact absurd hm4 (Nat.not_lt_zero _)
    | succ fuel4 ih4 =>
      intro k hm4 hk
      refine r_iload_n (q := 5) (z := 3) C 3 rfl (by decide +kernel) rfl rfl ?_
      refine r_aload_n (q := 6) (z := 0) C 0 rfl (by decide +kernel) rfl rfl ?_
      refine r_getI (q := 9) C 7 24 472 rfl (by decide +kernel) rfl (by decide) rfl rfl wf_X7_243 win7 hm.1 ?_
      rw [fi_row, M.fn]
      refine r_icmp_ge (q := 12) (off := 51) (tgt := 60) C rfl (by decide +kernel) (by decide) (fun c9 => ?_) (fun c9 => ?_)
      · have ek : k = σ.n := by have := (nI_leI (by omega) (by omega)).mp c9; omega
        subst ek
        rw [sumP_list (dkL σ L l) (σ.on l) (nd_dk (dkL_srt hL)) (fun j hj => ((dkL_mem hL).mp hj).1) (fun j hj => by rw [dkL_mem hL]; exact ⟨fun e => ⟨hj, e⟩, fun e => e.2⟩)]
        exact wX.sub (lsub_s (lsub_s (lsub_s (lsub_n (lsub_n lsub_nil))))) (L60 ((dkL σ L l).length + 1) _ (dkL σ L l) (by omega) (fun j hj => by rw [mix_in hj]; congr 1; rw [Bool.eq_iff_iff, decide_eq_true_eq, dkL_mem hL]; exact ⟨fun e => ⟨hj, e⟩, fun e => e.2⟩) (dkL_srt hL) (fun j hj => ((dkL_mem hL).mp hj).1) rfl)
      · have hlt : k < σ.n := Nat.lt_of_not_le (fun e => c9 (nI_le e (by omega)))
        refine r_aload_n (q := 13) (z := 0) C 0 rfl (by decide +kernel) rfl rfl ?_
        refine r_getR (q := 16) C 7 47 495 rfl (by decide +kernel) rfl (by decide) rfl rfl wf_X7_148 win7 hm.1 ?_
        refine r_iload_n (q := 17) (z := 3) C 3 rfl (by decide +kernel) rfl rfl ?_
        refine r_aload_n (q := 18) (z := 0) C 0 rfl (by decide +kernel) rfl rfl ?_
        refine r_iload_n (q := 19) (z := 3) C 3 rfl (by decide +kernel) rfl rfl ?_
        refine cV1I (q := 22) C R rfl (by decide +kernel) lk_X7_350 (c_X7_lineOf hm (M2 _) W hlt) (by decide) (by decide) (by decide) rfl (by first | exact Nat.le_of_ble_eq_true rfl | (simp only [List.map_cons, List.map_nil, List.sum_cons, List.sum_nil, rv_cat]; exact Nat.le_of_ble_eq_true rfl)) rfl hm.1 ?_
        rintro _ _ ⟨rfl, rfl⟩
        refine r_iload_n (q := 23) (z := 1) C 1 rfl (by decide +kernel) rfl rfl ?_
        refine r_icmp_ne (q := 26) (off := 7) (tgt := 30) C rfl (by decide +kernel) (by decide) (fun c23 => ?_) (fun c23 => ?_)
        · have ev : b2i (σ.on l k) = 0 := by
            have : σ.on l k = false := by
              unfold SG.on
              by_cases e : σ.li k < 240
              · rw [if_pos e] at c23; simp [e]; exact fun e2 => c23 (by rw [e2])
              · simp [e]
            rw [this]; rfl
          refine r_iconst (q := 31) (z := 0) (v := b2i (σ.on l k)) C rfl (by decide +kernel) (by rw [ev]; decide) ?_
          refine r_zast (q := 32) C rfl (by decide +kernel) (by first | exact b2i_vn _ | rfl) hm.k495 (vp_in_nI (by omega) (by decide)) ?_
          try simp only [fr_row]
          rw [row_stI, nI_clamp (by omega), mix_s (fun r => b2i (σ.on l r))]
          refine r_iload_n (q := 33) (z := 2) C 2 rfl (by decide +kernel) rfl rfl ?_
          refine r_aload_n (q := 34) (z := 0) C 0 rfl (by decide +kernel) rfl rfl ?_
          refine r_getR (q := 37) C 7 47 495 rfl (by decide +kernel) rfl (by decide) rfl rfl wf_X7_148 win7 hm.1 ?_
          refine r_iload_n (q := 38) (z := 3) C 3 rfl (by decide +kernel) rfl rfl ?_
          refine r_zald (q := 39) C rfl (by decide +kernel) hm.k495 (vp_in_nI (by omega) (by decide)) ?_
          try simp only [fr_row]
          rw [nI_clamp (by omega), ai_row_eq, mix_in (by omega)]
          refine r_if_eq (q := 42) (off := 12) (tgt := 51) C rfl (by decide +kernel) (by decide) (fun c39 => ?_) (fun c39 => ?_)
          · have e52 : nI (sumP σ (σ.on l) k) + 0 = nI (sumP σ (σ.on l) (k + 1)) := by rw [sumP, if_neg (by rw [(b2i_0 _).mp c39]; decide)]; exact nI_add _ 0
            refine r_iconst (q := 52) (z := 0) (v := 0) C rfl (by decide +kernel) (by decide) ?_
            refine r_iadd (q := 53) C rfl (by decide +kernel) ?_
            rw [e52]
            refine r_istore_n (q := 54) (z := 2) C 2 rfl (by decide +kernel) rfl (by decide) (by first | rfl | exact okst_rv rfl) ?_
            dsimp only [List.set]
            refine r_iinc (q := 57) (z := 1) (v := 1) C 3 rfl (by decide +kernel) rfl (by decide) (by decide) (by first | rfl | exact okst_rv rfl) ?_
            dsimp only [List.set]
            rw [nI_1]
            refine r_goto (off := -53) (tgt := 4) C (by decide +kernel) (by decide) ?_
            exact wX.sub (lsub_s (lsub_s (lsub_s (lsub_s (lsub_n (lsub_nil)))))) (ih4 (k + 1) (by omega) (by omega))
          · have e52 : nI (sumP σ (σ.on l) k) + nI (σ.pw k) = nI (sumP σ (σ.on l) (k + 1)) := by rw [sumP, if_pos ((b2i_n0 _).mp c39)]; exact nI_add _ _
            refine r_aload_n (q := 43) (z := 0) C 0 rfl (by decide +kernel) rfl rfl ?_
            refine r_getR (q := 46) C 7 27 475 rfl (by decide +kernel) rfl (by decide) rfl rfl wf_X7_94 win7 hm.1 ?_
            refine r_iload_n (q := 47) (z := 3) C 3 rfl (by decide +kernel) rfl rfl ?_
            refine r_iald (q := 48) C rfl (by decide +kernel) hm.k475 (vp_in_nI (by omega) (by decide)) ?_
            rw [nI_clamp (by omega), (M2 _).apw (by omega)]
            refine r_goto (off := 4) (tgt := 52) C (by decide +kernel) (by decide) ?_
            refine r_iadd (q := 53) C rfl (by decide +kernel) ?_
            rw [e52]
            refine r_istore_n (q := 54) (z := 2) C 2 rfl (by decide +kernel) rfl (by decide) (by first | rfl | exact okst_rv rfl) ?_
            dsimp only [List.set]
            refine r_iinc (q := 57) (z := 1) (v := 1) C 3 rfl (by decide +kernel) rfl (by decide) (by decide) (by first | rfl | exact okst_rv rfl) ?_
            dsimp only [List.set]
            rw [nI_1]
            refine r_goto (off := -53) (tgt := 4) C (by decide +kernel) (by decide) ?_
            exact wX.sub (lsub_s (lsub_s (lsub_s (lsub_s (lsub_n (lsub_nil)))))) (ih4 (k + 1) (by omega) (by omega))
        · have ev : b2i (σ.on l k) = 1 := by
            have : σ.on l k = true := by
              unfold SG.on
              by_cases e : σ.li k < 240
              · rw [if_pos e] at c23; simp [e]; exact (nI_eq (by have := ln_lt (σ := σ) (r := k); omega) (by omega)).mp c23
              · rw [if_neg e] at c23; exact absurd c23 (m1_ne (by omega))
            rw [this]; rfl
          refine r_iconst (q := 27) (z := 1) (v := b2i (σ.on l k)) C rfl (by decide +kernel) (by rw [ev]; decide) ?_
          refine r_goto (off := 4) (tgt := 31) C (by decide +kernel) (by decide) ?_
          refine r_zast (q := 32) C rfl (by decide +kernel) (by first | exact b2i_vn _ | rfl) hm.k495 (vp_in_nI (by omega) (by decide)) ?_
          try simp only [fr_row]
          rw [row_stI, nI_clamp (by omega), mix_s (fun r => b2i (σ.on l r))]
          refine r_iload_n (q := 33) (z := 2) C 2 rfl (by decide +kernel) rfl rfl ?_
          refine r_aload_n (q := 34) (z := 0) C 0 rfl (by decide +kernel) rfl rfl ?_
          refine r_getR (q := 37) C 7 47 495 rfl (by decide +kernel) rfl (by decide) rfl rfl wf_X7_148 win7 hm.1 ?_
          refine r_iload_n (q := 38) (z := 3) C 3 rfl (by decide +kernel) rfl rfl ?_
          refine r_zald (q := 39) C rfl (by decide +kernel) hm.k495 (vp_in_nI (by omega) (by decide)) ?_
          try simp only [fr_row]
          rw [nI_clamp (by omega), ai_row_eq, mix_in (by omega)]
          refine r_if_eq (q := 42) (off := 12) (tgt := 51) C rfl (by decide +kernel) (by decide) (fun c39 => ?_) (fun c39 => ?_)
          · have e52 : nI (sumP σ (σ.on l) k) + 0 = nI (sumP σ (σ.on l) (k + 1)) := by rw [sumP, if_neg (by rw [(b2i_0 _).mp c39]; decide)]; exact nI_add _ 0
            refine r_iconst (q := 52) (z := 0) (v := 0) C rfl (by decide +kernel) (by decide) ?_
            refine r_iadd (q := 53) C rfl (by decide +kernel) ?_
            rw [e52]
            refine r_istore_n (q := 54) (z := 2) C 2 rfl (by decide +kernel) rfl (by decide) (by first | rfl | exact okst_rv rfl) ?_
            dsimp only [List.set]
            refine r_iinc (q := 57) (z := 1) (v := 1) C 3 rfl (by decide +kernel) rfl (by decide) (by decide) (by first | rfl | exact okst_rv rfl) ?_
            dsimp only [List.set]
            rw [nI_1]
            refine r_goto (off := -53) (tgt := 4) C (by decide +kernel) (by decide) ?_
            exact wX.sub (lsub_s (lsub_s (lsub_s (lsub_s (lsub_n (lsub_nil)))))) (ih4 (k + 1) (by omega) (by omega))
          · have e52 : nI (sumP σ (σ.on l) k) + nI (σ.pw k) = nI (sumP σ (σ.on l) (k + 1)) := by rw [sumP, if_pos ((b2i_n0 _).mp c39)]; exact nI_add _ _
            refine r_aload_n (q := 43) (z := 0) C 0 rfl (by decide +kernel) rfl rfl ?_
            refine r_getR (q := 46) C 7 27 475 rfl (by decide +kernel) rfl (by decide) rfl rfl wf_X7_94 win7 hm.1 ?_
            refine r_iload_n (q := 47) (z := 3) C 3 rfl (by decide +kernel) rfl rfl ?_
            refine r_iald (q := 48) C rfl (by decide +kernel) hm.k475 (vp_in_nI (by omega) (by decide)) ?_
            rw [nI_clamp (by omega), (M2 _).apw (by omega)]
            refine r_goto (off := 4) (tgt := 52) C (by decide +kernel) (by decide) ?_
            refine r_iadd (q := 53) C rfl (by decide +kernel) ?_
            rw [e52]
            refine r_istore_n (q := 54) (z := 2) C 2 rfl (by decide +kernel) rfl (by decide) (by first | rfl | exact okst_rv rfl) ?_
            dsimp only [List.set]
            refine r_iinc (q := 57) (z := 1) (v := 1) C 3 rfl (by decide +kernel) rfl (by decide) (by decide) (by first | rfl | exact okst_rv rfl) ?_
            dsimp only [List.set]
            rw [nI_1]
            refine r_goto (off := -53) (tgt := 4) C (by decide +kernel) (by decide) ?_
            exact wX.sub (lsub_s (lsub_s (lsub_s (lsub_s (lsub_n (lsub_nil)))))) (ih4 (k + 1) (by omega) (by omega))
  have z0 := L4 (σ.n + 1) 0 (by omega) (by omega)
  rw [mix_0, row_self] at z0
  exact z0
theorem c_X7_lit {G : GT} {h : HP} {m : Nat} {σ : SG} {be sh : Nat → Nat} {ra : Nat} {L : List Nat} {x : Int32} (hm : LM h.kd h.gl h.fr m) (M : MR σ h m) (W : WF σ) (Mb : MB be sh ra h m) (hL : Srt σ L) : Con G 6 0 0 yX7_lit cX7_lit 2 (some .int) [rv m, .int x] h (PI (fun v h' => cif (ltP σ x) (ltV σ be L x.toNatClampNeg) (-1) = v ∧ MR σ h' m ∧ Fm [495] [448] h h')) := by
  refine Con.of (lv := [some (rv m), some (.int x)]) (by decide) (by simp only [lvE_r, lvE_i, lvE_l, lvE_s, lvE_0]; rfl) (by simp only [lgl_r, lgl_i, lgl_l, lgl_s, lgl_0]; decide) (fun Γ C R => ?_)
  generalize hPP : (PI (fun v h' => cif (ltP σ x) (ltV σ be L x.toNatClampNeg) (-1) = v ∧ MR σ h' m ∧ Fm [495] [448] h h')) = PP
  have r10 := W.n10
  have M1 : MR σ (h.setI 448 m 0) m := M.setI (by decide) (by decide) (by decide)
  have Mb1 : MB be sh ra (h.setI 448 m 0) m := Mb.setI (by decide)
  refine r_aload_n (q := 1) (z := 0) C 0 rfl (by decide +kernel) rfl rfl ?_
  refine r_iconst (q := 2) (z := 0) (v := 0) C rfl (by decide +kernel) (by decide) ?_
  refine r_putI (q := 5) C 7 0 448 rfl (by decide +kernel) rfl (by decide) rfl rfl wf_X7_1 win7 tyX7 tyX7_ok nmX7 rfl (tyX7_ok 0 (by decide)) rfl wnd7 rfl rfl hm.1 ?_
  refine r_aload_n (q := 6) (z := 0) C 0 rfl (by decide +kernel) rfl rfl ?_
  refine r_iload_n (q := 7) (z := 1) C 1 rfl (by decide +kernel) rfl rfl ?_
  refine cV1I (q := 10) C R rfl (by decide +kernel) lk_X7_316 (c_X7_isRide hm M1) (by decide) (by decide) (by decide) rfl (by first | exact Nat.le_of_ble_eq_true rfl | (simp only [List.map_cons, List.map_nil, List.sum_cons, List.sum_nil, rv_cat]; exact Nat.le_of_ble_eq_true rfl)) rfl hm.1 ?_
  rintro _ _ ⟨rfl, rfl⟩
  refine r_if_eq (q := 13) (off := 12) (tgt := 22) C rfl (by decide +kernel) (by decide) (fun c10 => ?_) (fun c10 => ?_)
  · have c10 := of_decide_eq_false ((b2i_0 _).mp c10)
    refine r_iconst (q := 23) (z := (-1)) (v := (-1)) C rfl (by decide +kernel) (by decide) ?_
    exact r_iret C (by decide +kernel) rfl (by decide) (by decide) (eqP hPP ⟨_, rfl, (by
          first | (have hn : ¬ ltP σ x := fun e => c10 e.1
                   rw [cif_f hn]) | (have hn : ¬ ltP σ (nI r) := fun e => c19 (by have := e.2; rw [nI_clamp (by omega)] at this; exact this)
                                     rw [cif_f hn])
          exact ⟨rfl, M1, Fm.rf.setI (by decide)⟩)⟩)
  · have c10 := of_decide_eq_true ((b2i_n0 _).mp c10)
    obtain ⟨r, hr, rfl⟩ := ride_of r10 c10
    refine r_aload_n (q := 14) (z := 0) C 0 rfl (by decide +kernel) rfl rfl ?_
    refine r_getR (q := 17) C 7 30 478 rfl (by decide +kernel) rfl (by decide) rfl rfl wf_X7_103 win7 hm.1 ?_
    refine r_iload_n (q := 18) (z := 1) C 1 rfl (by decide +kernel) rfl rfl ?_
    refine r_iald (q := 19) C rfl (by decide +kernel) hm.k478 (vp_in_nI (by omega) (by decide)) ?_
    rw [nI_clamp (by omega), M1.ali (by omega)]
    refine r_if_ge (q := 22) (off := 5) (tgt := 24) C rfl (by decide +kernel) (by decide) (fun c19 => ?_) (fun c19 => ?_)
    · have c19 := pl_le.mp c19
      refine r_aload_n (q := 25) (z := 0) C 0 rfl (by decide +kernel) rfl rfl ?_
      refine r_aload_n (q := 26) (z := 0) C 0 rfl (by decide +kernel) rfl rfl ?_
      refine r_iload_n (q := 27) (z := 1) C 1 rfl (by decide +kernel) rfl rfl ?_
      refine cV1I (q := 30) C R rfl (by decide +kernel) lk_X7_350 (c_X7_lineOf hm M1 W hr) (by decide) (by decide) (by decide) rfl (by first | exact Nat.le_of_ble_eq_true rfl | (simp only [List.map_cons, List.map_nil, List.sum_cons, List.sum_nil, rv_cat]; exact Nat.le_of_ble_eq_true rfl)) rfl hm.1 ?_
      rintro _ _ ⟨rfl, rfl⟩
      rw [if_pos c19]
      refine cV1V (q := 33) C R rfl (by decide +kernel) lk_X7_353 (c_X7_lights hm M1 W Mb1 hL ln_lt) (by decide) (by decide) (by decide) rfl (by first | exact Nat.le_of_ble_eq_true rfl | (simp only [List.map_cons, List.map_nil, List.sum_cons, List.sum_nil, rv_cat]; exact Nat.le_of_ble_eq_true rfl)) rfl hm.1 ?_
      rintro _ ⟨f30, rfl, hF30⟩
      refine r_aload_n (q := 34) (z := 0) C 0 rfl (by decide +kernel) rfl rfl ?_
      refine r_getR (q := 37) C 7 47 495 rfl (by decide +kernel) rfl (by decide) rfl rfl wf_X7_148 win7 hm.1 ?_
      refine r_iload_n (q := 38) (z := 1) C 1 rfl (by decide +kernel) rfl rfl ?_
      refine r_zald (q := 39) C rfl (by decide +kernel) hm.k495 (vp_in_nI (by omega) (by decide)) ?_
      try simp only [fr_row, fr_setI]
      rw [nI_clamp (by omega), ai_row_eq, hF30 _ hr]
      refine r_if_eq (q := 42) (off := 7) (tgt := 46) C rfl (by decide +kernel) (by decide) (fun c39 => ?_) (fun c39 => ?_)
      · refine r_iconst (q := 47) (z := 0) (v := 0) C rfl (by decide +kernel) (by decide) ?_
        exact r_iret C (by decide +kernel) rfl (by decide) (by decide) (eqP hPP ⟨_, rfl, (by
              have hy : ltP σ (nI r) := ⟨c10, by rw [nI_clamp (by omega)]; exact c19⟩
              rw [cif_t hy, nI_clamp (by omega)]
              refine ⟨?_, M1.row hm (by show h.gl (h.fr 495 m) ∉ _; rw [hm.g495]; decide), Fm.row (Fm.rf.setI (by decide)) (by show h.gl (h.fr 495 m) ∈ _; rw [hm.g495]; decide)⟩
              first | exact if_neg (of_decide_eq_false ((b2i_0 _).mp c39)) | exact if_pos (of_decide_eq_true ((b2i_n0 _).mp c39)))⟩)
      · refine r_iconst (q := 43) (z := 1) (v := 1) C rfl (by decide +kernel) (by decide) ?_
        refine r_goto (off := 4) (tgt := 47) C (by decide +kernel) (by decide) ?_
        exact r_iret C (by decide +kernel) rfl (by decide) (by decide) (eqP hPP ⟨_, rfl, (by
              have hy : ltP σ (nI r) := ⟨c10, by rw [nI_clamp (by omega)]; exact c19⟩
              rw [cif_t hy, nI_clamp (by omega)]
              refine ⟨?_, M1.row hm (by show h.gl (h.fr 495 m) ∉ _; rw [hm.g495]; decide), Fm.row (Fm.rf.setI (by decide)) (by show h.gl (h.fr 495 m) ∈ _; rw [hm.g495]; decide)⟩
              first | exact if_neg (of_decide_eq_false ((b2i_0 _).mp c39)) | exact if_pos (of_decide_eq_true ((b2i_n0 _).mp c39)))⟩)
    · have c19 := mt pl_le.mpr c19
      refine r_iconst (q := 23) (z := (-1)) (v := (-1)) C rfl (by decide +kernel) (by decide) ?_
      exact r_iret C (by decide +kernel) rfl (by decide) (by decide) (eqP hPP ⟨_, rfl, (by
            first | (have hn : ¬ ltP σ x := fun e => c10 e.1
                     rw [cif_f hn]) | (have hn : ¬ ltP σ (nI r) := fun e => c19 (by have := e.2; rw [nI_clamp (by omega)] at this; exact this)
                                       rw [cif_f hn])
            exact ⟨rfl, M1, Fm.rf.setI (by decide)⟩)⟩)
end
section
/-! ===== rents parted ===== -/
theorem row_stI2 {h : HP} {a b i : Nat} {f g : Nat → Int32} {v : Int32} (hn : a ≠ b) : ((h.row a f).row b g).stI a i v = (h.row a (upd f i v)).row b g := by
  rw [row_comm hn, row_stI, row_comm (Ne.symm hn)]
def A3 (sh : Nat → Nat) : Nat := sh 0 + sh 1 + sh 2
def qN (s : Nat) (sh : Nat → Nat) (k : Nat) : Nat := s * sh k / A3 sh
def rN (s : Nat) (sh : Nat → Nat) (k : Nat) : Nat := s * sh k % A3 sh
def lfN (s : Nat) (sh : Nat → Nat) : Nat := s - (qN s sh 0 + qN s sh 1 + qN s sh 2)
def ahN (r : Nat → Nat) (k : Nat) : Nat := cnt (fun j => decide (r k < r j ∨ (r j = r k ∧ j < k))) 3
def rnV (s : Nat) (sh : Nat → Nat) (k : Nat) : Nat := qN s sh k + (if ahN (rN s sh) k < lfN s sh then 1 else 0)
def b3 (g : Nat → Int32) : Nat → Nat
  | 0 => 0
  | k + 1 => if g (b3 g k) < g k then k else b3 g k
theorem b3_lt {g : Nat → Int32} : ∀ k, b3 g k < k ∨ b3 g k = 0
  | 0 => Or.inr rfl
  | k + 1 => by
    have := b3_lt (g := g) k
    simp only [b3]; split <;> omega
theorem iteF (P : Prop) [Decidable P] : (P ∧ (if P then 1 else 0 : Nat) = 1) ∨ (¬ P ∧ (if P then 1 else 0 : Nat) = 0) := by
  by_cases e : P
  · exact Or.inl ⟨e, if_pos e⟩
  · exact Or.inr ⟨e, if_neg e⟩
theorem ahN_e (r : Nat → Nat) (k : Nat) : ∃ x y z : Nat, ahN r k = x + y + z ∧ (((r k < r 0 ∨ (r 0 = r k ∧ 0 < k)) ∧ x = 1) ∨ (¬ (r k < r 0 ∨ (r 0 = r k ∧ 0 < k)) ∧ x = 0)) ∧ (((r k < r 1 ∨ (r 1 = r k ∧ 1 < k)) ∧ y = 1) ∨ (¬ (r k < r 1 ∨ (r 1 = r k ∧ 1 < k)) ∧ y = 0)) ∧ (((r k < r 2 ∨ (r 2 = r k ∧ 2 < k)) ∧ z = 1) ∨ (¬ (r k < r 2 ∨ (r 2 = r k ∧ 2 < k)) ∧ z = 0)) :=
  ⟨_, _, _, by simp only [ahN, cnt, Nat.zero_add, decide_eq_true_eq], iteF _, iteF _, iteF _⟩
theorem b3_ah {r : Nat → Nat} {g : Nat → Int32} {t : Nat} (ht : t < 3) (hg : ∀ k, k < 3 → (g k).toInt = if ahN r k < t then -1 else (r k : Int)) : b3 g 3 < 3 ∧ ahN r (b3 g 3) = t := by
  have h0 := hg 0 (by decide)
  have h1 := hg 1 (by decide)
  have h2 := hg 2 (by decide)
  obtain ⟨x0, y0, z0, e0, a0, b0, c0⟩ := ahN_e r 0
  obtain ⟨x1, y1, z1, e1, a1, b1, c1⟩ := ahN_e r 1
  obtain ⟨x2, y2, z2, e2, a2, b2, c2⟩ := ahN_e r 2
  have x : b3 g 3 = if g (if g 0 < g 1 then 1 else 0) < g 2 then 2 else (if g 0 < g 1 then 1 else 0) := by simp [b3]
  rw [x]
  by_cases k1 : g 0 < g 1
  · rw [if_pos k1]
    rw [Int32.lt_iff_toInt_lt] at k1
    by_cases k2 : g 1 < g 2
    · rw [if_pos k2]; rw [Int32.lt_iff_toInt_lt] at k2; refine ⟨by decide, ?_⟩; omega
    · rw [if_neg k2]; rw [Int32.lt_iff_toInt_lt] at k2; refine ⟨by decide, ?_⟩; omega
  · rw [if_neg k1]
    rw [Int32.lt_iff_toInt_lt] at k1
    by_cases k2 : g 0 < g 2
    · rw [if_pos k2]; rw [Int32.lt_iff_toInt_lt] at k2; refine ⟨by decide, ?_⟩; omega
    · rw [if_neg k2]; rw [Int32.lt_iff_toInt_lt] at k2; refine ⟨by decide, ?_⟩; omega
theorem lf_2 {s : Nat} {sh : Nat → Nat} (h0 : 0 < A3 sh) : qN s sh 0 + qN s sh 1 + qN s sh 2 ≤ s ∧ lfN s sh ≤ 2 := by
  have d0 := Nat.div_add_mod (s * sh 0) (A3 sh)
  have d1 := Nat.div_add_mod (s * sh 1) (A3 sh)
  have d2 := Nat.div_add_mod (s * sh 2) (A3 sh)
  have m0 := Nat.mod_lt (s * sh 0) h0
  have m1 := Nat.mod_lt (s * sh 1) h0
  have m2 := Nat.mod_lt (s * sh 2) h0
  have eA : A3 sh * s = s * sh 0 + s * sh 1 + s * sh 2 := by unfold A3; rw [Nat.mul_comm, Nat.mul_add, Nat.mul_add]
  have eQ : A3 sh * (qN s sh 0 + qN s sh 1 + qN s sh 2) = A3 sh * (s * sh 0 / A3 sh) + A3 sh * (s * sh 1 / A3 sh) + A3 sh * (s * sh 2 / A3 sh) := by unfold qN; rw [Nat.mul_add, Nat.mul_add]
  have k1 : qN s sh 0 + qN s sh 1 + qN s sh 2 ≤ s := by
    rcases Nat.lt_or_ge s (qN s sh 0 + qN s sh 1 + qN s sh 2) with e | e
    · have := Nat.mul_le_mul_left (A3 sh) (show s + 1 ≤ _ from e)
      rw [Nat.mul_add] at this; omega
    · exact e
  refine ⟨k1, ?_⟩
  rcases Nat.lt_or_ge (lfN s sh) 3 with e | e
  · omega
  · unfold lfN at e
    have := Nat.mul_le_mul_left (A3 sh) (show (qN s sh 0 + qN s sh 1 + qN s sh 2) + 3 ≤ s by omega)
    rw [Nat.mul_add] at this; omega
theorem rent_le {σ : SG} (W : WF σ) {ra : Nat} (hr : ra ≤ 1000) : ∀ k, k ≤ σ.n → rentN σ ra k ≤ 16000 * k
  | 0, _ => Nat.le_refl _
  | k + 1, h => by
    have ih := rent_le W hr k (by omega)
    have w := W.2.2.1 k (by omega)
    have : σ.wd k * σ.hg k * ra ≤ 4 * 4 * 1000 := Nat.mul_le_mul (Nat.mul_le_mul w.2.1 w.2.2.2.1) hr
    simp only [rentN]; split <;> omega
def sumq (s : Nat) (sh : Nat → Nat) : Nat → Nat
  | 0 => 0
  | k + 1 => sumq s sh k + qN s sh k
theorem sumq_3 (s : Nat) (sh : Nat → Nat) : sumq s sh 3 = qN s sh 0 + qN s sh 1 + qN s sh 2 := by simp [sumq]
theorem sumq_le {s : Nat} {sh : Nat → Nat} (h0 : 0 < A3 sh) {k : Nat} (hk : k ≤ 3) : sumq s sh k ≤ s := by
  have := (lf_2 (s := s) h0).1
  rcases (show k = 0 ∨ k = 1 ∨ k = 2 ∨ k = 3 by omega) with e | e | e | e <;> subst e <;> simp only [sumq] <;> omega
theorem ah_inj {r : Nat → Nat} {a b : Nat} (ha : a < 3) (hb : b < 3) (hn : a ≠ b) : ahN r a ≠ ahN r b := by
  obtain ⟨x0, y0, z0, e0, a0, b0, c0⟩ := ahN_e r 0
  obtain ⟨x1, y1, z1, e1, a1, b1, c1⟩ := ahN_e r 1
  obtain ⟨x2, y2, z2, e2, a2, b2, c2⟩ := ahN_e r 2
  rcases (show a = 0 ∨ a = 1 ∨ a = 2 by omega) with e | e | e <;> rcases (show b = 0 ∨ b = 1 ∨ b = 2 by omega) with e' | e' | e' <;> subst e <;> subst e' <;> omega

theorem c_X7_rent {G : GT} {h : HP} {m : Nat} {σ : SG} {be sh : Nat → Nat} {ra : Nat} {x : Int32} (hm : LM h.kd h.gl h.fr m) (M : MR σ h m) (W : WF σ) (Mb : MB be sh ra h m) : Con G 2 0 0 yX7_rent cX7_rent 7 (some .int) [rv m, .int x] h (PI (fun v h' => cif (0 ≤ x ∧ x ≤ 2) (nI (rnV (rentN σ ra σ.n) sh x.toNatClampNeg)) (-1) = v ∧ Fm [496, 497] [448] h h')) := by
  refine Con.of (lv := [some (rv m), some (.int x), none, none, none, none, none]) (by decide) (by simp only [lvE_r, lvE_i, lvE_l, lvE_s, lvE_0]; rfl) (by simp only [lgl_r, lgl_i, lgl_l, lgl_s, lgl_0]; decide) (fun Γ C R => ?_)
  generalize hPP : (PI (fun v h' => cif (0 ≤ x ∧ x ≤ 2) (nI (rnV (rentN σ ra σ.n) sh x.toNatClampNeg)) (-1) = v ∧ Fm [496, 497] [448] h h')) = PP
  have r10 := W.n10
  have M1 : MR σ (h.setI 448 m 0) m := M.setI (by decide) (by decide) (by decide)
  have Mb1 : MB be sh ra (h.setI 448 m 0) m := Mb.setI (by decide)
  have s0 := Mb.2.1 0 (by decide)
  have s1 := Mb.2.1 1 (by decide)
  have s2 := Mb.2.1 2 (by decide)
  have hA : 0 < A3 sh ∧ A3 sh ≤ 3000 := by unfold A3; omega
  have hle := rent_le W Mb.2.2.2 σ.n (Nat.le_refl _)
  have hs : rentN σ ra σ.n ≤ 160000 := by omega
  have hsk : ∀ k, k < 3 → rentN σ ra σ.n * sh k ≤ 160000000 := fun k hk => Nat.mul_le_mul hs (Mb.2.1 k hk).2.2
  have n1 : h.fr 497 m ≠ h.fr 496 m := gl_ne hm.g497 hm.g496 (by decide)
  have n2 : h.fr 494 m ≠ h.fr 496 m := gl_ne hm.g494 hm.g496 (by decide)
  have n3 : h.fr 494 m ≠ h.fr 497 m := gl_ne hm.g494 hm.g497 (by decide)
  have hlf := lf_2 (s := rentN σ ra σ.n) hA.1
  refine r_aload_n (q := 1) (z := 0) C 0 rfl (by decide +kernel) rfl rfl ?_
  refine r_iconst (q := 2) (z := 0) (v := 0) C rfl (by decide +kernel) (by decide) ?_
  refine r_putI (q := 5) C 7 0 448 rfl (by decide +kernel) rfl (by decide) rfl rfl wf_X7_1 win7 tyX7 tyX7_ok nmX7 rfl (tyX7_ok 0 (by decide)) rfl wnd7 rfl rfl hm.1 ?_
  refine r_iload_n (q := 6) (z := 1) C 1 rfl (by decide +kernel) rfl rfl ?_
  refine r_if_lt (q := 9) (off := 8) (tgt := 14) C rfl (by decide +kernel) (by decide) (fun c6 => ?_) (fun c6 => ?_)
  · refine r_iconst (q := 15) (z := (-1)) (v := (-1)) C rfl (by decide +kernel) (by decide) ?_
    exact r_iret C (by decide +kernel) rfl (by decide) (by decide) (eqP hPP ⟨_, rfl, (by
          have hn : ¬ (0 ≤ x ∧ x ≤ 2) := by
            rintro ⟨e1, e2⟩
            first | exact absurd e1 (Int32.not_le.mpr c6) | exact absurd e2 c11
          rw [cif_f hn]
          exact ⟨rfl, Fm.rf.setI (by decide)⟩)⟩)
  · refine r_iload_n (q := 10) (z := 1) C 1 rfl (by decide +kernel) rfl rfl ?_
    refine r_iconst (q := 11) (z := 2) (v := 2) C rfl (by decide +kernel) (by decide) ?_
    refine r_icmp_le (q := 14) (off := 5) (tgt := 16) C rfl (by decide +kernel) (by decide) (fun c11 => ?_) (fun c11 => ?_)
    · have hy : 0 ≤ x ∧ x ≤ 2 := ⟨Int32.not_lt.mp c6, c11⟩
      obtain ⟨x1, x2, x3⟩ := nI_rng2 (a := 0) (b := 2) (by decide) hy.1 hy.2 (by decide)
      obtain ⟨r, hr⟩ : ∃ r, r = x.toNatClampNeg := ⟨_, rfl⟩
      rw [← hr] at x2 x3
      rw [← hr] at hPP
      clear hr
      subst x3
      refine r_aload_n (q := 17) (z := 0) C 0 rfl (by decide +kernel) rfl rfl ?_
      refine cV0I (q := 20) C R rfl (by decide +kernel) lk_X7_356 (c_X7_rents hm M1 W Mb1) (by decide) (by decide) (by decide) rfl (by first | exact Nat.le_of_ble_eq_true rfl | (simp only [List.map_cons, List.map_nil, List.sum_cons, List.sum_nil, rv_cat]; exact Nat.le_of_ble_eq_true rfl)) rfl hm.1 ?_
      rintro _ _ ⟨rfl, rfl⟩
      refine r_istore_n (q := 21) (z := 2) C 2 rfl (by decide +kernel) rfl (by decide) (by first | rfl | exact okst_rv rfl) ?_
      dsimp only [List.set]
      have L116 : ∀ (fuel116 : Nat) (f g : Nat → Int32) (t : Nat), lfN (rentN σ ra σ.n) sh - t < fuel116 → (t ≤ lfN (rentN σ ra σ.n) sh) → (∀ k, k < 3 → f k = nI (qN (rentN σ ra σ.n) sh k + (if ahN (rN (rentN σ ra σ.n) sh) k < t then 1 else 0))) → (∀ k, k < 3 → g k = if ahN (rN (rentN σ ra σ.n) sh) k < t then -1 else nI (rN (rentN σ ra σ.n) sh k)) → wX G Γ (qM G Γ PP 0 0) 0 0 (((h.setI 448 m 0).row (h.fr 497 m) (f)).row (h.fr 496 m) (g)) 116 [some (rv m), some (.int (nI r)), some (.int (nI (rentN σ ra σ.n))), some (.int (nI (A3 sh))), some (.int (nI (lfN (rentN σ ra σ.n) sh - t))), none, none] [] := by
        intro fuel116
        induction fuel116 with
        | zero =>
          intro f g t hm116
          exact absurd hm116 (Nat.not_lt_zero _)
        | succ fuel116 ih116 =>
          intro f g t hm116 ht hf hg
          refine r_iload (q := 118) C 4 rfl (by decide +kernel) rfl ?_
          refine r_if_le (q := 121) (off := 72) (tgt := 190) C rfl (by decide +kernel) (by decide) (fun c118 => ?_) (fun c118 => ?_)
          · have etl : t = lfN (rentN σ ra σ.n) sh := by
              rcases Nat.lt_or_ge t (lfN (rentN σ ra σ.n) sh) with e | e
              · exact absurd c118 (nI_nle (by omega) (by omega))
              · omega
            refine r_aload_n (q := 191) (z := 0) C 0 rfl (by decide +kernel) rfl rfl ?_
            refine r_getR (q := 194) C 7 49 497 rfl (by decide +kernel) rfl (by decide) rfl rfl wf_X7_154 win7 hm.1 ?_
            refine r_iload_n (q := 195) (z := 1) C 1 rfl (by decide +kernel) rfl rfl ?_
            refine r_iald (q := 196) C rfl (by decide +kernel) hm.k497 (vp_in_nI (by omega) (by decide)) ?_
            try simp only [fr_row, fr_setI]
            rw [nI_clamp (by omega), ai_row_ne n1, ai_row_eq, hf r (by omega), etl]
            exact r_iret C (by decide +kernel) rfl (by decide) (by decide) (eqP hPP ⟨_, rfl, (by
                  rw [cif_t hy]
                  exact ⟨rfl, Fm.row (Fm.row (Fm.rf.setI (by decide)) (by rw [hm.g497]; decide)) (by rw [hm.g496]; decide)⟩)⟩)
          · have htl : t < lfN (rentN σ ra σ.n) sh := by
              rcases Nat.lt_or_ge t (lfN (rentN σ ra σ.n) sh) with e | e
              · exact e
              · exact absurd (by rw [show lfN (rentN σ ra σ.n) sh - t = 0 by omega]; decide) c118
            refine r_iconst (q := 122) (z := 0) (v := 0) C rfl (by decide +kernel) (by decide) ?_
            refine r_istore (q := 124) C 5 rfl (by decide +kernel) (by decide) (by first | rfl | exact okst_rv rfl) ?_
            dsimp only [List.set]
            refine r_iconst (q := 125) (z := 1) (v := 1) C rfl (by decide +kernel) (by decide) ?_
            refine r_istore (q := 127) C 6 rfl (by decide +kernel) (by decide) (by first | rfl | exact okst_rv rfl) ?_
            dsimp only [List.set]
            have L127 : ∀ (fuel127 : Nat) (k : Nat), 3 - k < fuel127 → (1 ≤ k) → (k ≤ 3) → wX G Γ (qM G Γ PP 0 0) 0 0 (((h.setI 448 m 0).row (h.fr 497 m) (f)).row (h.fr 496 m) (g)) 127 [some (rv m), some (.int (nI r)), some (.int (nI (rentN σ ra σ.n))), some (.int (nI (A3 sh))), some (.int (nI (lfN (rentN σ ra σ.n) sh - t))), some (.int (nI (b3 g k))), some (.int (nI k))] [] := by
              intro fuel127
              induction fuel127 with
              | zero =>
                intro k hm127
                exact absurd hm127 (Nat.not_lt_zero _)
              | succ fuel127 ih127 =>
                intro k hm127 h1k hk
                refine r_iload (q := 129) C 6 rfl (by decide +kernel) rfl ?_
                refine r_iconst (q := 130) (z := 3) (v := 3) C rfl (by decide +kernel) (by decide) ?_
                refine r_icmp_ge (q := 133) (off := 35) (tgt := 165) C rfl (by decide +kernel) (by decide) (fun c130 => ?_) (fun c130 => ?_)
                · have ek : k = 3 := by have := (nI_leI (b := k) (a := 3) (by omega) (by omega)).mp c130; omega
                  subst ek
                  obtain ⟨b3a, b3b⟩ := b3_ah (r := rN (rentN σ ra σ.n) sh) (g := g) (t := t) (by omega) (fun k hk => by rw [hg k hk]; split <;> first | rfl | exact nI_toInt (by have := Nat.mod_lt ((rentN σ ra σ.n) * sh k) hA.1; unfold rN; omega))
                  obtain ⟨b, hb⟩ : ∃ b, b = b3 g 3 := ⟨_, rfl⟩
                  rw [← hb] at b3a b3b
                  rw [← hb]
                  refine r_aload_n (q := 166) (z := 0) C 0 rfl (by decide +kernel) rfl rfl ?_
                  refine r_getR (q := 169) C 7 49 497 rfl (by decide +kernel) rfl (by decide) rfl rfl wf_X7_154 win7 hm.1 ?_
                  refine r_iload (q := 171) C 5 rfl (by decide +kernel) rfl ?_
                  refine r_dup2 (q := 172) C rfl (by decide +kernel) (by first | rfl | exact rv_cat _) (by first | rfl | exact rv_cat _) ?_
                  refine r_iald (q := 173) C rfl (by decide +kernel) hm.k497 (vp_in_nI (by omega) (by decide)) ?_
                  try simp only [fr_row, fr_setI]
                  rw [nI_clamp (by omega), ai_row_ne n1, ai_row_eq, hf b b3a, b3b, if_neg (Nat.lt_irrefl t), Nat.add_zero]
                  refine r_iconst (q := 174) (z := 1) (v := 1) C rfl (by decide +kernel) (by decide) ?_
                  refine r_iadd (q := 175) C rfl (by decide +kernel) ?_
                  rw [nI_1]
                  refine r_iast (q := 176) C rfl (by decide +kernel) rfl hm.k497 (vp_in_nI (by omega) (by decide)) ?_
                  try simp only [fr_row, fr_setI]
                  rw [row_stI2 n1, nI_clamp (by omega)]
                  refine r_aload_n (q := 177) (z := 0) C 0 rfl (by decide +kernel) rfl rfl ?_
                  refine r_getR (q := 180) C 7 48 496 rfl (by decide +kernel) rfl (by decide) rfl rfl wf_X7_151 win7 hm.1 ?_
                  refine r_iload (q := 182) C 5 rfl (by decide +kernel) rfl ?_
                  refine r_iconst (q := 183) (z := (-1)) (v := (-1)) C rfl (by decide +kernel) (by decide) ?_
                  refine r_iast (q := 184) C rfl (by decide +kernel) rfl hm.k496 (vp_in_nI (by omega) (by decide)) ?_
                  try simp only [fr_row, fr_setI]
                  rw [row_stI, nI_clamp (by omega)]
                  refine r_iinc (q := 187) (z := (-1)) (v := (-1)) C 4 rfl (by decide +kernel) rfl (by decide) (by decide) (by first | rfl | exact okst_rv rfl) ?_
                  dsimp only [List.set]
                  rw [show nI (lfN (rentN σ ra σ.n) sh - t) + -1 = nI (lfN (rentN σ ra σ.n) sh - (t + 1)) by rw [show lfN (rentN σ ra σ.n) sh - t = (lfN (rentN σ ra σ.n) sh - (t + 1)) + 1 by omega]; exact pk_m1 _]
                  have inj : ∀ k, k < 3 → k ≠ b → ahN (rN (rentN σ ra σ.n) sh) k ≠ t := fun k hk hn e => ah_inj hk b3a hn (e.trans b3b.symm)
                  have hf2 : ∀ k, k < 3 → upd f b (nI (qN (rentN σ ra σ.n) sh b + 1)) k = nI (qN (rentN σ ra σ.n) sh k + (if ahN (rN (rentN σ ra σ.n) sh) k < t + 1 then 1 else 0)) := fun k hk => by
                    by_cases e : k = b
                    · subst e; rw [pk_us, if_pos (by omega)]
                    · rw [pk_un e, hf k hk]
                      have := inj k hk e
                      by_cases e2 : ahN (rN (rentN σ ra σ.n) sh) k < t
                      · rw [if_pos e2, if_pos (by omega)]
                      · rw [if_neg e2, if_neg (by omega)]
                  have hg2 : ∀ k, k < 3 → upd g b (-1) k = if ahN (rN (rentN σ ra σ.n) sh) k < t + 1 then -1 else nI (rN (rentN σ ra σ.n) sh k) := fun k hk => by
                    by_cases e : k = b
                    · subst e; rw [pk_us, if_pos (by omega)]
                    · rw [pk_un e, hg k hk]
                      have := inj k hk e
                      by_cases e2 : ahN (rN (rentN σ ra σ.n) sh) k < t
                      · rw [if_pos e2, if_pos (by omega)]
                      · rw [if_neg e2, if_neg (by omega)]
                  refine r_goto (off := -71) (tgt := 116) C (by decide +kernel) (by decide) ?_
                  exact wX.sub (lsub_s (lsub_s (lsub_s (lsub_s (lsub_s (lsub_n (lsub_n (lsub_nil)))))))) (ih116 _ _ (t + 1) (by omega) (by omega) hf2 hg2)
                · have hlt : k < 3 := Nat.lt_of_not_le (fun e => c130 (nI_le (a := 3) e (by omega)))
                  refine r_aload_n (q := 134) (z := 0) C 0 rfl (by decide +kernel) rfl rfl ?_
                  refine r_getR (q := 137) C 7 48 496 rfl (by decide +kernel) rfl (by decide) rfl rfl wf_X7_151 win7 hm.1 ?_
                  refine r_iload (q := 139) C 6 rfl (by decide +kernel) rfl ?_
                  refine r_iald (q := 140) C rfl (by decide +kernel) hm.k496 (vp_in_nI (by omega) (by decide)) ?_
                  try simp only [fr_row, fr_setI]
                  rw [nI_clamp (by omega), ai_row_eq]
                  refine r_aload_n (q := 141) (z := 0) C 0 rfl (by decide +kernel) rfl rfl ?_
                  refine r_getR (q := 144) C 7 48 496 rfl (by decide +kernel) rfl (by decide) rfl rfl wf_X7_151 win7 hm.1 ?_
                  refine r_iload (q := 146) C 5 rfl (by decide +kernel) rfl ?_
                  refine r_iald (q := 147) C rfl (by decide +kernel) hm.k496 (vp_in_nI (by have := b3_lt (g := g) k; omega) (by decide)) ?_
                  try simp only [fr_row, fr_setI]
                  rw [nI_clamp (by have := b3_lt (g := g) k; omega), ai_row_eq]
                  refine r_icmp_le (q := 150) (off := 8) (tgt := 155) C rfl (by decide +kernel) (by decide) (fun c147 => ?_) (fun c147 => ?_)
                  · have eb : nI (b3 g k) = nI (b3 g (k + 1)) := by rw [b3, if_neg (Int32.not_lt.mpr c147)]
                    refine r_iload (q := 157) C 5 rfl (by decide +kernel) rfl ?_
                    refine r_istore (q := 159) C 5 rfl (by decide +kernel) (by decide) (by first | rfl | exact okst_rv rfl) ?_
                    dsimp only [List.set]
                    refine r_iinc (q := 162) (z := 1) (v := 1) C 6 rfl (by decide +kernel) rfl (by decide) (by decide) (by first | rfl | exact okst_rv rfl) ?_
                    dsimp only [List.set]
                    rw [nI_1]
                    refine r_goto (off := -35) (tgt := 127) C (by decide +kernel) (by decide) ?_
                    have z := ih127 (k + 1) (by omega) (by omega) (by omega)
                    rw [← eb] at z
                    exact z
                  · have eb : nI k = nI (b3 g (k + 1)) := by rw [b3, if_pos (Int32.not_le.mp c147)]
                    refine r_iload (q := 152) C 6 rfl (by decide +kernel) rfl ?_
                    refine r_goto (off := 5) (tgt := 157) C (by decide +kernel) (by decide) ?_
                    refine r_istore (q := 159) C 5 rfl (by decide +kernel) (by decide) (by first | rfl | exact okst_rv rfl) ?_
                    dsimp only [List.set]
                    refine r_iinc (q := 162) (z := 1) (v := 1) C 6 rfl (by decide +kernel) rfl (by decide) (by decide) (by first | rfl | exact okst_rv rfl) ?_
                    dsimp only [List.set]
                    rw [nI_1]
                    refine r_goto (off := -35) (tgt := 127) C (by decide +kernel) (by decide) ?_
                    have z := ih127 (k + 1) (by omega) (by omega) (by omega)
                    rw [← eb] at z
                    exact z
            have z := L127 4 1 (by omega) (by omega) (by omega)
            rw [show b3 g 1 = 0 by simp [b3]] at z
            exact z
      refine r_aload_n (q := 22) (z := 0) C 0 rfl (by decide +kernel) rfl rfl ?_
      refine r_getR (q := 25) C 7 46 494 rfl (by decide +kernel) rfl (by decide) rfl rfl wf_X7_145 win7 hm.1 ?_
      refine r_iconst (q := 26) (z := 0) (v := 0) C rfl (by decide +kernel) (by decide) ?_
      refine r_iald (q := 27) C rfl (by decide +kernel) hm.k494 (vp_in_nI (n := 0) (by decide) (by decide)) ?_
      rw [show (0 : Int32).toNatClampNeg = 0 from rfl, (Mb1.2.1 0 (by decide)).1]
      refine r_aload_n (q := 28) (z := 0) C 0 rfl (by decide +kernel) rfl rfl ?_
      refine r_getR (q := 31) C 7 46 494 rfl (by decide +kernel) rfl (by decide) rfl rfl wf_X7_145 win7 hm.1 ?_
      refine r_iconst (q := 32) (z := 1) (v := 1) C rfl (by decide +kernel) (by decide) ?_
      refine r_iald (q := 33) C rfl (by decide +kernel) hm.k494 (vp_in_nI (n := 1) (by decide) (by decide)) ?_
      rw [show (1 : Int32).toNatClampNeg = 1 from rfl, (Mb1.2.1 1 (by decide)).1]
      refine r_iadd (q := 34) C rfl (by decide +kernel) ?_
      rw [nI_add]
      refine r_aload_n (q := 35) (z := 0) C 0 rfl (by decide +kernel) rfl rfl ?_
      refine r_getR (q := 38) C 7 46 494 rfl (by decide +kernel) rfl (by decide) rfl rfl wf_X7_145 win7 hm.1 ?_
      refine r_iconst (q := 39) (z := 2) (v := 2) C rfl (by decide +kernel) (by decide) ?_
      refine r_iald (q := 40) C rfl (by decide +kernel) hm.k494 (vp_in_nI (n := 2) (by decide) (by decide)) ?_
      rw [show (2 : Int32).toNatClampNeg = 2 from rfl, (Mb1.2.1 2 (by decide)).1]
      refine r_iadd (q := 41) C rfl (by decide +kernel) ?_
      rw [nI_add, show sh 0 + sh 1 + sh 2 = A3 sh from rfl]
      refine r_istore_n (q := 42) (z := 3) C 3 rfl (by decide +kernel) rfl (by decide) (by first | rfl | exact okst_rv rfl) ?_
      dsimp only [List.set]
      refine r_iload_n (q := 43) (z := 2) C 2 rfl (by decide +kernel) rfl rfl ?_
      refine r_istore (q := 45) C 4 rfl (by decide +kernel) (by decide) (by first | rfl | exact okst_rv rfl) ?_
      dsimp only [List.set]
      refine r_iconst (q := 46) (z := 0) (v := 0) C rfl (by decide +kernel) (by decide) ?_
      refine r_istore (q := 48) C 5 rfl (by decide +kernel) (by decide) (by first | rfl | exact okst_rv rfl) ?_
      dsimp only [List.set]
      have L48 : ∀ (fuel48 : Nat) (k : Nat), 3 - k < fuel48 → (k ≤ 3) → wX G Γ (qM G Γ PP 0 0) 0 0 (((h.setI 448 m 0).row (h.fr 497 m) (mix (fun j => nI (qN (rentN σ ra σ.n) sh j)) (h.ai (h.fr 497 m)) k)).row (h.fr 496 m) (mix (fun j => nI (rN (rentN σ ra σ.n) sh j)) (h.ai (h.fr 496 m)) k)) 48 [some (rv m), some (.int (nI r)), some (.int (nI (rentN σ ra σ.n))), some (.int (nI (A3 sh))), some (.int (nI ((rentN σ ra σ.n) - sumq (rentN σ ra σ.n) sh k))), some (.int (nI k)), none] [] := by
        intro fuel48
        induction fuel48 with
        | zero =>
          intro k hm48
          exact absurd hm48 (Nat.not_lt_zero _)
        | succ fuel48 ih48 =>
          intro k hm48 hk
          refine r_iload (q := 50) C 5 rfl (by decide +kernel) rfl ?_
          refine r_iconst (q := 51) (z := 3) (v := 3) C rfl (by decide +kernel) (by decide) ?_
          refine r_icmp_ge (q := 54) (off := 65) (tgt := 116) C rfl (by decide +kernel) (by decide) (fun c51 => ?_) (fun c51 => ?_)
          · have ek : k = 3 := by have := (nI_leI (b := k) (a := 3) (by omega) (by omega)).mp c51; omega
            subst ek
            rw [show (rentN σ ra σ.n) - sumq (rentN σ ra σ.n) sh 3 = lfN (rentN σ ra σ.n) sh - 0 by rw [sumq_3]; rfl]
            exact wX.sub (lsub_s (lsub_s (lsub_s (lsub_s (lsub_s (lsub_n (lsub_n lsub_nil))))))) (L116 (lfN (rentN σ ra σ.n) sh + 1) _ _ 0 (by omega) (by omega) (fun k hk => by rw [mix_in hk, if_neg (Nat.not_lt_zero _)]; rfl) (fun k hk => by rw [mix_in hk, if_neg (Nat.not_lt_zero _)]))
          · have hlt : k < 3 := Nat.lt_of_not_le (fun e => c51 (nI_le (a := 3) e (by omega)))
            have hk9 := hsk k hlt
            have hsh := Mb.2.1 k hlt
            refine r_aload_n (q := 55) (z := 0) C 0 rfl (by decide +kernel) rfl rfl ?_
            refine r_getR (q := 58) C 7 49 497 rfl (by decide +kernel) rfl (by decide) rfl rfl wf_X7_154 win7 hm.1 ?_
            refine r_iload (q := 60) C 5 rfl (by decide +kernel) rfl ?_
            refine r_iload_n (q := 61) (z := 2) C 2 rfl (by decide +kernel) rfl rfl ?_
            refine r_i2l (q := 62) C rfl (by decide +kernel) ?_
            rw [nI_l (by omega)]
            refine r_aload_n (q := 63) (z := 0) C 0 rfl (by decide +kernel) rfl rfl ?_
            refine r_getR (q := 66) C 7 46 494 rfl (by decide +kernel) rfl (by decide) rfl rfl wf_X7_145 win7 hm.1 ?_
            refine r_iload (q := 68) C 5 rfl (by decide +kernel) rfl ?_
            refine r_iald (q := 69) C rfl (by decide +kernel) hm.k494 (vp_in_nI (by omega) (by decide)) ?_
            try simp only [fr_row, fr_setI]
            rw [nI_clamp (by omega), ai_row_ne n2, ai_row_ne n3, ai_setI, hsh.1]
            refine r_i2l (q := 70) C rfl (by decide +kernel) ?_
            rw [nI_l (by omega)]
            refine r_lmul (q := 71) C rfl (by decide +kernel) ?_
            rw [lN_mul]
            refine r_iload_n (q := 72) (z := 3) C 3 rfl (by decide +kernel) rfl rfl ?_
            refine r_i2l (q := 73) C rfl (by decide +kernel) ?_
            rw [nI_l (by omega)]
            refine r_ldiv (q := 74) C rfl (by decide +kernel) (by rw [show (0 : Int64) = lN 0 from rfl, pk_lEQ (by omega) (by decide)]; omega) ?_
            rw [pk_lDiv (by omega) hA.1 (by omega)]
            refine r_l2i (q := 75) C rfl (by decide +kernel) ?_
            rw [lN_i]
            refine r_iast (q := 76) C rfl (by decide +kernel) rfl hm.k497 (vp_in_nI (by omega) (by decide)) ?_
            try simp only [fr_row, fr_setI]
            rw [row_stI2 n1, nI_clamp (by omega), show (rentN σ ra σ.n) * sh k / A3 sh = qN (rentN σ ra σ.n) sh k from rfl, mix_s (fun j => nI (qN (rentN σ ra σ.n) sh j))]
            refine r_aload_n (q := 77) (z := 0) C 0 rfl (by decide +kernel) rfl rfl ?_
            refine r_getR (q := 80) C 7 48 496 rfl (by decide +kernel) rfl (by decide) rfl rfl wf_X7_151 win7 hm.1 ?_
            refine r_iload (q := 82) C 5 rfl (by decide +kernel) rfl ?_
            refine r_iload_n (q := 83) (z := 2) C 2 rfl (by decide +kernel) rfl rfl ?_
            refine r_i2l (q := 84) C rfl (by decide +kernel) ?_
            rw [nI_l (by omega)]
            refine r_aload_n (q := 85) (z := 0) C 0 rfl (by decide +kernel) rfl rfl ?_
            refine r_getR (q := 88) C 7 46 494 rfl (by decide +kernel) rfl (by decide) rfl rfl wf_X7_145 win7 hm.1 ?_
            refine r_iload (q := 90) C 5 rfl (by decide +kernel) rfl ?_
            refine r_iald (q := 91) C rfl (by decide +kernel) hm.k494 (vp_in_nI (by omega) (by decide)) ?_
            try simp only [fr_row, fr_setI]
            rw [nI_clamp (by omega), ai_row_ne n2, ai_row_ne n3, ai_setI, hsh.1]
            refine r_i2l (q := 92) C rfl (by decide +kernel) ?_
            rw [nI_l (by omega)]
            refine r_lmul (q := 93) C rfl (by decide +kernel) ?_
            rw [lN_mul]
            refine r_iload_n (q := 94) (z := 3) C 3 rfl (by decide +kernel) rfl rfl ?_
            refine r_i2l (q := 95) C rfl (by decide +kernel) ?_
            rw [nI_l (by omega)]
            refine r_lrem (q := 96) C rfl (by decide +kernel) (by rw [show (0 : Int64) = lN 0 from rfl, pk_lEQ (by omega) (by decide)]; omega) ?_
            rw [pk_lRem (by omega) hA.1 (by omega)]
            refine r_l2i (q := 97) C rfl (by decide +kernel) ?_
            rw [lN_i]
            refine r_iast (q := 98) C rfl (by decide +kernel) rfl hm.k496 (vp_in_nI (by omega) (by decide)) ?_
            try simp only [fr_row, fr_setI]
            rw [row_stI, nI_clamp (by omega), show (rentN σ ra σ.n) * sh k % A3 sh = rN (rentN σ ra σ.n) sh k from rfl, mix_s (fun j => nI (rN (rentN σ ra σ.n) sh j))]
            refine r_iload (q := 100) C 4 rfl (by decide +kernel) rfl ?_
            refine r_aload_n (q := 101) (z := 0) C 0 rfl (by decide +kernel) rfl rfl ?_
            refine r_getR (q := 104) C 7 49 497 rfl (by decide +kernel) rfl (by decide) rfl rfl wf_X7_154 win7 hm.1 ?_
            refine r_iload (q := 106) C 5 rfl (by decide +kernel) rfl ?_
            refine r_iald (q := 107) C rfl (by decide +kernel) hm.k497 (vp_in_nI (by omega) (by decide)) ?_
            try simp only [fr_row, fr_setI]
            rw [nI_clamp (by omega), ai_row_ne n1, ai_row_eq, mix_in (by omega)]
            refine r_isub (q := 108) C rfl (by decide +kernel) ?_
            have hq9 := sumq_le (s := (rentN σ ra σ.n)) hA.1 (k := k + 1) (by omega)
            rw [sumq] at hq9
            rw [pk_sub (by omega), show (rentN σ ra σ.n) - sumq (rentN σ ra σ.n) sh k - qN (rentN σ ra σ.n) sh k = (rentN σ ra σ.n) - sumq (rentN σ ra σ.n) sh (k + 1) by rw [sumq]; omega]
            refine r_istore (q := 110) C 4 rfl (by decide +kernel) (by decide) (by first | rfl | exact okst_rv rfl) ?_
            dsimp only [List.set]
            refine r_iinc (q := 113) (z := 1) (v := 1) C 5 rfl (by decide +kernel) rfl (by decide) (by decide) (by first | rfl | exact okst_rv rfl) ?_
            dsimp only [List.set]
            rw [nI_1]
            refine r_goto (off := -65) (tgt := 48) C (by decide +kernel) (by decide) ?_
            exact wX.sub (lsub_s (lsub_s (lsub_s (lsub_s (lsub_s (lsub_s (lsub_n (lsub_nil)))))))) (ih48 (k + 1) (by omega) (by omega))
      have z0 := L48 4 0 (by omega) (by omega)
      rw [mix_0, mix_0, show (h.setI 448 m 0).row (h.fr 497 m) (h.ai (h.fr 497 m)) = h.setI 448 m 0 from row_self, show (h.setI 448 m 0).row (h.fr 496 m) (h.ai (h.fr 496 m)) = h.setI 448 m 0 from row_self] at z0
      exact z0
    · refine r_iconst (q := 15) (z := (-1)) (v := (-1)) C rfl (by decide +kernel) (by decide) ?_
      exact r_iret C (by decide +kernel) rfl (by decide) (by decide) (eqP hPP ⟨_, rfl, (by
            have hn : ¬ (0 ≤ x ∧ x ≤ 2) := by
              rintro ⟨e1, e2⟩
              first | exact absurd e1 (Int32.not_le.mpr c6) | exact absurd e2 c11
            rw [cif_f hn]
            exact ⟨rfl, Fm.rf.setI (by decide)⟩)⟩)
end
