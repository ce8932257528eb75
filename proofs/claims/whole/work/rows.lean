section
-- ===== PART A: goes FIRST, ahead of the names: the tables' words, and 'selects' of the private methods out of them =====
/-- a private method of a class that the tables say can be made, by its rows of tables_1 -/
def lw_okq (q : MethodName × Nat) : Prop := (q.1.cls ≠ "java/lang/invoke/MethodHandle" ∧ q.1.cls ≠ "java/lang/invoke/VarHandle") ∧ Cond.instantiable q.1.cls q.2 ∈ tables_1 ∧ Cond.privateMethod q.1 ∈ tables_1 ∧ Cond.instanceMethod q.1 ∈ tables_1
theorem lw_p0 : lw_okq (⟨"RingDisk$Reader", "advance", "()V"⟩, 7) := ⟨⟨by decide +kernel, by decide +kernel⟩, List.mem_of_getElem? (i := 168) (by decide +kernel), List.mem_of_getElem? (i := 371) (by decide +kernel), List.mem_of_getElem? (i := 372) (by decide +kernel)⟩
theorem lw_p1 : lw_okq (⟨"RingDisk$Reader", "takeWord", "()V"⟩, 7) := ⟨⟨by decide +kernel, by decide +kernel⟩, List.mem_of_getElem? (i := 168) (by decide +kernel), List.mem_of_getElem? (i := 383) (by decide +kernel), List.mem_of_getElem? (i := 384) (by decide +kernel)⟩
theorem lw_p2 : lw_okq (⟨"RingDisk$Reader", "takeNumber", "()V"⟩, 7) := ⟨⟨by decide +kernel, by decide +kernel⟩, List.mem_of_getElem? (i := 168) (by decide +kernel), List.mem_of_getElem? (i := 390) (by decide +kernel), List.mem_of_getElem? (i := 391) (by decide +kernel)⟩
theorem lw_p3 : lw_okq (⟨"RingDisk$Reader", "readLaw", "()V"⟩, 7) := ⟨⟨by decide +kernel, by decide +kernel⟩, List.mem_of_getElem? (i := 168) (by decide +kernel), List.mem_of_getElem? (i := 481) (by decide +kernel), List.mem_of_getElem? (i := 482) (by decide +kernel)⟩
theorem lw_p4 : lw_okq (⟨"RingDisk$Reader", "wordAmong", "(Ljava/lang/String;)I"⟩, 7) := ⟨⟨by decide +kernel, by decide +kernel⟩, List.mem_of_getElem? (i := 168) (by decide +kernel), List.mem_of_getElem? (i := 486) (by decide +kernel), List.mem_of_getElem? (i := 487) (by decide +kernel)⟩
theorem lw_p5 : lw_okq (⟨"RingDisk$Reader", "isPieceOf", "(Ljava/lang/String;II)Z"⟩, 7) := ⟨⟨by decide +kernel, by decide +kernel⟩, List.mem_of_getElem? (i := 168) (by decide +kernel), List.mem_of_getElem? (i := 511) (by decide +kernel), List.mem_of_getElem? (i := 512) (by decide +kernel)⟩
theorem lw_p6 : lw_okq (⟨"RingDisk$Reader", "refuse", "(I)V"⟩, 7) := ⟨⟨by decide +kernel, by decide +kernel⟩, List.mem_of_getElem? (i := 168) (by decide +kernel), List.mem_of_getElem? (i := 515) (by decide +kernel), List.mem_of_getElem? (i := 516) (by decide +kernel)⟩
theorem lw_p7 : lw_okq (⟨"RingDisk$Reader", "readNumbers", "(I)V"⟩, 7) := ⟨⟨by decide +kernel, by decide +kernel⟩, List.mem_of_getElem? (i := 168) (by decide +kernel), List.mem_of_getElem? (i := 523) (by decide +kernel), List.mem_of_getElem? (i := 524) (by decide +kernel)⟩
theorem lw_p8 : lw_okq (⟨"RingDisk$Reader", "readN", "(II)I"⟩, 7) := ⟨⟨by decide +kernel, by decide +kernel⟩, List.mem_of_getElem? (i := 168) (by decide +kernel), List.mem_of_getElem? (i := 531) (by decide +kernel), List.mem_of_getElem? (i := 532) (by decide +kernel)⟩
theorem lw_p9 : lw_okq (⟨"RingDisk$Reader", "expect", "(Z)V"⟩, 7) := ⟨⟨by decide +kernel, by decide +kernel⟩, List.mem_of_getElem? (i := 168) (by decide +kernel), List.mem_of_getElem? (i := 542) (by decide +kernel), List.mem_of_getElem? (i := 543) (by decide +kernel)⟩
theorem lw_p10 : lw_okq (⟨"RingDisk$Reader", "readAny", "(I)V"⟩, 7) := ⟨⟨by decide +kernel, by decide +kernel⟩, List.mem_of_getElem? (i := 168) (by decide +kernel), List.mem_of_getElem? (i := 546) (by decide +kernel), List.mem_of_getElem? (i := 547) (by decide +kernel)⟩
theorem lw_p11 : lw_okq (⟨"RingDisk$Reader", "readTest", "(I)V"⟩, 7) := ⟨⟨by decide +kernel, by decide +kernel⟩, List.mem_of_getElem? (i := 168) (by decide +kernel), List.mem_of_getElem? (i := 550) (by decide +kernel), List.mem_of_getElem? (i := 551) (by decide +kernel)⟩
theorem lw_p12 : lw_okq (⟨"RingDisk$Reader", "readSum", "(I)V"⟩, 7) := ⟨⟨by decide +kernel, by decide +kernel⟩, List.mem_of_getElem? (i := 168) (by decide +kernel), List.mem_of_getElem? (i := 554) (by decide +kernel), List.mem_of_getElem? (i := 555) (by decide +kernel)⟩
theorem lw_p13 : lw_okq (⟨"RingDisk$Reader", "readTerm", "(I)V"⟩, 7) := ⟨⟨by decide +kernel, by decide +kernel⟩, List.mem_of_getElem? (i := 168) (by decide +kernel), List.mem_of_getElem? (i := 558) (by decide +kernel), List.mem_of_getElem? (i := 559) (by decide +kernel)⟩
theorem lw_p14 : lw_okq (⟨"RingDisk$Reader", "readPart", "(I)V"⟩, 7) := ⟨⟨by decide +kernel, by decide +kernel⟩, List.mem_of_getElem? (i := 168) (by decide +kernel), List.mem_of_getElem? (i := 562) (by decide +kernel), List.mem_of_getElem? (i := 563) (by decide +kernel)⟩
theorem lw_p15 : lw_okq (⟨"RingDisk$Reader", "signAmong", "(Ljava/lang/String;)I"⟩, 7) := ⟨⟨by decide +kernel, by decide +kernel⟩, List.mem_of_getElem? (i := 168) (by decide +kernel), List.mem_of_getElem? (i := 569) (by decide +kernel), List.mem_of_getElem? (i := 570) (by decide +kernel)⟩
def lw_privs_1 : List (MethodName × Nat) := [(⟨"RingDisk$Reader", "advance", "()V"⟩, 7), (⟨"RingDisk$Reader", "takeWord", "()V"⟩, 7), (⟨"RingDisk$Reader", "takeNumber", "()V"⟩, 7), (⟨"RingDisk$Reader", "readLaw", "()V"⟩, 7), (⟨"RingDisk$Reader", "wordAmong", "(Ljava/lang/String;)I"⟩, 7), (⟨"RingDisk$Reader", "isPieceOf", "(Ljava/lang/String;II)Z"⟩, 7), (⟨"RingDisk$Reader", "refuse", "(I)V"⟩, 7), (⟨"RingDisk$Reader", "readNumbers", "(I)V"⟩, 7), (⟨"RingDisk$Reader", "readN", "(II)I"⟩, 7), (⟨"RingDisk$Reader", "expect", "(Z)V"⟩, 7), (⟨"RingDisk$Reader", "readAny", "(I)V"⟩, 7), (⟨"RingDisk$Reader", "readTest", "(I)V"⟩, 7), (⟨"RingDisk$Reader", "readSum", "(I)V"⟩, 7), (⟨"RingDisk$Reader", "readTerm", "(I)V"⟩, 7), (⟨"RingDisk$Reader", "readPart", "(I)V"⟩, 7), (⟨"RingDisk$Reader", "signAmong", "(Ljava/lang/String;)I"⟩, 7)]
theorem lw_r1 : ∀ q ∈ lw_privs_1, lw_okq q := List.forall_mem_cons.mpr ⟨lw_p0, List.forall_mem_cons.mpr ⟨lw_p1, List.forall_mem_cons.mpr ⟨lw_p2, List.forall_mem_cons.mpr ⟨lw_p3, List.forall_mem_cons.mpr ⟨lw_p4, List.forall_mem_cons.mpr ⟨lw_p5, List.forall_mem_cons.mpr ⟨lw_p6, List.forall_mem_cons.mpr ⟨lw_p7, List.forall_mem_cons.mpr ⟨lw_p8, List.forall_mem_cons.mpr ⟨lw_p9, List.forall_mem_cons.mpr ⟨lw_p10, List.forall_mem_cons.mpr ⟨lw_p11, List.forall_mem_cons.mpr ⟨lw_p12, List.forall_mem_cons.mpr ⟨lw_p13, List.forall_mem_cons.mpr ⟨lw_p14, List.forall_mem_cons.mpr ⟨lw_p15, fun _ h => absurd h List.not_mem_nil⟩⟩⟩⟩⟩⟩⟩⟩⟩⟩⟩⟩⟩⟩⟩⟩
theorem lw_p16 : lw_okq (⟨"RingDisk", "isEnd", "(I)Z"⟩, 12) := ⟨⟨by decide +kernel, by decide +kernel⟩, List.mem_of_getElem? (i := 21) (by decide +kernel), List.mem_of_getElem? (i := 588) (by decide +kernel), List.mem_of_getElem? (i := 589) (by decide +kernel)⟩
theorem lw_p17 : lw_okq (⟨"RingDisk$Course", "stick", "()V"⟩, 8) := ⟨⟨by decide +kernel, by decide +kernel⟩, List.mem_of_getElem? (i := 196) (by decide +kernel), List.mem_of_getElem? (i := 608) (by decide +kernel), List.mem_of_getElem? (i := 609) (by decide +kernel)⟩
theorem lw_p18 : lw_okq (⟨"RingDisk$Course", "lawForDust", "(III)I"⟩, 8) := ⟨⟨by decide +kernel, by decide +kernel⟩, List.mem_of_getElem? (i := 196) (by decide +kernel), List.mem_of_getElem? (i := 616) (by decide +kernel), List.mem_of_getElem? (i := 617) (by decide +kernel)⟩
theorem lw_p19 : lw_okq (⟨"RingDisk$Course", "tellOfRing", "(I)V"⟩, 8) := ⟨⟨by decide +kernel, by decide +kernel⟩, List.mem_of_getElem? (i := 196) (by decide +kernel), List.mem_of_getElem? (i := 620) (by decide +kernel), List.mem_of_getElem? (i := 621) (by decide +kernel)⟩
theorem lw_p20 : lw_okq (⟨"RingDisk$Laws", "valueOf", "(I[I)I"⟩, 12) := ⟨⟨by decide +kernel, by decide +kernel⟩, List.mem_of_getElem? (i := 204) (by decide +kernel), List.mem_of_getElem? (i := 632) (by decide +kernel), List.mem_of_getElem? (i := 633) (by decide +kernel)⟩
theorem lw_p21 : lw_okq (⟨"RingDisk$Course", "luckyNumber", "(I)I"⟩, 8) := ⟨⟨by decide +kernel, by decide +kernel⟩, List.mem_of_getElem? (i := 196) (by decide +kernel), List.mem_of_getElem? (i := 639) (by decide +kernel), List.mem_of_getElem? (i := 640) (by decide +kernel)⟩
theorem lw_p22 : lw_okq (⟨"RingDisk$Course", "breakUp", "()V"⟩, 8) := ⟨⟨by decide +kernel, by decide +kernel⟩, List.mem_of_getElem? (i := 196) (by decide +kernel), List.mem_of_getElem? (i := 656) (by decide +kernel), List.mem_of_getElem? (i := 657) (by decide +kernel)⟩
theorem lw_p23 : lw_okq (⟨"RingDisk$Course", "findGaps", "()V"⟩, 8) := ⟨⟨by decide +kernel, by decide +kernel⟩, List.mem_of_getElem? (i := 196) (by decide +kernel), List.mem_of_getElem? (i := 660) (by decide +kernel), List.mem_of_getElem? (i := 661) (by decide +kernel)⟩
theorem lw_p24 : lw_okq (⟨"RingDisk$Course", "drift", "()V"⟩, 8) := ⟨⟨by decide +kernel, by decide +kernel⟩, List.mem_of_getElem? (i := 196) (by decide +kernel), List.mem_of_getElem? (i := 668) (by decide +kernel), List.mem_of_getElem? (i := 669) (by decide +kernel)⟩
theorem lw_p25 : lw_okq (⟨"RingDisk$Course", "leave", "(II)V"⟩, 8) := ⟨⟨by decide +kernel, by decide +kernel⟩, List.mem_of_getElem? (i := 196) (by decide +kernel), List.mem_of_getElem? (i := 676) (by decide +kernel), List.mem_of_getElem? (i := 677) (by decide +kernel)⟩
theorem lw_p26 : lw_okq (⟨"RingDisk$Course", "gather", "()V"⟩, 8) := ⟨⟨by decide +kernel, by decide +kernel⟩, List.mem_of_getElem? (i := 196) (by decide +kernel), List.mem_of_getElem? (i := 680) (by decide +kernel), List.mem_of_getElem? (i := 681) (by decide +kernel)⟩
theorem lw_p27 : lw_okq (⟨"RingDisk$Course", "feedLumps", "()V"⟩, 8) := ⟨⟨by decide +kernel, by decide +kernel⟩, List.mem_of_getElem? (i := 196) (by decide +kernel), List.mem_of_getElem? (i := 700) (by decide +kernel), List.mem_of_getElem? (i := 701) (by decide +kernel)⟩
theorem lw_p28 : lw_okq (⟨"RingDisk$Course", "eatGas", "()V"⟩, 8) := ⟨⟨by decide +kernel, by decide +kernel⟩, List.mem_of_getElem? (i := 196) (by decide +kernel), List.mem_of_getElem? (i := 705) (by decide +kernel), List.mem_of_getElem? (i := 706) (by decide +kernel)⟩
theorem lw_p29 : lw_okq (⟨"RingDisk$Course", "wander", "()V"⟩, 8) := ⟨⟨by decide +kernel, by decide +kernel⟩, List.mem_of_getElem? (i := 196) (by decide +kernel), List.mem_of_getElem? (i := 713) (by decide +kernel), List.mem_of_getElem? (i := 714) (by decide +kernel)⟩
theorem lw_p30 : lw_okq (⟨"RingDisk$Course", "meet", "()V"⟩, 8) := ⟨⟨by decide +kernel, by decide +kernel⟩, List.mem_of_getElem? (i := 196) (by decide +kernel), List.mem_of_getElem? (i := 725) (by decide +kernel), List.mem_of_getElem? (i := 726) (by decide +kernel)⟩
theorem lw_p31 : lw_okq (⟨"RingDisk$Course", "whoStays", "(II)I"⟩, 8) := ⟨⟨by decide +kernel, by decide +kernel⟩, List.mem_of_getElem? (i := 196) (by decide +kernel), List.mem_of_getElem? (i := 733) (by decide +kernel), List.mem_of_getElem? (i := 734) (by decide +kernel)⟩
def lw_privs_2 : List (MethodName × Nat) := [(⟨"RingDisk", "isEnd", "(I)Z"⟩, 12), (⟨"RingDisk$Course", "stick", "()V"⟩, 8), (⟨"RingDisk$Course", "lawForDust", "(III)I"⟩, 8), (⟨"RingDisk$Course", "tellOfRing", "(I)V"⟩, 8), (⟨"RingDisk$Laws", "valueOf", "(I[I)I"⟩, 12), (⟨"RingDisk$Course", "luckyNumber", "(I)I"⟩, 8), (⟨"RingDisk$Course", "breakUp", "()V"⟩, 8), (⟨"RingDisk$Course", "findGaps", "()V"⟩, 8), (⟨"RingDisk$Course", "drift", "()V"⟩, 8), (⟨"RingDisk$Course", "leave", "(II)V"⟩, 8), (⟨"RingDisk$Course", "gather", "()V"⟩, 8), (⟨"RingDisk$Course", "feedLumps", "()V"⟩, 8), (⟨"RingDisk$Course", "eatGas", "()V"⟩, 8), (⟨"RingDisk$Course", "wander", "()V"⟩, 8), (⟨"RingDisk$Course", "meet", "()V"⟩, 8), (⟨"RingDisk$Course", "whoStays", "(II)I"⟩, 8)]
theorem lw_r2 : ∀ q ∈ lw_privs_2, lw_okq q := List.forall_mem_cons.mpr ⟨lw_p16, List.forall_mem_cons.mpr ⟨lw_p17, List.forall_mem_cons.mpr ⟨lw_p18, List.forall_mem_cons.mpr ⟨lw_p19, List.forall_mem_cons.mpr ⟨lw_p20, List.forall_mem_cons.mpr ⟨lw_p21, List.forall_mem_cons.mpr ⟨lw_p22, List.forall_mem_cons.mpr ⟨lw_p23, List.forall_mem_cons.mpr ⟨lw_p24, List.forall_mem_cons.mpr ⟨lw_p25, List.forall_mem_cons.mpr ⟨lw_p26, List.forall_mem_cons.mpr ⟨lw_p27, List.forall_mem_cons.mpr ⟨lw_p28, List.forall_mem_cons.mpr ⟨lw_p29, List.forall_mem_cons.mpr ⟨lw_p30, List.forall_mem_cons.mpr ⟨lw_p31, fun _ h => absurd h List.not_mem_nil⟩⟩⟩⟩⟩⟩⟩⟩⟩⟩⟩⟩⟩⟩⟩⟩
theorem lw_p32 : lw_okq (⟨"RingDisk", "seenOf", "(LRingDisk$Lump;)I"⟩, 12) := ⟨⟨by decide +kernel, by decide +kernel⟩, List.mem_of_getElem? (i := 21) (by decide +kernel), List.mem_of_getElem? (i := 754) (by decide +kernel), List.mem_of_getElem? (i := 755) (by decide +kernel)⟩
theorem lw_p33 : lw_okq (⟨"RingDisk", "isQuestion", "(III)Z"⟩, 12) := ⟨⟨by decide +kernel, by decide +kernel⟩, List.mem_of_getElem? (i := 21) (by decide +kernel), List.mem_of_getElem? (i := 781) (by decide +kernel), List.mem_of_getElem? (i := 782) (by decide +kernel)⟩
theorem lw_p34 : lw_okq (⟨"RingDisk", "isSoBehind", "(IIII)Z"⟩, 12) := ⟨⟨by decide +kernel, by decide +kernel⟩, List.mem_of_getElem? (i := 21) (by decide +kernel), List.mem_of_getElem? (i := 786) (by decide +kernel), List.mem_of_getElem? (i := 787) (by decide +kernel)⟩
theorem lw_p35 : lw_okq (⟨"RingDisk", "beginTry", "(I)V"⟩, 12) := ⟨⟨by decide +kernel, by decide +kernel⟩, List.mem_of_getElem? (i := 21) (by decide +kernel), List.mem_of_getElem? (i := 790) (by decide +kernel), List.mem_of_getElem? (i := 791) (by decide +kernel)⟩
theorem lw_p36 : lw_okq (⟨"RingDisk", "isFit", "(I)Z"⟩, 12) := ⟨⟨by decide +kernel, by decide +kernel⟩, List.mem_of_getElem? (i := 21) (by decide +kernel), List.mem_of_getElem? (i := 845) (by decide +kernel), List.mem_of_getElem? (i := 846) (by decide +kernel)⟩
theorem lw_p37 : lw_okq (⟨"java/lang/Throwable", "fillInStackTrace", "(I)Ljava/lang/Throwable;"⟩, 6) := ⟨⟨by decide +kernel, by decide +kernel⟩, List.mem_of_getElem? (i := 920) (by decide +kernel), List.mem_of_getElem? (i := 918) (by decide +kernel), List.mem_of_getElem? (i := 919) (by decide +kernel)⟩
theorem lw_p38 : lw_okq (⟨"RingDiskModel", "lay", "(J)V"⟩, 52) := ⟨⟨by decide +kernel, by decide +kernel⟩, List.mem_of_getElem? (i := 956) (by decide +kernel), List.mem_of_getElem? (i := 954) (by decide +kernel), List.mem_of_getElem? (i := 955) (by decide +kernel)⟩
theorem lw_p39 : lw_okq (⟨"RingDiskModel", "clears", "(I)V"⟩, 52) := ⟨⟨by decide +kernel, by decide +kernel⟩, List.mem_of_getElem? (i := 956) (by decide +kernel), List.mem_of_getElem? (i := 987) (by decide +kernel), List.mem_of_getElem? (i := 988) (by decide +kernel)⟩
theorem lw_p40 : lw_okq (⟨"RingDiskModel", "cutAll", "()V"⟩, 52) := ⟨⟨by decide +kernel, by decide +kernel⟩, List.mem_of_getElem? (i := 956) (by decide +kernel), List.mem_of_getElem? (i := 1154) (by decide +kernel), List.mem_of_getElem? (i := 1155) (by decide +kernel)⟩
theorem lw_p41 : lw_okq (⟨"RingDiskModel", "readLaw", "()V"⟩, 52) := ⟨⟨by decide +kernel, by decide +kernel⟩, List.mem_of_getElem? (i := 956) (by decide +kernel), List.mem_of_getElem? (i := 1173) (by decide +kernel), List.mem_of_getElem? (i := 1174) (by decide +kernel)⟩
theorem lw_p42 : lw_okq (⟨"RingDiskModel", "isWord", "(I)Z"⟩, 52) := ⟨⟨by decide +kernel, by decide +kernel⟩, List.mem_of_getElem? (i := 956) (by decide +kernel), List.mem_of_getElem? (i := 1177) (by decide +kernel), List.mem_of_getElem? (i := 1178) (by decide +kernel)⟩
theorem lw_p43 : lw_okq (⟨"RingDiskModel", "wrong", "(I)V"⟩, 52) := ⟨⟨by decide +kernel, by decide +kernel⟩, List.mem_of_getElem? (i := 956) (by decide +kernel), List.mem_of_getElem? (i := 1181) (by decide +kernel), List.mem_of_getElem? (i := 1182) (by decide +kernel)⟩
theorem lw_p44 : lw_okq (⟨"RingDiskModel", "takeNumber", "(II)I"⟩, 52) := ⟨⟨by decide +kernel, by decide +kernel⟩, List.mem_of_getElem? (i := 956) (by decide +kernel), List.mem_of_getElem? (i := 1192) (by decide +kernel), List.mem_of_getElem? (i := 1193) (by decide +kernel)⟩
theorem lw_p45 : lw_okq (⟨"RingDiskModel", "hasWord", "(I)Z"⟩, 52) := ⟨⟨by decide +kernel, by decide +kernel⟩, List.mem_of_getElem? (i := 956) (by decide +kernel), List.mem_of_getElem? (i := 1196) (by decide +kernel), List.mem_of_getElem? (i := 1197) (by decide +kernel)⟩
theorem lw_p46 : lw_okq (⟨"RingDiskModel", "takeWord", "(I)V"⟩, 52) := ⟨⟨by decide +kernel, by decide +kernel⟩, List.mem_of_getElem? (i := 956) (by decide +kernel), List.mem_of_getElem? (i := 1200) (by decide +kernel), List.mem_of_getElem? (i := 1201) (by decide +kernel)⟩
theorem lw_p47 : lw_okq (⟨"RingDiskModel", "all", "(I)V"⟩, 52) := ⟨⟨by decide +kernel, by decide +kernel⟩, List.mem_of_getElem? (i := 956) (by decide +kernel), List.mem_of_getElem? (i := 1204) (by decide +kernel), List.mem_of_getElem? (i := 1205) (by decide +kernel)⟩
def lw_privs_3 : List (MethodName × Nat) := [(⟨"RingDisk", "seenOf", "(LRingDisk$Lump;)I"⟩, 12), (⟨"RingDisk", "isQuestion", "(III)Z"⟩, 12), (⟨"RingDisk", "isSoBehind", "(IIII)Z"⟩, 12), (⟨"RingDisk", "beginTry", "(I)V"⟩, 12), (⟨"RingDisk", "isFit", "(I)Z"⟩, 12), (⟨"java/lang/Throwable", "fillInStackTrace", "(I)Ljava/lang/Throwable;"⟩, 6), (⟨"RingDiskModel", "lay", "(J)V"⟩, 52), (⟨"RingDiskModel", "clears", "(I)V"⟩, 52), (⟨"RingDiskModel", "cutAll", "()V"⟩, 52), (⟨"RingDiskModel", "readLaw", "()V"⟩, 52), (⟨"RingDiskModel", "isWord", "(I)Z"⟩, 52), (⟨"RingDiskModel", "wrong", "(I)V"⟩, 52), (⟨"RingDiskModel", "takeNumber", "(II)I"⟩, 52), (⟨"RingDiskModel", "hasWord", "(I)Z"⟩, 52), (⟨"RingDiskModel", "takeWord", "(I)V"⟩, 52), (⟨"RingDiskModel", "all", "(I)V"⟩, 52)]
theorem lw_r3 : ∀ q ∈ lw_privs_3, lw_okq q := List.forall_mem_cons.mpr ⟨lw_p32, List.forall_mem_cons.mpr ⟨lw_p33, List.forall_mem_cons.mpr ⟨lw_p34, List.forall_mem_cons.mpr ⟨lw_p35, List.forall_mem_cons.mpr ⟨lw_p36, List.forall_mem_cons.mpr ⟨lw_p37, List.forall_mem_cons.mpr ⟨lw_p38, List.forall_mem_cons.mpr ⟨lw_p39, List.forall_mem_cons.mpr ⟨lw_p40, List.forall_mem_cons.mpr ⟨lw_p41, List.forall_mem_cons.mpr ⟨lw_p42, List.forall_mem_cons.mpr ⟨lw_p43, List.forall_mem_cons.mpr ⟨lw_p44, List.forall_mem_cons.mpr ⟨lw_p45, List.forall_mem_cons.mpr ⟨lw_p46, List.forall_mem_cons.mpr ⟨lw_p47, fun _ h => absurd h List.not_mem_nil⟩⟩⟩⟩⟩⟩⟩⟩⟩⟩⟩⟩⟩⟩⟩⟩
theorem lw_p48 : lw_okq (⟨"RingDiskModel", "test", "(I)V"⟩, 52) := ⟨⟨by decide +kernel, by decide +kernel⟩, List.mem_of_getElem? (i := 956) (by decide +kernel), List.mem_of_getElem? (i := 1208) (by decide +kernel), List.mem_of_getElem? (i := 1209) (by decide +kernel)⟩
theorem lw_p49 : lw_okq (⟨"RingDiskModel", "sums", "(I)V"⟩, 52) := ⟨⟨by decide +kernel, by decide +kernel⟩, List.mem_of_getElem? (i := 956) (by decide +kernel), List.mem_of_getElem? (i := 1212) (by decide +kernel), List.mem_of_getElem? (i := 1213) (by decide +kernel)⟩
theorem lw_p50 : lw_okq (⟨"RingDiskModel", "products", "(I)V"⟩, 52) := ⟨⟨by decide +kernel, by decide +kernel⟩, List.mem_of_getElem? (i := 956) (by decide +kernel), List.mem_of_getElem? (i := 1216) (by decide +kernel), List.mem_of_getElem? (i := 1217) (by decide +kernel)⟩
theorem lw_p51 : lw_okq (⟨"RingDiskModel", "takePart", "(I)V"⟩, 52) := ⟨⟨by decide +kernel, by decide +kernel⟩, List.mem_of_getElem? (i := 956) (by decide +kernel), List.mem_of_getElem? (i := 1220) (by decide +kernel), List.mem_of_getElem? (i := 1221) (by decide +kernel)⟩
theorem lw_p52 : lw_okq (⟨"RingDiskModel", "isSign", "(I)Z"⟩, 52) := ⟨⟨by decide +kernel, by decide +kernel⟩, List.mem_of_getElem? (i := 956) (by decide +kernel), List.mem_of_getElem? (i := 1224) (by decide +kernel), List.mem_of_getElem? (i := 1225) (by decide +kernel)⟩
theorem lw_p53 : lw_okq (⟨"RingDiskModel", "emit", "(II)V"⟩, 52) := ⟨⟨by decide +kernel, by decide +kernel⟩, List.mem_of_getElem? (i := 956) (by decide +kernel), List.mem_of_getElem? (i := 1228) (by decide +kernel), List.mem_of_getElem? (i := 1229) (by decide +kernel)⟩
theorem lw_p54 : lw_okq (⟨"RingDiskModel", "hasSign", "(I)Z"⟩, 52) := ⟨⟨by decide +kernel, by decide +kernel⟩, List.mem_of_getElem? (i := 956) (by decide +kernel), List.mem_of_getElem? (i := 1232) (by decide +kernel), List.mem_of_getElem? (i := 1233) (by decide +kernel)⟩
theorem lw_p55 : lw_okq (⟨"RingDiskModel", "takeSign", "(I)V"⟩, 52) := ⟨⟨by decide +kernel, by decide +kernel⟩, List.mem_of_getElem? (i := 956) (by decide +kernel), List.mem_of_getElem? (i := 1236) (by decide +kernel), List.mem_of_getElem? (i := 1237) (by decide +kernel)⟩
theorem lw_p56 : lw_okq (⟨"RingDiskModel", "isRing", "(I)Z"⟩, 52) := ⟨⟨by decide +kernel, by decide +kernel⟩, List.mem_of_getElem? (i := 956) (by decide +kernel), List.mem_of_getElem? (i := 1251) (by decide +kernel), List.mem_of_getElem? (i := 1252) (by decide +kernel)⟩
theorem lw_p57 : lw_okq (⟨"RingDiskModel", "isEnd", "(I)Z"⟩, 52) := ⟨⟨by decide +kernel, by decide +kernel⟩, List.mem_of_getElem? (i := 956) (by decide +kernel), List.mem_of_getElem? (i := 1271) (by decide +kernel), List.mem_of_getElem? (i := 1272) (by decide +kernel)⟩
theorem lw_p58 : lw_okq (⟨"RingDiskModel", "steps1", "(I)V"⟩, 52) := ⟨⟨by decide +kernel, by decide +kernel⟩, List.mem_of_getElem? (i := 956) (by decide +kernel), List.mem_of_getElem? (i := 1279) (by decide +kernel), List.mem_of_getElem? (i := 1280) (by decide +kernel)⟩
theorem lw_p59 : lw_okq (⟨"RingDiskModel", "sticks", "(I)V"⟩, 52) := ⟨⟨by decide +kernel, by decide +kernel⟩, List.mem_of_getElem? (i := 956) (by decide +kernel), List.mem_of_getElem? (i := 1283) (by decide +kernel), List.mem_of_getElem? (i := 1284) (by decide +kernel)⟩
theorem lw_p60 : lw_okq (⟨"RingDiskModel", "knowsDust", "(III)V"⟩, 52) := ⟨⟨by decide +kernel, by decide +kernel⟩, List.mem_of_getElem? (i := 956) (by decide +kernel), List.mem_of_getElem? (i := 1287) (by decide +kernel), List.mem_of_getElem? (i := 1288) (by decide +kernel)⟩
theorem lw_p61 : lw_okq (⟨"RingDiskModel", "knowsRing", "(II)V"⟩, 52) := ⟨⟨by decide +kernel, by decide +kernel⟩, List.mem_of_getElem? (i := 956) (by decide +kernel), List.mem_of_getElem? (i := 1291) (by decide +kernel), List.mem_of_getElem? (i := 1292) (by decide +kernel)⟩
theorem lw_p62 : lw_okq (⟨"RingDiskModel", "allDust", "(II)I"⟩, 52) := ⟨⟨by decide +kernel, by decide +kernel⟩, List.mem_of_getElem? (i := 956) (by decide +kernel), List.mem_of_getElem? (i := 1295) (by decide +kernel), List.mem_of_getElem? (i := 1296) (by decide +kernel)⟩
theorem lw_p63 : lw_okq (⟨"RingDiskModel", "there", "(I)I"⟩, 52) := ⟨⟨by decide +kernel, by decide +kernel⟩, List.mem_of_getElem? (i := 956) (by decide +kernel), List.mem_of_getElem? (i := 1299) (by decide +kernel), List.mem_of_getElem? (i := 1300) (by decide +kernel)⟩
def lw_privs_4 : List (MethodName × Nat) := [(⟨"RingDiskModel", "test", "(I)V"⟩, 52), (⟨"RingDiskModel", "sums", "(I)V"⟩, 52), (⟨"RingDiskModel", "products", "(I)V"⟩, 52), (⟨"RingDiskModel", "takePart", "(I)V"⟩, 52), (⟨"RingDiskModel", "isSign", "(I)Z"⟩, 52), (⟨"RingDiskModel", "emit", "(II)V"⟩, 52), (⟨"RingDiskModel", "hasSign", "(I)Z"⟩, 52), (⟨"RingDiskModel", "takeSign", "(I)V"⟩, 52), (⟨"RingDiskModel", "isRing", "(I)Z"⟩, 52), (⟨"RingDiskModel", "isEnd", "(I)Z"⟩, 52), (⟨"RingDiskModel", "steps1", "(I)V"⟩, 52), (⟨"RingDiskModel", "sticks", "(I)V"⟩, 52), (⟨"RingDiskModel", "knowsDust", "(III)V"⟩, 52), (⟨"RingDiskModel", "knowsRing", "(II)V"⟩, 52), (⟨"RingDiskModel", "allDust", "(II)I"⟩, 52), (⟨"RingDiskModel", "there", "(I)I"⟩, 52)]
theorem lw_r4 : ∀ q ∈ lw_privs_4, lw_okq q := List.forall_mem_cons.mpr ⟨lw_p48, List.forall_mem_cons.mpr ⟨lw_p49, List.forall_mem_cons.mpr ⟨lw_p50, List.forall_mem_cons.mpr ⟨lw_p51, List.forall_mem_cons.mpr ⟨lw_p52, List.forall_mem_cons.mpr ⟨lw_p53, List.forall_mem_cons.mpr ⟨lw_p54, List.forall_mem_cons.mpr ⟨lw_p55, List.forall_mem_cons.mpr ⟨lw_p56, List.forall_mem_cons.mpr ⟨lw_p57, List.forall_mem_cons.mpr ⟨lw_p58, List.forall_mem_cons.mpr ⟨lw_p59, List.forall_mem_cons.mpr ⟨lw_p60, List.forall_mem_cons.mpr ⟨lw_p61, List.forall_mem_cons.mpr ⟨lw_p62, List.forall_mem_cons.mpr ⟨lw_p63, fun _ h => absurd h List.not_mem_nil⟩⟩⟩⟩⟩⟩⟩⟩⟩⟩⟩⟩⟩⟩⟩⟩
theorem lw_p64 : lw_okq (⟨"RingDiskModel", "lawFor", "(I)I"⟩, 52) := ⟨⟨by decide +kernel, by decide +kernel⟩, List.mem_of_getElem? (i := 956) (by decide +kernel), List.mem_of_getElem? (i := 1303) (by decide +kernel), List.mem_of_getElem? (i := 1304) (by decide +kernel)⟩
theorem lw_p65 : lw_okq (⟨"RingDiskModel", "worth", "(I)I"⟩, 52) := ⟨⟨by decide +kernel, by decide +kernel⟩, List.mem_of_getElem? (i := 956) (by decide +kernel), List.mem_of_getElem? (i := 1307) (by decide +kernel), List.mem_of_getElem? (i := 1308) (by decide +kernel)⟩
theorem lw_p66 : lw_okq (⟨"RingDiskModel", "breaks", "(I)V"⟩, 52) := ⟨⟨by decide +kernel, by decide +kernel⟩, List.mem_of_getElem? (i := 956) (by decide +kernel), List.mem_of_getElem? (i := 1322) (by decide +kernel), List.mem_of_getElem? (i := 1323) (by decide +kernel)⟩
theorem lw_p67 : lw_okq (⟨"RingDiskModel", "drifts", "(I)V"⟩, 52) := ⟨⟨by decide +kernel, by decide +kernel⟩, List.mem_of_getElem? (i := 956) (by decide +kernel), List.mem_of_getElem? (i := 1326) (by decide +kernel), List.mem_of_getElem? (i := 1327) (by decide +kernel)⟩
theorem lw_p68 : lw_okq (⟨"RingDiskModel", "findHeld", "(I)V"⟩, 52) := ⟨⟨by decide +kernel, by decide +kernel⟩, List.mem_of_getElem? (i := 956) (by decide +kernel), List.mem_of_getElem? (i := 1330) (by decide +kernel), List.mem_of_getElem? (i := 1331) (by decide +kernel)⟩
theorem lw_p69 : lw_okq (⟨"RingDiskModel", "isThere", "(II)Z"⟩, 52) := ⟨⟨by decide +kernel, by decide +kernel⟩, List.mem_of_getElem? (i := 956) (by decide +kernel), List.mem_of_getElem? (i := 1334) (by decide +kernel), List.mem_of_getElem? (i := 1335) (by decide +kernel)⟩
theorem lw_p70 : lw_okq (⟨"RingDiskModel", "knowsLump", "(II)V"⟩, 52) := ⟨⟨by decide +kernel, by decide +kernel⟩, List.mem_of_getElem? (i := 956) (by decide +kernel), List.mem_of_getElem? (i := 1338) (by decide +kernel), List.mem_of_getElem? (i := 1339) (by decide +kernel)⟩
theorem lw_p71 : lw_okq (⟨"RingDiskModel", "weightOf", "(II)I"⟩, 52) := ⟨⟨by decide +kernel, by decide +kernel⟩, List.mem_of_getElem? (i := 956) (by decide +kernel), List.mem_of_getElem? (i := 1342) (by decide +kernel), List.mem_of_getElem? (i := 1343) (by decide +kernel)⟩
theorem lw_p72 : lw_okq (⟨"RingDiskModel", "dustOf", "(II)I"⟩, 52) := ⟨⟨by decide +kernel, by decide +kernel⟩, List.mem_of_getElem? (i := 956) (by decide +kernel), List.mem_of_getElem? (i := 1346) (by decide +kernel), List.mem_of_getElem? (i := 1347) (by decide +kernel)⟩
theorem lw_p73 : lw_okq (⟨"RingDiskModel", "wayOf", "(II)I"⟩, 52) := ⟨⟨by decide +kernel, by decide +kernel⟩, List.mem_of_getElem? (i := 956) (by decide +kernel), List.mem_of_getElem? (i := 1350) (by decide +kernel), List.mem_of_getElem? (i := 1351) (by decide +kernel)⟩
theorem lw_p74 : lw_okq (⟨"RingDiskModel", "gathers", "(I)V"⟩, 52) := ⟨⟨by decide +kernel, by decide +kernel⟩, List.mem_of_getElem? (i := 956) (by decide +kernel), List.mem_of_getElem? (i := 1354) (by decide +kernel), List.mem_of_getElem? (i := 1355) (by decide +kernel)⟩
theorem lw_p75 : lw_okq (⟨"RingDiskModel", "feeds", "(I)V"⟩, 52) := ⟨⟨by decide +kernel, by decide +kernel⟩, List.mem_of_getElem? (i := 956) (by decide +kernel), List.mem_of_getElem? (i := 1358) (by decide +kernel), List.mem_of_getElem? (i := 1359) (by decide +kernel)⟩
theorem lw_p76 : lw_okq (⟨"RingDiskModel", "eats", "(I)V"⟩, 52) := ⟨⟨by decide +kernel, by decide +kernel⟩, List.mem_of_getElem? (i := 956) (by decide +kernel), List.mem_of_getElem? (i := 1362) (by decide +kernel), List.mem_of_getElem? (i := 1363) (by decide +kernel)⟩
theorem lw_p77 : lw_okq (⟨"RingDiskModel", "wanders", "(I)V"⟩, 52) := ⟨⟨by decide +kernel, by decide +kernel⟩, List.mem_of_getElem? (i := 956) (by decide +kernel), List.mem_of_getElem? (i := 1366) (by decide +kernel), List.mem_of_getElem? (i := 1367) (by decide +kernel)⟩
theorem lw_p78 : lw_okq (⟨"RingDiskModel", "isLocked", "(II)Z"⟩, 52) := ⟨⟨by decide +kernel, by decide +kernel⟩, List.mem_of_getElem? (i := 956) (by decide +kernel), List.mem_of_getElem? (i := 1370) (by decide +kernel), List.mem_of_getElem? (i := 1371) (by decide +kernel)⟩
theorem lw_p79 : lw_okq (⟨"RingDiskModel", "goes", "(II)V"⟩, 52) := ⟨⟨by decide +kernel, by decide +kernel⟩, List.mem_of_getElem? (i := 956) (by decide +kernel), List.mem_of_getElem? (i := 1374) (by decide +kernel), List.mem_of_getElem? (i := 1375) (by decide +kernel)⟩
def lw_privs_5 : List (MethodName × Nat) := [(⟨"RingDiskModel", "lawFor", "(I)I"⟩, 52), (⟨"RingDiskModel", "worth", "(I)I"⟩, 52), (⟨"RingDiskModel", "breaks", "(I)V"⟩, 52), (⟨"RingDiskModel", "drifts", "(I)V"⟩, 52), (⟨"RingDiskModel", "findHeld", "(I)V"⟩, 52), (⟨"RingDiskModel", "isThere", "(II)Z"⟩, 52), (⟨"RingDiskModel", "knowsLump", "(II)V"⟩, 52), (⟨"RingDiskModel", "weightOf", "(II)I"⟩, 52), (⟨"RingDiskModel", "dustOf", "(II)I"⟩, 52), (⟨"RingDiskModel", "wayOf", "(II)I"⟩, 52), (⟨"RingDiskModel", "gathers", "(I)V"⟩, 52), (⟨"RingDiskModel", "feeds", "(I)V"⟩, 52), (⟨"RingDiskModel", "eats", "(I)V"⟩, 52), (⟨"RingDiskModel", "wanders", "(I)V"⟩, 52), (⟨"RingDiskModel", "isLocked", "(II)Z"⟩, 52), (⟨"RingDiskModel", "goes", "(II)V"⟩, 52)]
theorem lw_r5 : ∀ q ∈ lw_privs_5, lw_okq q := List.forall_mem_cons.mpr ⟨lw_p64, List.forall_mem_cons.mpr ⟨lw_p65, List.forall_mem_cons.mpr ⟨lw_p66, List.forall_mem_cons.mpr ⟨lw_p67, List.forall_mem_cons.mpr ⟨lw_p68, List.forall_mem_cons.mpr ⟨lw_p69, List.forall_mem_cons.mpr ⟨lw_p70, List.forall_mem_cons.mpr ⟨lw_p71, List.forall_mem_cons.mpr ⟨lw_p72, List.forall_mem_cons.mpr ⟨lw_p73, List.forall_mem_cons.mpr ⟨lw_p74, List.forall_mem_cons.mpr ⟨lw_p75, List.forall_mem_cons.mpr ⟨lw_p76, List.forall_mem_cons.mpr ⟨lw_p77, List.forall_mem_cons.mpr ⟨lw_p78, List.forall_mem_cons.mpr ⟨lw_p79, fun _ h => absurd h List.not_mem_nil⟩⟩⟩⟩⟩⟩⟩⟩⟩⟩⟩⟩⟩⟩⟩⟩
theorem lw_p80 : lw_okq (⟨"RingDiskModel", "meets", "(I)V"⟩, 52) := ⟨⟨by decide +kernel, by decide +kernel⟩, List.mem_of_getElem? (i := 956) (by decide +kernel), List.mem_of_getElem? (i := 1378) (by decide +kernel), List.mem_of_getElem? (i := 1379) (by decide +kernel)⟩
theorem lw_p81 : lw_okq (⟨"RingDiskModel", "meet", "(III)V"⟩, 52) := ⟨⟨by decide +kernel, by decide +kernel⟩, List.mem_of_getElem? (i := 956) (by decide +kernel), List.mem_of_getElem? (i := 1382) (by decide +kernel), List.mem_of_getElem? (i := 1383) (by decide +kernel)⟩
theorem lw_p82 : lw_okq (⟨"RingDiskModel", "isLump", "(I)Z"⟩, 52) := ⟨⟨by decide +kernel, by decide +kernel⟩, List.mem_of_getElem? (i := 956) (by decide +kernel), List.mem_of_getElem? (i := 1394) (by decide +kernel), List.mem_of_getElem? (i := 1395) (by decide +kernel)⟩
theorem lw_p83 : lw_okq (⟨"RingDiskModel", "familyOf", "(II)I"⟩, 52) := ⟨⟨by decide +kernel, by decide +kernel⟩, List.mem_of_getElem? (i := 956) (by decide +kernel), List.mem_of_getElem? (i := 1398) (by decide +kernel), List.mem_of_getElem? (i := 1399) (by decide +kernel)⟩
theorem lw_p84 : lw_okq (⟨"RingDiskModel", "seenBy", "(I)I"⟩, 52) := ⟨⟨by decide +kernel, by decide +kernel⟩, List.mem_of_getElem? (i := 956) (by decide +kernel), List.mem_of_getElem? (i := 1402) (by decide +kernel), List.mem_of_getElem? (i := 1403) (by decide +kernel)⟩
theorem lw_p85 : lw_okq (⟨"RingDiskModel", "inRings", "()J"⟩, 52) := ⟨⟨by decide +kernel, by decide +kernel⟩, List.mem_of_getElem? (i := 956) (by decide +kernel), List.mem_of_getElem? (i := 1414) (by decide +kernel), List.mem_of_getElem? (i := 1415) (by decide +kernel)⟩
theorem lw_p86 : lw_okq (⟨"RingDiskModel", "inLumps", "()J"⟩, 52) := ⟨⟨by decide +kernel, by decide +kernel⟩, List.mem_of_getElem? (i := 956) (by decide +kernel), List.mem_of_getElem? (i := 1418) (by decide +kernel), List.mem_of_getElem? (i := 1419) (by decide +kernel)⟩
theorem lw_p87 : lw_okq (⟨"RingDiskModel", "isAsked", "(III)Z"⟩, 52) := ⟨⟨by decide +kernel, by decide +kernel⟩, List.mem_of_getElem? (i := 956) (by decide +kernel), List.mem_of_getElem? (i := 1427) (by decide +kernel), List.mem_of_getElem? (i := 1428) (by decide +kernel)⟩
theorem lw_p88 : lw_okq (⟨"RingDiskModel", "tries", "(II)V"⟩, 52) := ⟨⟨by decide +kernel, by decide +kernel⟩, List.mem_of_getElem? (i := 956) (by decide +kernel), List.mem_of_getElem? (i := 1432) (by decide +kernel), List.mem_of_getElem? (i := 1433) (by decide +kernel)⟩
theorem lw_p89 : lw_okq (⟨"RingDiskModel", "copies", "(II)V"⟩, 52) := ⟨⟨by decide +kernel, by decide +kernel⟩, List.mem_of_getElem? (i := 956) (by decide +kernel), List.mem_of_getElem? (i := 1436) (by decide +kernel), List.mem_of_getElem? (i := 1437) (by decide +kernel)⟩
theorem lw_p90 : lw_okq (⟨"RingDiskModel", "isSo", "(II)Z"⟩, 52) := ⟨⟨by decide +kernel, by decide +kernel⟩, List.mem_of_getElem? (i := 956) (by decide +kernel), List.mem_of_getElem? (i := 1440) (by decide +kernel), List.mem_of_getElem? (i := 1441) (by decide +kernel)⟩
theorem lw_p91 : lw_okq (⟨"RingDiskModel", "isFit", "(I)Z"⟩, 52) := ⟨⟨by decide +kernel, by decide +kernel⟩, List.mem_of_getElem? (i := 956) (by decide +kernel), List.mem_of_getElem? (i := 1472) (by decide +kernel), List.mem_of_getElem? (i := 1473) (by decide +kernel)⟩
theorem lw_p92 : lw_okq (⟨"RingDiskModel", "traps", "()I"⟩, 52) := ⟨⟨by decide +kernel, by decide +kernel⟩, List.mem_of_getElem? (i := 956) (by decide +kernel), List.mem_of_getElem? (i := 1488) (by decide +kernel), List.mem_of_getElem? (i := 1489) (by decide +kernel)⟩
theorem lw_p93 : lw_okq (⟨"RingDiskModel", "families", "()I"⟩, 52) := ⟨⟨by decide +kernel, by decide +kernel⟩, List.mem_of_getElem? (i := 956) (by decide +kernel), List.mem_of_getElem? (i := 1492) (by decide +kernel), List.mem_of_getElem? (i := 1493) (by decide +kernel)⟩
def lw_privs_6 : List (MethodName × Nat) := [(⟨"RingDiskModel", "meets", "(I)V"⟩, 52), (⟨"RingDiskModel", "meet", "(III)V"⟩, 52), (⟨"RingDiskModel", "isLump", "(I)Z"⟩, 52), (⟨"RingDiskModel", "familyOf", "(II)I"⟩, 52), (⟨"RingDiskModel", "seenBy", "(I)I"⟩, 52), (⟨"RingDiskModel", "inRings", "()J"⟩, 52), (⟨"RingDiskModel", "inLumps", "()J"⟩, 52), (⟨"RingDiskModel", "isAsked", "(III)Z"⟩, 52), (⟨"RingDiskModel", "tries", "(II)V"⟩, 52), (⟨"RingDiskModel", "copies", "(II)V"⟩, 52), (⟨"RingDiskModel", "isSo", "(II)Z"⟩, 52), (⟨"RingDiskModel", "isFit", "(I)Z"⟩, 52), (⟨"RingDiskModel", "traps", "()I"⟩, 52), (⟨"RingDiskModel", "families", "()I"⟩, 52)]
theorem lw_r6 : ∀ q ∈ lw_privs_6, lw_okq q := List.forall_mem_cons.mpr ⟨lw_p80, List.forall_mem_cons.mpr ⟨lw_p81, List.forall_mem_cons.mpr ⟨lw_p82, List.forall_mem_cons.mpr ⟨lw_p83, List.forall_mem_cons.mpr ⟨lw_p84, List.forall_mem_cons.mpr ⟨lw_p85, List.forall_mem_cons.mpr ⟨lw_p86, List.forall_mem_cons.mpr ⟨lw_p87, List.forall_mem_cons.mpr ⟨lw_p88, List.forall_mem_cons.mpr ⟨lw_p89, List.forall_mem_cons.mpr ⟨lw_p90, List.forall_mem_cons.mpr ⟨lw_p91, List.forall_mem_cons.mpr ⟨lw_p92, List.forall_mem_cons.mpr ⟨lw_p93, fun _ h => absurd h List.not_mem_nil⟩⟩⟩⟩⟩⟩⟩⟩⟩⟩⟩⟩⟩⟩
def lw_privs : List (MethodName × Nat) := lw_privs_1 ++ (lw_privs_2 ++ (lw_privs_3 ++ (lw_privs_4 ++ (lw_privs_5 ++ (lw_privs_6)))))
def lw_tbl : List Cond := k2_sels lw_privs ++ tables_1
theorem lw_privs_ok : ∀ q ∈ lw_privs, lw_okq q := by
  show ∀ q ∈ lw_privs_1 ++ (lw_privs_2 ++ (lw_privs_3 ++ (lw_privs_4 ++ (lw_privs_5 ++ (lw_privs_6))))), lw_okq q
  exact List.forall_mem_append.mpr ⟨lw_r1, List.forall_mem_append.mpr ⟨lw_r2, List.forall_mem_append.mpr ⟨lw_r3, List.forall_mem_append.mpr ⟨lw_r4, List.forall_mem_append.mpr ⟨lw_r5, lw_r6⟩⟩⟩⟩⟩
end
section
def RX0 : String := "RingDisk$Course"
def TX0 : u_T := fun k => match k with
  | 0 => ("RingDisk$Course", "disk", "LRingDisk$Disk;", false)
  | 1 => ("RingDisk$Course", "laws", "LRingDisk$Laws;", false)
  | 2 => ("RingDisk$Course", "bits", "I", false)
  | 3 => ("RingDisk$Course", "luck", "I", false)
  | 4 => ("RingDisk$Course", "share", "I", false)
  | 5 => ("RingDisk$Course", "facts", "[I", true)
  | 6 => ("RingDisk$Course", "leaving", "[I", true)
  | _ => ("RingDisk$Course", "gaps", "[I", true)
def tyX0 : Nat → FieldType := fun k => match k with
  | 0 => .object "RingDisk$Disk"
  | 1 => .object "RingDisk$Laws"
  | 2 => .int
  | 3 => .int
  | 4 => .int
  | 5 => .array .int
  | 6 => .array .int
  | _ => .array .int
theorem nmX0 : ∀ a, a < 8 → ∀ b, b < 8 → a ≠ b → (TX0 a).2.1 ≠ (TX0 b).2.1 := by decide +kernel
theorem tyX0_ok : ∀ k, k < 8 → parseFieldDescriptor (TX0 k).2.2.1 = some (tyX0 k) := by decide +kernel
abbrev cX0_init : ByteArray := prog_2_method_1_code
def yX0_init : MethodName := ⟨RX0, "<init>", "()V"⟩
abbrev cX0_enter : ByteArray := prog_2_method_2_code
def yX0_enter : MethodName := ⟨RX0, "enter", "(LRingDisk$Disk;I)V"⟩
abbrev cX0_go : ByteArray := prog_2_method_3_code
def yX0_go : MethodName := ⟨RX0, "go", "(I)V"⟩
abbrev cX0_lawForDust : ByteArray := prog_2_method_4_code
def yX0_lawForDust : MethodName := ⟨RX0, "lawForDust", "(III)I"⟩
abbrev cX0_lawForLump : ByteArray := prog_2_method_5_code
def yX0_lawForLump : MethodName := ⟨RX0, "lawForLump", "(ILRingDisk$Lump;)I"⟩
abbrev cX0_tellOfRing : ByteArray := prog_2_method_6_code
def yX0_tellOfRing : MethodName := ⟨RX0, "tellOfRing", "(I)V"⟩
abbrev cX0_shareOf : ByteArray := prog_2_method_7_code
def yX0_shareOf : MethodName := ⟨RX0, "shareOf", "(II)I"⟩
abbrev cX0_stick : ByteArray := prog_2_method_8_code
def yX0_stick : MethodName := ⟨RX0, "stick", "()V"⟩
abbrev cX0_luckyNumber : ByteArray := prog_2_method_9_code
def yX0_luckyNumber : MethodName := ⟨RX0, "luckyNumber", "(I)I"⟩
abbrev cX0_breakUp : ByteArray := prog_2_method_10_code
def yX0_breakUp : MethodName := ⟨RX0, "breakUp", "()V"⟩
abbrev cX0_findGaps : ByteArray := prog_2_method_11_code
def yX0_findGaps : MethodName := ⟨RX0, "findGaps", "()V"⟩
abbrev cX0_drift : ByteArray := prog_2_method_12_code
def yX0_drift : MethodName := ⟨RX0, "drift", "()V"⟩
abbrev cX0_leave : ByteArray := prog_2_method_13_code
def yX0_leave : MethodName := ⟨RX0, "leave", "(II)V"⟩
abbrev cX0_gather : ByteArray := prog_2_method_14_code
def yX0_gather : MethodName := ⟨RX0, "gather", "()V"⟩
abbrev cX0_feedLumps : ByteArray := prog_2_method_15_code
def yX0_feedLumps : MethodName := ⟨RX0, "feedLumps", "()V"⟩
abbrev cX0_eatGas : ByteArray := prog_2_method_16_code
def yX0_eatGas : MethodName := ⟨RX0, "eatGas", "()V"⟩
abbrev cX0_wander : ByteArray := prog_2_method_17_code
def yX0_wander : MethodName := ⟨RX0, "wander", "()V"⟩
abbrev cX0_meet : ByteArray := prog_2_method_18_code
def yX0_meet : MethodName := ⟨RX0, "meet", "()V"⟩
abbrev cX0_whoStays : ByteArray := prog_2_method_19_code
def yX0_whoStays : MethodName := ⟨RX0, "whoStays", "(II)I"⟩
def RX1 : String := "RingDisk$Disk"
def TX1 : u_T := fun k => match k with
  | 0 => ("RingDisk$Disk", "rings", "I", false)
  | 1 => ("RingDisk$Disk", "step", "I", false)
  | 2 => ("RingDisk$Disk", "pull", "I", false)
  | 3 => ("RingDisk$Disk", "seed", "J", false)
  | 4 => ("RingDisk$Disk", "fallen", "I", false)
  | 5 => ("RingDisk$Disk", "thrown", "I", false)
  | 6 => ("RingDisk$Disk", "came", "I", false)
  | 7 => ("RingDisk$Disk", "there", "I", false)
  | 8 => ("RingDisk$Disk", "gas", "[I", true)
  | 9 => ("RingDisk$Disk", "warm", "[I", true)
  | 10 => ("RingDisk$Disk", "period", "[I", true)
  | 11 => ("RingDisk$Disk", "dust", "[I", true)
  | _ => ("RingDisk$Disk", "lumps", "[LRingDisk$Lump;", true)
def tyX1 : Nat → FieldType := fun k => match k with
  | 0 => .int
  | 1 => .int
  | 2 => .int
  | 3 => .long
  | 4 => .int
  | 5 => .int
  | 6 => .int
  | 7 => .int
  | 8 => .array .int
  | 9 => .array .int
  | 10 => .array .int
  | 11 => .array .int
  | _ => .array (.object "RingDisk$Lump")
theorem nmX1 : ∀ a, a < 13 → ∀ b, b < 13 → a ≠ b → (TX1 a).2.1 ≠ (TX1 b).2.1 := by decide +kernel
theorem tyX1_ok : ∀ k, k < 13 → parseFieldDescriptor (TX1 k).2.2.1 = some (tyX1 k) := by decide +kernel
abbrev cX1_init : ByteArray := prog_3_method_1_code
def yX1_init : MethodName := ⟨RX1, "<init>", "()V"⟩
abbrev cX1_clear : ByteArray := prog_3_method_2_code
def yX1_clear : MethodName := ⟨RX1, "clear", "(I)V"⟩
abbrev cX1_becomeLike : ByteArray := prog_3_method_3_code
def yX1_becomeLike : MethodName := ⟨RX1, "becomeLike", "(LRingDisk$Disk;)V"⟩
abbrev cX1_isRing : ByteArray := prog_3_method_4_code
def yX1_isRing : MethodName := ⟨RX1, "isRing", "(I)Z"⟩
abbrev cX1_isLump : ByteArray := prog_3_method_5_code
def yX1_isLump : MethodName := ⟨RX1, "isLump", "(I)Z"⟩
abbrev cX1_allDustIn : ByteArray := prog_3_method_6_code
def yX1_allDustIn : MethodName := ⟨RX1, "allDustIn", "(I)I"⟩
abbrev cX1_wayFrom : ByteArray := prog_3_method_7_code
def yX1_wayFrom : MethodName := ⟨RX1, "wayFrom", "(I)I"⟩
abbrev cX1_isTrap : ByteArray := prog_3_method_8_code
def yX1_isTrap : MethodName := ⟨RX1, "isTrap", "(I)Z"⟩
abbrev cX1_howManyTraps : ByteArray := prog_3_method_9_code
def yX1_howManyTraps : MethodName := ⟨RX1, "howManyTraps", "()I"⟩
abbrev cX1_howManyFamilies : ByteArray := prog_3_method_10_code
def yX1_howManyFamilies : MethodName := ⟨RX1, "howManyFamilies", "()I"⟩
abbrev cX1_hasLumpOfFamily : ByteArray := prog_3_method_11_code
def yX1_hasLumpOfFamily : MethodName := ⟨RX1, "hasLumpOfFamily", "(I)Z"⟩
abbrev cX1_hasLumpIn : ByteArray := prog_3_method_12_code
def yX1_hasLumpIn : MethodName := ⟨RX1, "hasLumpIn", "(I)Z"⟩
abbrev cX1_isLocked : ByteArray := prog_3_method_13_code
def yX1_isLocked : MethodName := ⟨RX1, "isLocked", "(LRingDisk$Lump;)Z"⟩
abbrev cX1_inRings : ByteArray := prog_3_method_14_code
def yX1_inRings : MethodName := ⟨RX1, "inRings", "()J"⟩
abbrev cX1_inLumps : ByteArray := prog_3_method_15_code
def yX1_inLumps : MethodName := ⟨RX1, "inLumps", "()J"⟩
abbrev cX1_nextOfSeed : ByteArray := prog_3_method_16_code
def yX1_nextOfSeed : MethodName := ⟨RX1, "nextOfSeed", "()I"⟩
abbrev cX1_mayOneMoreCome : ByteArray := prog_3_method_17_code
def yX1_mayOneMoreCome : MethodName := ⟨RX1, "mayOneMoreCome", "()Z"⟩
abbrev cX1_gatherAll : ByteArray := prog_3_method_18_code
def yX1_gatherAll : MethodName := ⟨RX1, "gatherAll", "(II)V"⟩
abbrev cX1_moveLump : ByteArray := prog_3_method_19_code
def yX1_moveLump : MethodName := ⟨RX1, "moveLump", "(LRingDisk$Lump;I)V"⟩
def RX2 : String := "RingDisk$Laws"
def TX2 : u_T := fun k => match k with
  | 0 => ("RingDisk$Laws", "size", "I", false)
  | 1 => ("RingDisk$Laws", "open", "I", false)
  | 2 => ("RingDisk$Laws", "length", "I", false)
  | 3 => ("RingDisk$Laws", "low", "[I", true)
  | 4 => ("RingDisk$Laws", "high", "[I", true)
  | 5 => ("RingDisk$Laws", "openBit", "[I", true)
  | 6 => ("RingDisk$Laws", "from", "[I", true)
  | 7 => ("RingDisk$Laws", "next", "[I", true)
  | 8 => ("RingDisk$Laws", "firstOf", "[I", true)
  | 9 => ("RingDisk$Laws", "lastOf", "[I", true)
  | 10 => ("RingDisk$Laws", "codes", "[I", true)
  | _ => ("RingDisk$Laws", "stack", "[I", true)
def tyX2 : Nat → FieldType := fun k => match k with
  | 0 => .int
  | 1 => .int
  | 2 => .int
  | 3 => .array .int
  | 4 => .array .int
  | 5 => .array .int
  | 6 => .array .int
  | 7 => .array .int
  | 8 => .array .int
  | 9 => .array .int
  | 10 => .array .int
  | _ => .array .int
theorem nmX2 : ∀ a, a < 12 → ∀ b, b < 12 → a ≠ b → (TX2 a).2.1 ≠ (TX2 b).2.1 := by decide +kernel
theorem tyX2_ok : ∀ k, k < 12 → parseFieldDescriptor (TX2 k).2.2.1 = some (tyX2 k) := by decide +kernel
abbrev cX2_init : ByteArray := prog_4_method_1_code
def yX2_init : MethodName := ⟨RX2, "<init>", "()V"⟩
abbrev cX2_clear : ByteArray := prog_4_method_2_code
def yX2_clear : MethodName := ⟨RX2, "clear", "()V"⟩
abbrev cX2_isFull : ByteArray := prog_4_method_3_code
def yX2_isFull : MethodName := ⟨RX2, "isFull", "()Z"⟩
abbrev cX2_howManyEnds : ByteArray := prog_4_method_4_code
def yX2_howManyEnds : MethodName := ⟨RX2, "howManyEnds", "()I"⟩
abbrev cX2_hasNone : ByteArray := prog_4_method_5_code
def yX2_hasNone : MethodName := ⟨RX2, "hasNone", "(I)Z"⟩
abbrev cX2_addLaw : ByteArray := prog_4_method_6_code
def yX2_addLaw : MethodName := ⟨RX2, "addLaw", "(III)V"⟩
abbrev cX2_addCode : ByteArray := prog_4_method_7_code
def yX2_addCode : MethodName := ⟨RX2, "addCode", "(II)V"⟩
abbrev cX2_numberFor : ByteArray := prog_4_method_8_code
def yX2_numberFor : MethodName := ⟨RX2, "numberFor", "(II[I)I"⟩
abbrev cX2_valueOf : ByteArray := prog_4_method_9_code
def yX2_valueOf : MethodName := ⟨RX2, "valueOf", "(I[I)I"⟩
abbrev cX2_join : ByteArray := prog_4_method_10_code
def yX2_join : MethodName := ⟨RX2, "join", "(III)I"⟩
def RX3 : String := "RingDisk$Lump"
def TX3 : u_T := fun k => match k with
  | 0 => ("RingDisk$Lump", "state", "I", false)
  | 1 => ("RingDisk$Lump", "ring", "I", false)
  | 2 => ("RingDisk$Lump", "weight", "I", false)
  | 3 => ("RingDisk$Lump", "gas", "I", false)
  | 4 => ("RingDisk$Lump", "eater", "I", false)
  | 5 => ("RingDisk$Lump", "birth", "I", false)
  | 6 => ("RingDisk$Lump", "waited", "I", false)
  | _ => ("RingDisk$Lump", "dustOf", "[I", true)
def tyX3 : Nat → FieldType := fun k => match k with
  | 0 => .int
  | 1 => .int
  | 2 => .int
  | 3 => .int
  | 4 => .int
  | 5 => .int
  | 6 => .int
  | _ => .array .int
theorem nmX3 : ∀ a, a < 8 → ∀ b, b < 8 → a ≠ b → (TX3 a).2.1 ≠ (TX3 b).2.1 := by decide +kernel
theorem tyX3_ok : ∀ k, k < 8 → parseFieldDescriptor (TX3 k).2.2.1 = some (tyX3 k) := by decide +kernel
abbrev cX3_init : ByteArray := prog_5_method_1_code
def yX3_init : MethodName := ⟨RX3, "<init>", "()V"⟩
abbrev cX3_begin : ByteArray := prog_5_method_2_code
def yX3_begin : MethodName := ⟨RX3, "begin", "(II)V"⟩
abbrev cX3_becomeLike : ByteArray := prog_5_method_3_code
def yX3_becomeLike : MethodName := ⟨RX3, "becomeLike", "(LRingDisk$Lump;)V"⟩
abbrev cX3_isThereIn : ByteArray := prog_5_method_4_code
def yX3_isThereIn : MethodName := ⟨RX3, "isThereIn", "(I)Z"⟩
abbrev cX3_takeGas : ByteArray := prog_5_method_5_code
def yX3_takeGas : MethodName := ⟨RX3, "takeGas", "(I)V"⟩
abbrev cX3_takeDust : ByteArray := prog_5_method_6_code
def yX3_takeDust : MethodName := ⟨RX3, "takeDust", "(I)V"⟩
abbrev cX3_takeAllOf : ByteArray := prog_5_method_7_code
def yX3_takeAllOf : MethodName := ⟨RX3, "takeAllOf", "(LRingDisk$Lump;)V"⟩
abbrev cX3_familyOf : ByteArray := prog_5_method_8_code
def yX3_familyOf : MethodName := ⟨RX3, "familyOf", "(I)I"⟩
def RX4 : String := "RingDisk$Reader"
def TX4 : u_T := fun k => match k with
  | 0 => ("RingDisk$Reader", "tape", "LRingDisk$Tape;", false)
  | 1 => ("RingDisk$Reader", "into", "LRingDisk$Laws;", false)
  | 2 => ("RingDisk$Reader", "fault", "I", false)
  | 3 => ("RingDisk$Reader", "token", "I", false)
  | 4 => ("RingDisk$Reader", "place", "I", false)
  | 5 => ("RingDisk$Reader", "behind", "I", false)
  | _ => ("RingDisk$Reader", "number", "I", false)
def tyX4 : Nat → FieldType := fun k => match k with
  | 0 => .object "RingDisk$Tape"
  | 1 => .object "RingDisk$Laws"
  | 2 => .int
  | 3 => .int
  | 4 => .int
  | 5 => .int
  | _ => .int
theorem nmX4 : ∀ a, a < 7 → ∀ b, b < 7 → a ≠ b → (TX4 a).2.1 ≠ (TX4 b).2.1 := by decide +kernel
theorem tyX4_ok : ∀ k, k < 7 → parseFieldDescriptor (TX4 k).2.2.1 = some (tyX4 k) := by decide +kernel
abbrev cX4_init : ByteArray := prog_6_method_1_code
def yX4_init : MethodName := ⟨RX4, "<init>", "()V"⟩
abbrev cX4_read : ByteArray := prog_6_method_2_code
def yX4_read : MethodName := ⟨RX4, "read", "(LRingDisk$Tape;LRingDisk$Laws;)I"⟩
abbrev cX4_refuse : ByteArray := prog_6_method_3_code
def yX4_refuse : MethodName := ⟨RX4, "refuse", "(I)V"⟩
abbrev cX4_isLetter : ByteArray := prog_6_method_4_code
def yX4_isLetter : MethodName := ⟨RX4, "isLetter", "(I)Z"⟩
abbrev cX4_isDigit : ByteArray := prog_6_method_5_code
def yX4_isDigit : MethodName := ⟨RX4, "isDigit", "(I)Z"⟩
abbrev cX4_advance : ByteArray := prog_6_method_6_code
def yX4_advance : MethodName := ⟨RX4, "advance", "()V"⟩
abbrev cX4_takeWord : ByteArray := prog_6_method_7_code
def yX4_takeWord : MethodName := ⟨RX4, "takeWord", "()V"⟩
abbrev cX4_takeNumber : ByteArray := prog_6_method_8_code
def yX4_takeNumber : MethodName := ⟨RX4, "takeNumber", "()V"⟩
abbrev cX4_wordAmong : ByteArray := prog_6_method_9_code
def yX4_wordAmong : MethodName := ⟨RX4, "wordAmong", "(Ljava/lang/String;)I"⟩
abbrev cX4_isPieceOf : ByteArray := prog_6_method_10_code
def yX4_isPieceOf : MethodName := ⟨RX4, "isPieceOf", "(Ljava/lang/String;II)Z"⟩
abbrev cX4_signAmong : ByteArray := prog_6_method_11_code
def yX4_signAmong : MethodName := ⟨RX4, "signAmong", "(Ljava/lang/String;)I"⟩
abbrev cX4_expect : ByteArray := prog_6_method_12_code
def yX4_expect : MethodName := ⟨RX4, "expect", "(Z)V"⟩
abbrev cX4_readLaw : ByteArray := prog_6_method_13_code
def yX4_readLaw : MethodName := ⟨RX4, "readLaw", "()V"⟩
abbrev cX4_readNumbers : ByteArray := prog_6_method_14_code
def yX4_readNumbers : MethodName := ⟨RX4, "readNumbers", "(I)V"⟩
abbrev cX4_readN : ByteArray := prog_6_method_15_code
def yX4_readN : MethodName := ⟨RX4, "readN", "(II)I"⟩
abbrev cX4_readAny : ByteArray := prog_6_method_16_code
def yX4_readAny : MethodName := ⟨RX4, "readAny", "(I)V"⟩
abbrev cX4_readTest : ByteArray := prog_6_method_17_code
def yX4_readTest : MethodName := ⟨RX4, "readTest", "(I)V"⟩
abbrev cX4_readSum : ByteArray := prog_6_method_18_code
def yX4_readSum : MethodName := ⟨RX4, "readSum", "(I)V"⟩
abbrev cX4_readTerm : ByteArray := prog_6_method_19_code
def yX4_readTerm : MethodName := ⟨RX4, "readTerm", "(I)V"⟩
abbrev cX4_readPart : ByteArray := prog_6_method_20_code
def yX4_readPart : MethodName := ⟨RX4, "readPart", "(I)V"⟩
def RX5 : String := "RingDisk$Tape"
def TX5 : u_T := fun k => match k with
  | 0 => ("RingDisk$Tape", "length", "I", false)
  | _ => ("RingDisk$Tape", "signs", "[C", true)
def tyX5 : Nat → FieldType := fun k => match k with
  | 0 => .int
  | _ => .array .char
theorem nmX5 : ∀ a, a < 2 → ∀ b, b < 2 → a ≠ b → (TX5 a).2.1 ≠ (TX5 b).2.1 := by decide +kernel
theorem tyX5_ok : ∀ k, k < 2 → parseFieldDescriptor (TX5 k).2.2.1 = some (tyX5 k) := by decide +kernel
abbrev cX5_init : ByteArray := prog_7_method_1_code
def yX5_init : MethodName := ⟨RX5, "<init>", "()V"⟩
abbrev cX5_signAt : ByteArray := prog_7_method_2_code
def yX5_signAt : MethodName := ⟨RX5, "signAt", "(I)I"⟩
abbrev cX5_addBytes : ByteArray := prog_7_method_3_code
def yX5_addBytes : MethodName := ⟨RX5, "addBytes", "(J)V"⟩
def RX6 : String := "RingDisk"
def TX6 : u_T := fun k => match k with
  | 0 => ("RingDisk", "disk", "LRingDisk$Disk;", true)
  | 1 => ("RingDisk", "copy", "LRingDisk$Disk;", true)
  | 2 => ("RingDisk", "marks", "[LRingDisk$Disk;", true)
  | 3 => ("RingDisk", "tape", "LRingDisk$Tape;", true)
  | 4 => ("RingDisk", "reader", "LRingDisk$Reader;", true)
  | 5 => ("RingDisk", "course", "LRingDisk$Course;", true)
  | 6 => ("RingDisk", "inForce", "LRingDisk$Laws;", false)
  | 7 => ("RingDisk", "spare", "LRingDisk$Laws;", false)
  | 8 => ("RingDisk", "endInForce", "I", false)
  | 9 => ("RingDisk", "toldLumps", "[I", true)
  | 10 => ("RingDisk", "toldSteps", "[I", true)
  | _ => ("RingDisk", "toldCounts", "I", false)
def tyX6 : Nat → FieldType := fun k => match k with
  | 0 => .object "RingDisk$Disk"
  | 1 => .object "RingDisk$Disk"
  | 2 => .array (.object "RingDisk$Disk")
  | 3 => .object "RingDisk$Tape"
  | 4 => .object "RingDisk$Reader"
  | 5 => .object "RingDisk$Course"
  | 6 => .object "RingDisk$Laws"
  | 7 => .object "RingDisk$Laws"
  | 8 => .int
  | 9 => .array .int
  | 10 => .array .int
  | _ => .int
theorem nmX6 : ∀ a, a < 12 → ∀ b, b < 12 → a ≠ b → (TX6 a).2.1 ≠ (TX6 b).2.1 := by decide +kernel
theorem tyX6_ok : ∀ k, k < 12 → parseFieldDescriptor (TX6 k).2.2.1 = some (tyX6 k) := by decide +kernel
abbrev cX6_init : ByteArray := prog_1_method_1_code
def yX6_init : MethodName := ⟨RX6, "<init>", "()V"⟩
abbrev cX6_rings : ByteArray := prog_1_method_2_code
def yX6_rings : MethodName := ⟨RX6, "rings", "(I)Z"⟩
abbrev cX6_ring : ByteArray := prog_1_method_3_code
def yX6_ring : MethodName := ⟨RX6, "ring", "(IIII)Z"⟩
abbrev cX6_dust : ByteArray := prog_1_method_4_code
def yX6_dust : MethodName := ⟨RX6, "dust", "(III)Z"⟩
abbrev cX6_star : ByteArray := prog_1_method_5_code
def yX6_star : MethodName := ⟨RX6, "star", "(III)Z"⟩
abbrev cX6_seed : ByteArray := prog_1_method_6_code
def yX6_seed : MethodName := ⟨RX6, "seed", "(I)Z"⟩
abbrev cX6_feed : ByteArray := prog_1_method_7_code
def yX6_feed : MethodName := ⟨RX6, "feed", "(JJJ)I"⟩
abbrev cX6_laws : ByteArray := prog_1_method_8_code
def yX6_laws : MethodName := ⟨RX6, "laws", "()I"⟩
abbrev cX6_end : ByteArray := prog_1_method_9_code
def yX6_end : MethodName := ⟨RX6, "end", "(I)Z"⟩
abbrev cX6_steps : ByteArray := prog_1_method_10_code
def yX6_steps : MethodName := ⟨RX6, "steps", "(I)I"⟩
abbrev cX6_has : ByteArray := prog_1_method_11_code
def yX6_has : MethodName := ⟨RX6, "has", "(II)I"⟩
abbrev cX6_look : ByteArray := prog_1_method_12_code
def yX6_look : MethodName := ⟨RX6, "look", "(II)I"⟩
abbrev cX6_made : ByteArray := prog_1_method_13_code
def yX6_made : MethodName := ⟨RX6, "made", "(II)I"⟩
abbrev cX6_parts : ByteArray := prog_1_method_14_code
def yX6_parts : MethodName := ⟨RX6, "parts", "(I)J"⟩
abbrev cX6_asked : ByteArray := prog_1_method_15_code
def yX6_asked : MethodName := ⟨RX6, "asked", "(IIII)I"⟩
abbrev cX6_sure : ByteArray := prog_1_method_16_code
def yX6_sure : MethodName := ⟨RX6, "sure", "(III)I"⟩
abbrev cX6_empty : ByteArray := prog_1_method_17_code
def yX6_empty : MethodName := ⟨RX6, "empty", "(II)I"⟩
abbrev cX6_runs : ByteArray := prog_1_method_18_code
def yX6_runs : MethodName := ⟨RX6, "runs", "(III)I"⟩
abbrev cX6_back : ByteArray := prog_1_method_19_code
def yX6_back : MethodName := ⟨RX6, "back", "()I"⟩
abbrev cX6_told : ByteArray := prog_1_method_20_code
def yX6_told : MethodName := ⟨RX6, "told", "(II)I"⟩
abbrev cX6_forget : ByteArray := prog_1_method_21_code
def yX6_forget : MethodName := ⟨RX6, "forget", "()I"⟩
abbrev cX6_fits : ByteArray := prog_1_method_22_code
def yX6_fits : MethodName := ⟨RX6, "fits", "(I)I"⟩
abbrev cX6_barred : ByteArray := prog_1_method_23_code
def yX6_barred : MethodName := ⟨RX6, "barred", "(II)I"⟩
abbrev cX6_mark : ByteArray := prog_1_method_24_code
def yX6_mark : MethodName := ⟨RX6, "mark", "(IZ)Z"⟩
abbrev cX6_count : ByteArray := prog_1_method_25_code
def yX6_count : MethodName := ⟨RX6, "count", "(I)I"⟩
abbrev cX6_isWithin : ByteArray := prog_1_method_26_code
def yX6_isWithin : MethodName := ⟨RX6, "isWithin", "(III)Z"⟩
abbrev cX6_isEnd : ByteArray := prog_1_method_27_code
def yX6_isEnd : MethodName := ⟨RX6, "isEnd", "(I)Z"⟩
abbrev cX6_isQuestion : ByteArray := prog_1_method_28_code
def yX6_isQuestion : MethodName := ⟨RX6, "isQuestion", "(III)Z"⟩
abbrev cX6_beginTry : ByteArray := prog_1_method_29_code
def yX6_beginTry : MethodName := ⟨RX6, "beginTry", "(I)V"⟩
abbrev cX6_isSoBehind : ByteArray := prog_1_method_30_code
def yX6_isSoBehind : MethodName := ⟨RX6, "isSoBehind", "(IIII)Z"⟩
abbrev cX6_seenOf : ByteArray := prog_1_method_31_code
def yX6_seenOf : MethodName := ⟨RX6, "seenOf", "(LRingDisk$Lump;)I"⟩
abbrev cX6_isFit : ByteArray := prog_1_method_32_code
def yX6_isFit : MethodName := ⟨RX6, "isFit", "(I)Z"⟩
def RX7 : String := "RingDiskModel"
def TX7 : u_T := fun k => match k with
  | 0 => ("RingDiskModel", "thrown", "I", false)
  | 1 => ("RingDiskModel", "tape", "[I", true)
  | 2 => ("RingDiskModel", "taped", "I", false)
  | 3 => ("RingDiskModel", "size", "I", false)
  | 4 => ("RingDiskModel", "sort", "[I", true)
  | 5 => ("RingDiskModel", "place", "[I", true)
  | 6 => ("RingDiskModel", "value", "[J", true)
  | 7 => ("RingDiskModel", "at", "I", false)
  | 8 => ("RingDiskModel", "fault", "I", false)
  | 9 => ("RingDiskModel", "words", "[J", true)
  | 10 => ("RingDiskModel", "holds", "I", false)
  | 11 => ("RingDiskModel", "next", "I", false)
  | 12 => ("RingDiskModel", "laws", "[I", true)
  | 13 => ("RingDiskModel", "lawKind", "[I", true)
  | 14 => ("RingDiskModel", "lawLow", "[I", true)
  | 15 => ("RingDiskModel", "lawHigh", "[I", true)
  | 16 => ("RingDiskModel", "lawOpen", "[I", true)
  | 17 => ("RingDiskModel", "lawAt", "[I", true)
  | 18 => ("RingDiskModel", "opens", "[I", true)
  | 19 => ("RingDiskModel", "codes", "I", false)
  | 20 => ("RingDiskModel", "op", "[I", true)
  | 21 => ("RingDiskModel", "one", "[I", true)
  | 22 => ("RingDiskModel", "known", "[I", true)
  | 23 => ("RingDiskModel", "pile", "[I", true)
  | 24 => ("RingDiskModel", "ending", "I", false)
  | 25 => ("RingDiskModel", "going", "I", false)
  | 26 => ("RingDiskModel", "many", "[I", true)
  | 27 => ("RingDiskModel", "gas", "[I", true)
  | 28 => ("RingDiskModel", "warm", "[I", true)
  | 29 => ("RingDiskModel", "period", "[I", true)
  | 30 => ("RingDiskModel", "dust", "[I", true)
  | 31 => ("RingDiskModel", "pull", "[I", true)
  | 32 => ("RingDiskModel", "seeds", "[I", true)
  | 33 => ("RingDiskModel", "stepOf", "[I", true)
  | 34 => ("RingDiskModel", "fallen", "[J", true)
  | 35 => ("RingDiskModel", "thrownOut", "[J", true)
  | 36 => ("RingDiskModel", "lumps", "[I", true)
  | 37 => ("RingDiskModel", "state", "[I", true)
  | 38 => ("RingDiskModel", "ringOf", "[I", true)
  | 39 => ("RingDiskModel", "gasOf", "[I", true)
  | 40 => ("RingDiskModel", "times", "[I", true)
  | 41 => ("RingDiskModel", "born", "[I", true)
  | 42 => ("RingDiskModel", "eater", "[I", true)
  | 43 => ("RingDiskModel", "made", "[I", true)
  | 44 => ("RingDiskModel", "luck", "I", false)
  | 45 => ("RingDiskModel", "share", "I", false)
  | 46 => ("RingDiskModel", "leaving", "[I", true)
  | 47 => ("RingDiskModel", "held", "[I", true)
  | 48 => ("RingDiskModel", "tolds", "I", false)
  | 49 => ("RingDiskModel", "toldLumps", "[I", true)
  | 50 => ("RingDiskModel", "toldSteps", "[I", true)
  | _ => ("RingDiskModel", "isMarked", "[Z", true)
def tyX7 : Nat → FieldType := fun k => match k with
  | 0 => .int
  | 1 => .array .int
  | 2 => .int
  | 3 => .int
  | 4 => .array .int
  | 5 => .array .int
  | 6 => .array .long
  | 7 => .int
  | 8 => .int
  | 9 => .array .long
  | 10 => .int
  | 11 => .int
  | 12 => .array .int
  | 13 => .array .int
  | 14 => .array .int
  | 15 => .array .int
  | 16 => .array .int
  | 17 => .array .int
  | 18 => .array .int
  | 19 => .int
  | 20 => .array .int
  | 21 => .array .int
  | 22 => .array .int
  | 23 => .array .int
  | 24 => .int
  | 25 => .int
  | 26 => .array .int
  | 27 => .array .int
  | 28 => .array .int
  | 29 => .array .int
  | 30 => .array .int
  | 31 => .array .int
  | 32 => .array .int
  | 33 => .array .int
  | 34 => .array .long
  | 35 => .array .long
  | 36 => .array .int
  | 37 => .array .int
  | 38 => .array .int
  | 39 => .array .int
  | 40 => .array .int
  | 41 => .array .int
  | 42 => .array .int
  | 43 => .array .int
  | 44 => .int
  | 45 => .int
  | 46 => .array .int
  | 47 => .array .int
  | 48 => .int
  | 49 => .array .int
  | 50 => .array .int
  | _ => .array .boolean
theorem nmX7 : ∀ a, a < 52 → ∀ b, b < 52 → a ≠ b → (TX7 a).2.1 ≠ (TX7 b).2.1 := by decide +kernel
theorem tyX7_ok : ∀ k, k < 52 → parseFieldDescriptor (TX7 k).2.2.1 = some (tyX7 k) := by decide +kernel
abbrev cX7_thrown : ByteArray := prog_9_method_1_code
def yX7_thrown : MethodName := ⟨RX7, "thrown", "()I"⟩
abbrev cX7_feed : ByteArray := prog_9_method_2_code
def yX7_feed : MethodName := ⟨RX7, "feed", "(JJJ)I"⟩
abbrev cX7_lay : ByteArray := prog_9_method_3_code
def yX7_lay : MethodName := ⟨RX7, "lay", "(J)V"⟩
abbrev cX7_init : ByteArray := prog_9_method_4_code
def yX7_init : MethodName := ⟨RX7, "<init>", "()V"⟩
abbrev cX7_isLetter : ByteArray := prog_9_method_5_code
def yX7_isLetter : MethodName := ⟨RX7, "isLetter", "(I)Z"⟩
abbrev cX7_isDigit : ByteArray := prog_9_method_6_code
def yX7_isDigit : MethodName := ⟨RX7, "isDigit", "(I)Z"⟩
abbrev cX7_rank : ByteArray := prog_9_method_7_code
def yX7_rank : MethodName := ⟨RX7, "rank", "(I)I"⟩
abbrev cX7_isSignOf : ByteArray := prog_9_method_8_code
def yX7_isSignOf : MethodName := ⟨RX7, "isSignOf", "(I)Z"⟩
abbrev cX7_cutAll : ByteArray := prog_9_method_9_code
def yX7_cutAll : MethodName := ⟨RX7, "cutAll", "()V"⟩
abbrev cX7_wrong : ByteArray := prog_9_method_10_code
def yX7_wrong : MethodName := ⟨RX7, "wrong", "(I)V"⟩
abbrev cX7_isSign : ByteArray := prog_9_method_11_code
def yX7_isSign : MethodName := ⟨RX7, "isSign", "(I)Z"⟩
abbrev cX7_isWord : ByteArray := prog_9_method_12_code
def yX7_isWord : MethodName := ⟨RX7, "isWord", "(I)Z"⟩
abbrev cX7_takeSign : ByteArray := prog_9_method_13_code
def yX7_takeSign : MethodName := ⟨RX7, "takeSign", "(I)V"⟩
abbrev cX7_hasSign : ByteArray := prog_9_method_14_code
def yX7_hasSign : MethodName := ⟨RX7, "hasSign", "(I)Z"⟩
abbrev cX7_hasWord : ByteArray := prog_9_method_15_code
def yX7_hasWord : MethodName := ⟨RX7, "hasWord", "(I)Z"⟩
abbrev cX7_takeWord : ByteArray := prog_9_method_16_code
def yX7_takeWord : MethodName := ⟨RX7, "takeWord", "(I)V"⟩
abbrev cX7_emit : ByteArray := prog_9_method_17_code
def yX7_emit : MethodName := ⟨RX7, "emit", "(II)V"⟩
abbrev cX7_laws : ByteArray := prog_9_method_18_code
def yX7_laws : MethodName := ⟨RX7, "laws", "()I"⟩
abbrev cX7_takeNumber : ByteArray := prog_9_method_19_code
def yX7_takeNumber : MethodName := ⟨RX7, "takeNumber", "(II)I"⟩
abbrev cX7_leastOf : ByteArray := prog_9_method_20_code
def yX7_leastOf : MethodName := ⟨RX7, "leastOf", "(I)I"⟩
abbrev cX7_mostOf : ByteArray := prog_9_method_21_code
def yX7_mostOf : MethodName := ⟨RX7, "mostOf", "(I)I"⟩
abbrev cX7_readLaw : ByteArray := prog_9_method_22_code
def yX7_readLaw : MethodName := ⟨RX7, "readLaw", "()V"⟩
abbrev cX7_all : ByteArray := prog_9_method_23_code
def yX7_all : MethodName := ⟨RX7, "all", "(I)V"⟩
abbrev cX7_test : ByteArray := prog_9_method_24_code
def yX7_test : MethodName := ⟨RX7, "test", "(I)V"⟩
abbrev cX7_sums : ByteArray := prog_9_method_25_code
def yX7_sums : MethodName := ⟨RX7, "sums", "(I)V"⟩
abbrev cX7_products : ByteArray := prog_9_method_26_code
def yX7_products : MethodName := ⟨RX7, "products", "(I)V"⟩
abbrev cX7_takePart : ByteArray := prog_9_method_27_code
def yX7_takePart : MethodName := ⟨RX7, "takePart", "(I)V"⟩
abbrev cX7_worth : ByteArray := prog_9_method_28_code
def yX7_worth : MethodName := ⟨RX7, "worth", "(I)I"⟩
abbrev cX7_both : ByteArray := prog_9_method_29_code
def yX7_both : MethodName := ⟨RX7, "both", "(III)I"⟩
abbrev cX7_lawFor : ByteArray := prog_9_method_30_code
def yX7_lawFor : MethodName := ⟨RX7, "lawFor", "(I)I"⟩
abbrev cX7_within : ByteArray := prog_9_method_31_code
def yX7_within : MethodName := ⟨RX7, "within", "(III)Z"⟩
abbrev cX7_clears : ByteArray := prog_9_method_32_code
def yX7_clears : MethodName := ⟨RX7, "clears", "(I)V"⟩
abbrev cX7_copies : ByteArray := prog_9_method_33_code
def yX7_copies : MethodName := ⟨RX7, "copies", "(II)V"⟩
abbrev cX7_rings : ByteArray := prog_9_method_34_code
def yX7_rings : MethodName := ⟨RX7, "rings", "(I)Z"⟩
abbrev cX7_isRing : ByteArray := prog_9_method_35_code
def yX7_isRing : MethodName := ⟨RX7, "isRing", "(I)Z"⟩
abbrev cX7_ring : ByteArray := prog_9_method_36_code
def yX7_ring : MethodName := ⟨RX7, "ring", "(IIII)Z"⟩
abbrev cX7_dust : ByteArray := prog_9_method_37_code
def yX7_dust : MethodName := ⟨RX7, "dust", "(III)Z"⟩
abbrev cX7_star : ByteArray := prog_9_method_38_code
def yX7_star : MethodName := ⟨RX7, "star", "(III)Z"⟩
abbrev cX7_seed : ByteArray := prog_9_method_39_code
def yX7_seed : MethodName := ⟨RX7, "seed", "(I)Z"⟩
abbrev cX7_end : ByteArray := prog_9_method_40_code
def yX7_end : MethodName := ⟨RX7, "end", "(I)Z"⟩
abbrev cX7_isEnd : ByteArray := prog_9_method_41_code
def yX7_isEnd : MethodName := ⟨RX7, "isEnd", "(I)Z"⟩
abbrev cX7_allDust : ByteArray := prog_9_method_42_code
def yX7_allDust : MethodName := ⟨RX7, "allDust", "(II)I"⟩
abbrev cX7_there : ByteArray := prog_9_method_43_code
def yX7_there : MethodName := ⟨RX7, "there", "(I)I"⟩
abbrev cX7_knowsRing : ByteArray := prog_9_method_44_code
def yX7_knowsRing : MethodName := ⟨RX7, "knowsRing", "(II)V"⟩
abbrev cX7_knowsDust : ByteArray := prog_9_method_45_code
def yX7_knowsDust : MethodName := ⟨RX7, "knowsDust", "(III)V"⟩
abbrev cX7_dustOf : ByteArray := prog_9_method_46_code
def yX7_dustOf : MethodName := ⟨RX7, "dustOf", "(II)I"⟩
abbrev cX7_weightOf : ByteArray := prog_9_method_47_code
def yX7_weightOf : MethodName := ⟨RX7, "weightOf", "(II)I"⟩
abbrev cX7_knowsLump : ByteArray := prog_9_method_48_code
def yX7_knowsLump : MethodName := ⟨RX7, "knowsLump", "(II)V"⟩
abbrev cX7_isThere : ByteArray := prog_9_method_49_code
def yX7_isThere : MethodName := ⟨RX7, "isThere", "(II)Z"⟩
abbrev cX7_wayOf : ByteArray := prog_9_method_50_code
def yX7_wayOf : MethodName := ⟨RX7, "wayOf", "(II)I"⟩
abbrev cX7_steps1 : ByteArray := prog_9_method_51_code
def yX7_steps1 : MethodName := ⟨RX7, "steps1", "(I)V"⟩
abbrev cX7_part : ByteArray := prog_9_method_52_code
def yX7_part : MethodName := ⟨RX7, "part", "(II)I"⟩
abbrev cX7_sticks : ByteArray := prog_9_method_53_code
def yX7_sticks : MethodName := ⟨RX7, "sticks", "(I)V"⟩
abbrev cX7_breaks : ByteArray := prog_9_method_54_code
def yX7_breaks : MethodName := ⟨RX7, "breaks", "(I)V"⟩
abbrev cX7_findHeld : ByteArray := prog_9_method_55_code
def yX7_findHeld : MethodName := ⟨RX7, "findHeld", "(I)V"⟩
abbrev cX7_drifts : ByteArray := prog_9_method_56_code
def yX7_drifts : MethodName := ⟨RX7, "drifts", "(I)V"⟩
abbrev cX7_gathers : ByteArray := prog_9_method_57_code
def yX7_gathers : MethodName := ⟨RX7, "gathers", "(I)V"⟩
abbrev cX7_feeds : ByteArray := prog_9_method_58_code
def yX7_feeds : MethodName := ⟨RX7, "feeds", "(I)V"⟩
abbrev cX7_eats : ByteArray := prog_9_method_59_code
def yX7_eats : MethodName := ⟨RX7, "eats", "(I)V"⟩
abbrev cX7_isLocked : ByteArray := prog_9_method_60_code
def yX7_isLocked : MethodName := ⟨RX7, "isLocked", "(II)Z"⟩
abbrev cX7_wanders : ByteArray := prog_9_method_61_code
def yX7_wanders : MethodName := ⟨RX7, "wanders", "(I)V"⟩
abbrev cX7_goes : ByteArray := prog_9_method_62_code
def yX7_goes : MethodName := ⟨RX7, "goes", "(II)V"⟩
abbrev cX7_meets : ByteArray := prog_9_method_63_code
def yX7_meets : MethodName := ⟨RX7, "meets", "(I)V"⟩
abbrev cX7_meet : ByteArray := prog_9_method_64_code
def yX7_meet : MethodName := ⟨RX7, "meet", "(III)V"⟩
abbrev cX7_steps : ByteArray := prog_9_method_65_code
def yX7_steps : MethodName := ⟨RX7, "steps", "(I)I"⟩
abbrev cX7_has : ByteArray := prog_9_method_66_code
def yX7_has : MethodName := ⟨RX7, "has", "(II)I"⟩
abbrev cX7_isLump : ByteArray := prog_9_method_67_code
def yX7_isLump : MethodName := ⟨RX7, "isLump", "(I)Z"⟩
abbrev cX7_familyOf : ByteArray := prog_9_method_68_code
def yX7_familyOf : MethodName := ⟨RX7, "familyOf", "(II)I"⟩
abbrev cX7_seenBy : ByteArray := prog_9_method_69_code
def yX7_seenBy : MethodName := ⟨RX7, "seenBy", "(I)I"⟩
abbrev cX7_look : ByteArray := prog_9_method_70_code
def yX7_look : MethodName := ⟨RX7, "look", "(II)I"⟩
abbrev cX7_made : ByteArray := prog_9_method_71_code
def yX7_made : MethodName := ⟨RX7, "made", "(II)I"⟩
abbrev cX7_inRings : ByteArray := prog_9_method_72_code
def yX7_inRings : MethodName := ⟨RX7, "inRings", "()J"⟩
abbrev cX7_inLumps : ByteArray := prog_9_method_73_code
def yX7_inLumps : MethodName := ⟨RX7, "inLumps", "()J"⟩
abbrev cX7_parts : ByteArray := prog_9_method_74_code
def yX7_parts : MethodName := ⟨RX7, "parts", "(I)J"⟩
abbrev cX7_tries : ByteArray := prog_9_method_75_code
def yX7_tries : MethodName := ⟨RX7, "tries", "(II)V"⟩
abbrev cX7_isAsked : ByteArray := prog_9_method_76_code
def yX7_isAsked : MethodName := ⟨RX7, "isAsked", "(III)Z"⟩
abbrev cX7_isSo : ByteArray := prog_9_method_77_code
def yX7_isSo : MethodName := ⟨RX7, "isSo", "(II)Z"⟩
abbrev cX7_asked : ByteArray := prog_9_method_78_code
def yX7_asked : MethodName := ⟨RX7, "asked", "(IIII)I"⟩
abbrev cX7_sure : ByteArray := prog_9_method_79_code
def yX7_sure : MethodName := ⟨RX7, "sure", "(III)I"⟩
abbrev cX7_empty : ByteArray := prog_9_method_80_code
def yX7_empty : MethodName := ⟨RX7, "empty", "(II)I"⟩
abbrev cX7_runs : ByteArray := prog_9_method_81_code
def yX7_runs : MethodName := ⟨RX7, "runs", "(III)I"⟩
abbrev cX7_back : ByteArray := prog_9_method_82_code
def yX7_back : MethodName := ⟨RX7, "back", "()I"⟩
abbrev cX7_told : ByteArray := prog_9_method_83_code
def yX7_told : MethodName := ⟨RX7, "told", "(II)I"⟩
abbrev cX7_forget : ByteArray := prog_9_method_84_code
def yX7_forget : MethodName := ⟨RX7, "forget", "()I"⟩
abbrev cX7_isFit : ByteArray := prog_9_method_85_code
def yX7_isFit : MethodName := ⟨RX7, "isFit", "(I)Z"⟩
abbrev cX7_fits : ByteArray := prog_9_method_86_code
def yX7_fits : MethodName := ⟨RX7, "fits", "(I)I"⟩
abbrev cX7_barred : ByteArray := prog_9_method_87_code
def yX7_barred : MethodName := ⟨RX7, "barred", "(II)I"⟩
abbrev cX7_mark : ByteArray := prog_9_method_88_code
def yX7_mark : MethodName := ⟨RX7, "mark", "(IZ)Z"⟩
abbrev cX7_traps : ByteArray := prog_9_method_89_code
def yX7_traps : MethodName := ⟨RX7, "traps", "()I"⟩
abbrev cX7_families : ByteArray := prog_9_method_90_code
def yX7_families : MethodName := ⟨RX7, "families", "()I"⟩
abbrev cX7_count : ByteArray := prog_9_method_91_code
def yX7_count : MethodName := ⟨RX7, "count", "(I)I"⟩
def RJ11 : String := "java/lang/Character"
def TJ11 : u_T := fun k => match k with
  | _ => ("", "", "", false)
def tyJ11 : Nat → FieldType := fun k => match k with
  | _ => .int
theorem nmJ11 : ∀ a, a < 0 → ∀ b, b < 0 → a ≠ b → (TJ11 a).2.1 ≠ (TJ11 b).2.1 := by decide +kernel
theorem tyJ11_ok : ∀ k, k < 0 → parseFieldDescriptor (TJ11 k).2.2.1 = some (tyJ11 k) := by decide +kernel
abbrev cJ11_isValidCodePoint_9a6ad : ByteArray := prog_10_method_11_code
def yJ11_isValidCodePoint_9a6ad : MethodName := ⟨RJ11, "isValidCodePoint", "(I)Z"⟩
abbrev cJ11_highSurrogate_5068e : ByteArray := prog_10_method_28_code
def yJ11_highSurrogate_5068e : MethodName := ⟨RJ11, "highSurrogate", "(I)C"⟩
abbrev cJ11_lowSurrogate_5068e : ByteArray := prog_10_method_29_code
def yJ11_lowSurrogate_5068e : MethodName := ⟨RJ11, "lowSurrogate", "(I)C"⟩
def RJ9 : String := "java/lang/Math"
def TJ9 : u_T := fun k => match k with
  | _ => ("", "", "", false)
def tyJ9 : Nat → FieldType := fun k => match k with
  | _ => .int
theorem nmJ9 : ∀ a, a < 0 → ∀ b, b < 0 → a ≠ b → (TJ9 a).2.1 ≠ (TJ9 b).2.1 := by decide +kernel
theorem tyJ9_ok : ∀ k, k < 0 → parseFieldDescriptor (TJ9 k).2.2.1 = some (tyJ9 k) := by decide +kernel
abbrev cJ9_max_7cf53 : ByteArray := prog_12_method_65_code
def yJ9_max_7cf53 : MethodName := ⟨RJ9, "max", "(II)I"⟩
abbrev cJ9_min_7cf53 : ByteArray := prog_12_method_69_code
def yJ9_min_7cf53 : MethodName := ⟨RJ9, "min", "(II)I"⟩
def RJ0 : String := "java/lang/String"
def TJ0 : u_T := fun k => match k with
  | _ => ("", "", "", false)
def tyJ0 : Nat → FieldType := fun k => match k with
  | _ => .int
theorem nmJ0 : ∀ a, a < 0 → ∀ b, b < 0 → a ≠ b → (TJ0 a).2.1 ≠ (TJ0 b).2.1 := by decide +kernel
theorem tyJ0_ok : ∀ k, k < 0 → parseFieldDescriptor (TJ0 k).2.2.1 = some (tyJ0 k) := by decide +kernel
abbrev cJ0_length_8abf5 : ByteArray := prog_14_method_54_code
def yJ0_length_8abf5 : MethodName := ⟨RJ0, "length", "()I"⟩
abbrev cJ0_charAt_5068e : ByteArray := prog_14_method_56_code
def yJ0_charAt_5068e : MethodName := ⟨RJ0, "charAt", "(I)C"⟩
abbrev cJ0_indexOf_0f7a4 : ByteArray := prog_14_method_79_code
def yJ0_indexOf_0f7a4 : MethodName := ⟨RJ0, "indexOf", "(I)I"⟩
abbrev cJ0_indexOf_7cf53 : ByteArray := prog_14_method_80_code
def yJ0_indexOf_7cf53 : MethodName := ⟨RJ0, "indexOf", "(II)I"⟩
abbrev cJ0_coder_7d493 : ByteArray := prog_14_method_152_code
def yJ0_coder_7d493 : MethodName := ⟨RJ0, "coder", "()B"⟩
abbrev cJ0_isLatin1_aae02 : ByteArray := prog_14_method_154_code
def yJ0_isLatin1_aae02 : MethodName := ⟨RJ0, "isLatin1", "()Z"⟩
abbrev cJ0_checkIndex_df160 : ByteArray := prog_14_method_155_code
def yJ0_checkIndex_df160 : MethodName := ⟨RJ0, "checkIndex", "(II)V"⟩
abbrev cJ0_checkBoundsBeginEnd_23922 : ByteArray := prog_14_method_158_code
def yJ0_checkBoundsBeginEnd_23922 : MethodName := ⟨RJ0, "checkBoundsBeginEnd", "(III)V"⟩
def RJ1 : String := "java/lang/StringLatin1"
def TJ1 : u_T := fun k => match k with
  | _ => ("", "", "", false)
def tyJ1 : Nat → FieldType := fun k => match k with
  | _ => .int
theorem nmJ1 : ∀ a, a < 0 → ∀ b, b < 0 → a ≠ b → (TJ1 a).2.1 ≠ (TJ1 b).2.1 := by decide +kernel
theorem tyJ1_ok : ∀ k, k < 0 → parseFieldDescriptor (TJ1 k).2.2.1 = some (tyJ1 k) := by decide +kernel
abbrev cJ1_charAt_3b067 : ByteArray := prog_15_method_2_code
def yJ1_charAt_3b067 : MethodName := ⟨RJ1, "charAt", "([BI)C"⟩
abbrev cJ1_canEncode_9a6ad : ByteArray := prog_15_method_4_code
def yJ1_canEncode_9a6ad : MethodName := ⟨RJ1, "canEncode", "(I)Z"⟩
abbrev cJ1_indexOf_4cfef : ByteArray := prog_15_method_22_code
def yJ1_indexOf_4cfef : MethodName := ⟨RJ1, "indexOf", "([BIII)I"⟩
abbrev cJ1_indexOfChar_4cfef : ByteArray := prog_15_method_23_code
def yJ1_indexOfChar_4cfef : MethodName := ⟨RJ1, "indexOfChar", "([BIII)I"⟩
def RJ2 : String := "java/lang/StringUTF16"
def TJ2 : u_T := fun k => match k with
  | _ => ("", "", "", false)
def tyJ2 : Nat → FieldType := fun k => match k with
  | _ => .int
theorem nmJ2 : ∀ a, a < 0 → ∀ b, b < 0 → a ≠ b → (TJ2 a).2.1 ≠ (TJ2 b).2.1 := by decide +kernel
theorem tyJ2_ok : ∀ k, k < 0 → parseFieldDescriptor (TJ2 k).2.2.1 = some (tyJ2 k) := by decide +kernel
abbrev cJ2_getChar_3b067 : ByteArray := prog_16_method_5_code
def yJ2_getChar_3b067 : MethodName := ⟨RJ2, "getChar", "([BI)C"⟩
abbrev cJ2_length_9d52b : ByteArray := prog_16_method_6_code
def yJ2_length_9d52b : MethodName := ⟨RJ2, "length", "([B)I"⟩
abbrev cJ2_indexOf_4cfef : ByteArray := prog_16_method_40_code
def yJ2_indexOf_4cfef : MethodName := ⟨RJ2, "indexOf", "([BIII)I"⟩
abbrev cJ2_indexOfChar_4cfef : ByteArray := prog_16_method_47_code
def yJ2_indexOfChar_4cfef : MethodName := ⟨RJ2, "indexOfChar", "([BIII)I"⟩
abbrev cJ2_indexOfCharUnsafe_4cfef : ByteArray := prog_16_method_48_code
def yJ2_indexOfCharUnsafe_4cfef : MethodName := ⟨RJ2, "indexOfCharUnsafe", "([BIII)I"⟩
abbrev cJ2_indexOfSupplementary_4cfef : ByteArray := prog_16_method_49_code
def yJ2_indexOfSupplementary_4cfef : MethodName := ⟨RJ2, "indexOfSupplementary", "([BIII)I"⟩
abbrev cJ2_charAt_3b067 : ByteArray := prog_16_method_83_code
def yJ2_charAt_3b067 : MethodName := ⟨RJ2, "charAt", "([BI)C"⟩
abbrev cJ2_checkIndex_2214a : ByteArray := prog_16_method_91_code
def yJ2_checkIndex_2214a : MethodName := ⟨RJ2, "checkIndex", "(I[B)V"⟩
abbrev cJ2_checkBoundsBeginEnd_d044e : ByteArray := prog_16_method_93_code
def yJ2_checkBoundsBeginEnd_d044e : MethodName := ⟨RJ2, "checkBoundsBeginEnd", "(II[B)V"⟩
def RJ10 : String := "java/lang/System"
def TJ10 : u_T := fun k => match k with
  | _ => ("", "", "", false)
def tyJ10 : Nat → FieldType := fun k => match k with
  | _ => .int
theorem nmJ10 : ∀ a, a < 0 → ∀ b, b < 0 → a ≠ b → (TJ10 a).2.1 ≠ (TJ10 b).2.1 := by decide +kernel
theorem tyJ10_ok : ∀ k, k < 0 → parseFieldDescriptor (TJ10 k).2.2.1 = some (tyJ10 k) := by decide +kernel
def RJ3 : String := "jdk/internal/util/Preconditions"
def TJ3 : u_T := fun k => match k with
  | _ => ("", "", "", false)
def tyJ3 : Nat → FieldType := fun k => match k with
  | _ => .int
theorem nmJ3 : ∀ a, a < 0 → ∀ b, b < 0 → a ≠ b → (TJ3 a).2.1 ≠ (TJ3 b).2.1 := by decide +kernel
theorem tyJ3_ok : ∀ k, k < 0 → parseFieldDescriptor (TJ3 k).2.2.1 = some (tyJ3 k) := by decide +kernel
abbrev cJ3_checkIndex_8e157 : ByteArray := prog_20_method_11_code
def yJ3_checkIndex_8e157 : MethodName := ⟨RJ3, "checkIndex", "(IILjava/util/function/BiFunction;)I"⟩
abbrev cJ3_checkFromToIndex_8c36e : ByteArray := prog_20_method_12_code
def yJ3_checkFromToIndex_8c36e : MethodName := ⟨RJ3, "checkFromToIndex", "(IIILjava/util/function/BiFunction;)I"⟩
def RL : String := "RingDiskLaw"
abbrev cL_has : ByteArray := method_3_code
def yL_has : MethodName := ⟨RL, "has", "(LRingDisk;II[J)I"⟩
abbrev cL_law : ByteArray := code
def yL_law : MethodName := ⟨RL, "law", "([I)Z"⟩
abbrev vwCl : List vw_C := [(RX0, TX0, 8), (RX1, TX1, 13), (RX2, TX2, 12), (RX3, TX3, 8), (RX4, TX4, 7), (RX5, TX5, 2), (RX6, TX6, 12), (RX7, TX7, 52)]
end
section
theorem dX0_init_0 : decode cX0_init 0 = .ok (.aload_n 0, 1) := by decide +kernel
theorem dX0_init_1 : decode cX0_init 1 = .ok (.invokespecial 3, 3) := by decide +kernel
theorem dX0_init_4 : decode cX0_init 4 = .ok (.aload_n 0, 1) := by decide +kernel
theorem dX0_init_5 : decode cX0_init 5 = .ok (.new 9, 3) := by decide +kernel
theorem dX0_init_8 : decode cX0_init 8 = .ok (.dup, 1) := by decide +kernel
theorem dX0_init_9 : decode cX0_init 9 = .ok (.invokespecial 11, 3) := by decide +kernel
theorem dX0_init_12 : decode cX0_init 12 = .ok (.putfield 12, 3) := by decide +kernel
theorem dX0_init_15 : decode cX0_init 15 = .ok (.aload_n 0, 1) := by decide +kernel
theorem dX0_init_16 : decode cX0_init 16 = .ok (.new 18, 3) := by decide +kernel
theorem dX0_init_19 : decode cX0_init 19 = .ok (.dup, 1) := by decide +kernel
theorem dX0_init_20 : decode cX0_init 20 = .ok (.invokespecial 20, 3) := by decide +kernel
theorem dX0_init_23 : decode cX0_init 23 = .ok (.putfield 21, 3) := by decide +kernel
theorem dX0_init_26 : decode cX0_init 26 = .ok (.aload_n 0, 1) := by decide +kernel
theorem dX0_init_27 : decode cX0_init 27 = .ok (.bipush 101, 2) := by decide +kernel
theorem dX0_init_29 : decode cX0_init 29 = .ok (.putfield 25, 3) := by decide +kernel
theorem dX0_init_32 : decode cX0_init 32 = .ok (.aload_n 0, 1) := by decide +kernel
theorem dX0_init_33 : decode cX0_init 33 = .ok (.bipush 9, 2) := by decide +kernel
theorem dX0_init_35 : decode cX0_init 35 = .ok (.newarray .int, 2) := by decide +kernel
theorem dX0_init_37 : decode cX0_init 37 = .ok (.putfield 29, 3) := by decide +kernel
theorem dX0_init_40 : decode cX0_init 40 = .ok (.aload_n 0, 1) := by decide +kernel
theorem dX0_init_41 : decode cX0_init 41 = .ok (.bipush 60, 2) := by decide +kernel
theorem dX0_init_43 : decode cX0_init 43 = .ok (.newarray .int, 2) := by decide +kernel
theorem dX0_init_45 : decode cX0_init 45 = .ok (.putfield 33, 3) := by decide +kernel
theorem dX0_init_48 : decode cX0_init 48 = .ok (.aload_n 0, 1) := by decide +kernel
theorem dX0_init_49 : decode cX0_init 49 = .ok (.bipush 12, 2) := by decide +kernel
theorem dX0_init_51 : decode cX0_init 51 = .ok (.newarray .int, 2) := by decide +kernel
theorem dX0_init_53 : decode cX0_init 53 = .ok (.putfield 36, 3) := by decide +kernel
theorem dX0_init_56 : decode cX0_init 56 = .ok (.return_, 1) := by decide +kernel
theorem dX0_enter_0 : decode cX0_enter 0 = .ok (.aload_n 0, 1) := by decide +kernel
theorem dX0_enter_1 : decode cX0_enter 1 = .ok (.aload_n 1, 1) := by decide +kernel
theorem dX0_enter_2 : decode cX0_enter 2 = .ok (.putfield 12, 3) := by decide +kernel
theorem dX0_enter_5 : decode cX0_enter 5 = .ok (.aload_n 0, 1) := by decide +kernel
theorem dX0_enter_6 : decode cX0_enter 6 = .ok (.iload_n 2, 1) := by decide +kernel
theorem dX0_enter_7 : decode cX0_enter 7 = .ok (.putfield 39, 3) := by decide +kernel
theorem dX0_enter_10 : decode cX0_enter 10 = .ok (.return_, 1) := by decide +kernel
theorem dX0_go_0 : decode cX0_go 0 = .ok (.iconst 0, 1) := by decide +kernel
theorem dX0_go_1 : decode cX0_go 1 = .ok (.istore_n 2, 1) := by decide +kernel
theorem dX0_go_2 : decode cX0_go 2 = .ok (.iload_n 2, 1) := by decide +kernel
theorem dX0_go_3 : decode cX0_go 3 = .ok (.iload_n 1, 1) := by decide +kernel
theorem dX0_go_4 : decode cX0_go 4 = .ok (.if_icmp .ge 58, 3) := by decide +kernel
theorem dX0_go_7 : decode cX0_go 7 = .ok (.aload_n 0, 1) := by decide +kernel
theorem dX0_go_8 : decode cX0_go 8 = .ok (.invokevirtual 42, 3) := by decide +kernel
theorem dX0_go_11 : decode cX0_go 11 = .ok (.aload_n 0, 1) := by decide +kernel
theorem dX0_go_12 : decode cX0_go 12 = .ok (.invokevirtual 45, 3) := by decide +kernel
theorem dX0_go_15 : decode cX0_go 15 = .ok (.aload_n 0, 1) := by decide +kernel
theorem dX0_go_16 : decode cX0_go 16 = .ok (.invokevirtual 48, 3) := by decide +kernel
theorem dX0_go_19 : decode cX0_go 19 = .ok (.aload_n 0, 1) := by decide +kernel
theorem dX0_go_20 : decode cX0_go 20 = .ok (.invokevirtual 51, 3) := by decide +kernel
theorem dX0_go_23 : decode cX0_go 23 = .ok (.aload_n 0, 1) := by decide +kernel
theorem dX0_go_24 : decode cX0_go 24 = .ok (.invokevirtual 54, 3) := by decide +kernel
theorem dX0_go_27 : decode cX0_go 27 = .ok (.aload_n 0, 1) := by decide +kernel
theorem dX0_go_28 : decode cX0_go 28 = .ok (.invokevirtual 57, 3) := by decide +kernel
theorem dX0_go_31 : decode cX0_go 31 = .ok (.aload_n 0, 1) := by decide +kernel
theorem dX0_go_32 : decode cX0_go 32 = .ok (.invokevirtual 60, 3) := by decide +kernel
theorem dX0_go_35 : decode cX0_go 35 = .ok (.aload_n 0, 1) := by decide +kernel
theorem dX0_go_36 : decode cX0_go 36 = .ok (.invokevirtual 63, 3) := by decide +kernel
theorem dX0_go_39 : decode cX0_go 39 = .ok (.aload_n 0, 1) := by decide +kernel
theorem dX0_go_40 : decode cX0_go 40 = .ok (.invokevirtual 66, 3) := by decide +kernel
theorem dX0_go_43 : decode cX0_go 43 = .ok (.aload_n 0, 1) := by decide +kernel
theorem dX0_go_44 : decode cX0_go 44 = .ok (.getfield 12, 3) := by decide +kernel
theorem dX0_go_47 : decode cX0_go 47 = .ok (.dup, 1) := by decide +kernel
theorem dX0_go_48 : decode cX0_go 48 = .ok (.getfield 69, 3) := by decide +kernel
theorem dX0_go_51 : decode cX0_go 51 = .ok (.iconst 1, 1) := by decide +kernel
theorem dX0_go_52 : decode cX0_go 52 = .ok (.iadd, 1) := by decide +kernel
theorem dX0_go_53 : decode cX0_go 53 = .ok (.putfield 69, 3) := by decide +kernel
theorem dX0_go_56 : decode cX0_go 56 = .ok (.iinc 2 1, 3) := by decide +kernel
theorem dX0_go_59 : decode cX0_go 59 = .ok (.goto (-57), 3) := by decide +kernel
theorem dX0_go_62 : decode cX0_go 62 = .ok (.return_, 1) := by decide +kernel
theorem dX0_lawForDust_0 : decode cX0_lawForDust 0 = .ok (.aload_n 0, 1) := by decide +kernel
theorem dX0_lawForDust_1 : decode cX0_lawForDust 1 = .ok (.getfield 21, 3) := by decide +kernel
theorem dX0_lawForDust_4 : decode cX0_lawForDust 4 = .ok (.iload_n 1, 1) := by decide +kernel
theorem dX0_lawForDust_5 : decode cX0_lawForDust 5 = .ok (.invokevirtual 72, 3) := by decide +kernel
theorem dX0_lawForDust_8 : decode cX0_lawForDust 8 = .ok (.ifCond .eq 5, 3) := by decide +kernel
theorem dX0_lawForDust_11 : decode cX0_lawForDust 11 = .ok (.iconst (-1), 1) := by decide +kernel
theorem dX0_lawForDust_12 : decode cX0_lawForDust 12 = .ok (.ireturn, 1) := by decide +kernel
theorem dX0_lawForDust_13 : decode cX0_lawForDust 13 = .ok (.aload_n 0, 1) := by decide +kernel
theorem dX0_lawForDust_14 : decode cX0_lawForDust 14 = .ok (.iload_n 2, 1) := by decide +kernel
theorem dX0_lawForDust_15 : decode cX0_lawForDust 15 = .ok (.invokevirtual 76, 3) := by decide +kernel
theorem dX0_lawForDust_18 : decode cX0_lawForDust 18 = .ok (.aload_n 0, 1) := by decide +kernel
theorem dX0_lawForDust_19 : decode cX0_lawForDust 19 = .ok (.getfield 29, 3) := by decide +kernel
theorem dX0_lawForDust_22 : decode cX0_lawForDust 22 = .ok (.iconst 1, 1) := by decide +kernel
theorem dX0_lawForDust_23 : decode cX0_lawForDust 23 = .ok (.iload_n 3, 1) := by decide +kernel
theorem dX0_lawForDust_24 : decode cX0_lawForDust 24 = .ok (.iastore, 1) := by decide +kernel
theorem dX0_lawForDust_25 : decode cX0_lawForDust 25 = .ok (.aload_n 0, 1) := by decide +kernel
theorem dX0_lawForDust_26 : decode cX0_lawForDust 26 = .ok (.getfield 29, 3) := by decide +kernel
theorem dX0_lawForDust_29 : decode cX0_lawForDust 29 = .ok (.iconst 4, 1) := by decide +kernel
theorem dX0_lawForDust_30 : decode cX0_lawForDust 30 = .ok (.aload_n 0, 1) := by decide +kernel
theorem dX0_lawForDust_31 : decode cX0_lawForDust 31 = .ok (.getfield 12, 3) := by decide +kernel
theorem dX0_lawForDust_34 : decode cX0_lawForDust 34 = .ok (.getfield 80, 3) := by decide +kernel
theorem dX0_lawForDust_37 : decode cX0_lawForDust 37 = .ok (.iload_n 2, 1) := by decide +kernel
theorem dX0_lawForDust_38 : decode cX0_lawForDust 38 = .ok (.iconst 5, 1) := by decide +kernel
theorem dX0_lawForDust_39 : decode cX0_lawForDust 39 = .ok (.imul, 1) := by decide +kernel
theorem dX0_lawForDust_40 : decode cX0_lawForDust 40 = .ok (.iload_n 3, 1) := by decide +kernel
theorem dX0_lawForDust_41 : decode cX0_lawForDust 41 = .ok (.iadd, 1) := by decide +kernel
theorem dX0_lawForDust_42 : decode cX0_lawForDust 42 = .ok (.iaload, 1) := by decide +kernel
theorem dX0_lawForDust_43 : decode cX0_lawForDust 43 = .ok (.iastore, 1) := by decide +kernel
theorem dX0_lawForDust_44 : decode cX0_lawForDust 44 = .ok (.aload_n 0, 1) := by decide +kernel
theorem dX0_lawForDust_45 : decode cX0_lawForDust 45 = .ok (.getfield 29, 3) := by decide +kernel
theorem dX0_lawForDust_48 : decode cX0_lawForDust 48 = .ok (.bipush 6, 2) := by decide +kernel
theorem dX0_lawForDust_50 : decode cX0_lawForDust 50 = .ok (.iconst 0, 1) := by decide +kernel
theorem dX0_lawForDust_51 : decode cX0_lawForDust 51 = .ok (.iastore, 1) := by decide +kernel
theorem dX0_lawForDust_52 : decode cX0_lawForDust 52 = .ok (.aload_n 0, 1) := by decide +kernel
theorem dX0_lawForDust_53 : decode cX0_lawForDust 53 = .ok (.getfield 21, 3) := by decide +kernel
theorem dX0_lawForDust_56 : decode cX0_lawForDust 56 = .ok (.iload_n 1, 1) := by decide +kernel
theorem dX0_lawForDust_57 : decode cX0_lawForDust 57 = .ok (.aload_n 0, 1) := by decide +kernel
theorem dX0_lawForDust_58 : decode cX0_lawForDust 58 = .ok (.getfield 39, 3) := by decide +kernel
theorem dX0_lawForDust_61 : decode cX0_lawForDust 61 = .ok (.aload_n 0, 1) := by decide +kernel
theorem dX0_lawForDust_62 : decode cX0_lawForDust 62 = .ok (.getfield 29, 3) := by decide +kernel
theorem dX0_lawForDust_65 : decode cX0_lawForDust 65 = .ok (.invokevirtual 83, 3) := by decide +kernel
theorem dX0_lawForDust_68 : decode cX0_lawForDust 68 = .ok (.ireturn, 1) := by decide +kernel
theorem dX0_lawForLump_0 : decode cX0_lawForLump 0 = .ok (.aload_n 0, 1) := by decide +kernel
theorem dX0_lawForLump_1 : decode cX0_lawForLump 1 = .ok (.getfield 21, 3) := by decide +kernel
theorem dX0_lawForLump_4 : decode cX0_lawForLump 4 = .ok (.iload_n 1, 1) := by decide +kernel
theorem dX0_lawForLump_5 : decode cX0_lawForLump 5 = .ok (.invokevirtual 72, 3) := by decide +kernel
theorem dX0_lawForLump_8 : decode cX0_lawForLump 8 = .ok (.ifCond .eq 5, 3) := by decide +kernel
theorem dX0_lawForLump_11 : decode cX0_lawForLump 11 = .ok (.iconst (-1), 1) := by decide +kernel
theorem dX0_lawForLump_12 : decode cX0_lawForLump 12 = .ok (.ireturn, 1) := by decide +kernel
theorem dX0_lawForLump_13 : decode cX0_lawForLump 13 = .ok (.aload_n 0, 1) := by decide +kernel
theorem dX0_lawForLump_14 : decode cX0_lawForLump 14 = .ok (.aload_n 2, 1) := by decide +kernel
theorem dX0_lawForLump_15 : decode cX0_lawForLump 15 = .ok (.getfield 87, 3) := by decide +kernel
theorem dX0_lawForLump_18 : decode cX0_lawForLump 18 = .ok (.invokevirtual 76, 3) := by decide +kernel
theorem dX0_lawForLump_21 : decode cX0_lawForLump 21 = .ok (.aload_n 0, 1) := by decide +kernel
theorem dX0_lawForLump_22 : decode cX0_lawForLump 22 = .ok (.getfield 29, 3) := by decide +kernel
theorem dX0_lawForLump_25 : decode cX0_lawForLump 25 = .ok (.iconst 1, 1) := by decide +kernel
theorem dX0_lawForLump_26 : decode cX0_lawForLump 26 = .ok (.iconst 0, 1) := by decide +kernel
theorem dX0_lawForLump_27 : decode cX0_lawForLump 27 = .ok (.iastore, 1) := by decide +kernel
theorem dX0_lawForLump_28 : decode cX0_lawForLump 28 = .ok (.aload_n 0, 1) := by decide +kernel
theorem dX0_lawForLump_29 : decode cX0_lawForLump 29 = .ok (.getfield 29, 3) := by decide +kernel
theorem dX0_lawForLump_32 : decode cX0_lawForLump 32 = .ok (.iconst 4, 1) := by decide +kernel
theorem dX0_lawForLump_33 : decode cX0_lawForLump 33 = .ok (.iconst 0, 1) := by decide +kernel
theorem dX0_lawForLump_34 : decode cX0_lawForLump 34 = .ok (.iastore, 1) := by decide +kernel
theorem dX0_lawForLump_35 : decode cX0_lawForLump 35 = .ok (.aload_n 0, 1) := by decide +kernel
theorem dX0_lawForLump_36 : decode cX0_lawForLump 36 = .ok (.getfield 29, 3) := by decide +kernel
theorem dX0_lawForLump_39 : decode cX0_lawForLump 39 = .ok (.bipush 6, 2) := by decide +kernel
theorem dX0_lawForLump_41 : decode cX0_lawForLump 41 = .ok (.aload_n 2, 1) := by decide +kernel
theorem dX0_lawForLump_42 : decode cX0_lawForLump 42 = .ok (.getfield 92, 3) := by decide +kernel
theorem dX0_lawForLump_45 : decode cX0_lawForLump 45 = .ok (.iastore, 1) := by decide +kernel
theorem dX0_lawForLump_46 : decode cX0_lawForLump 46 = .ok (.aload_n 0, 1) := by decide +kernel
theorem dX0_lawForLump_47 : decode cX0_lawForLump 47 = .ok (.getfield 21, 3) := by decide +kernel
theorem dX0_lawForLump_50 : decode cX0_lawForLump 50 = .ok (.iload_n 1, 1) := by decide +kernel
theorem dX0_lawForLump_51 : decode cX0_lawForLump 51 = .ok (.aload_n 0, 1) := by decide +kernel
theorem dX0_lawForLump_52 : decode cX0_lawForLump 52 = .ok (.getfield 39, 3) := by decide +kernel
theorem dX0_lawForLump_55 : decode cX0_lawForLump 55 = .ok (.aload_n 0, 1) := by decide +kernel
theorem dX0_lawForLump_56 : decode cX0_lawForLump 56 = .ok (.getfield 29, 3) := by decide +kernel
theorem dX0_lawForLump_59 : decode cX0_lawForLump 59 = .ok (.invokevirtual 83, 3) := by decide +kernel
theorem dX0_lawForLump_62 : decode cX0_lawForLump 62 = .ok (.ireturn, 1) := by decide +kernel
theorem dX0_tellOfRing_0 : decode cX0_tellOfRing 0 = .ok (.aload_n 0, 1) := by decide +kernel
theorem dX0_tellOfRing_1 : decode cX0_tellOfRing 1 = .ok (.getfield 29, 3) := by decide +kernel
theorem dX0_tellOfRing_4 : decode cX0_tellOfRing 4 = .ok (.iconst 0, 1) := by decide +kernel
theorem dX0_tellOfRing_5 : decode cX0_tellOfRing 5 = .ok (.iload_n 1, 1) := by decide +kernel
theorem dX0_tellOfRing_6 : decode cX0_tellOfRing 6 = .ok (.iastore, 1) := by decide +kernel
theorem dX0_tellOfRing_7 : decode cX0_tellOfRing 7 = .ok (.aload_n 0, 1) := by decide +kernel
theorem dX0_tellOfRing_8 : decode cX0_tellOfRing 8 = .ok (.getfield 29, 3) := by decide +kernel
theorem dX0_tellOfRing_11 : decode cX0_tellOfRing 11 = .ok (.iconst 2, 1) := by decide +kernel
theorem dX0_tellOfRing_12 : decode cX0_tellOfRing 12 = .ok (.aload_n 0, 1) := by decide +kernel
theorem dX0_tellOfRing_13 : decode cX0_tellOfRing 13 = .ok (.getfield 12, 3) := by decide +kernel
theorem dX0_tellOfRing_16 : decode cX0_tellOfRing 16 = .ok (.getfield 95, 3) := by decide +kernel
theorem dX0_tellOfRing_19 : decode cX0_tellOfRing 19 = .ok (.iload_n 1, 1) := by decide +kernel
theorem dX0_tellOfRing_20 : decode cX0_tellOfRing 20 = .ok (.iaload, 1) := by decide +kernel
theorem dX0_tellOfRing_21 : decode cX0_tellOfRing 21 = .ok (.iastore, 1) := by decide +kernel
theorem dX0_tellOfRing_22 : decode cX0_tellOfRing 22 = .ok (.aload_n 0, 1) := by decide +kernel
theorem dX0_tellOfRing_23 : decode cX0_tellOfRing 23 = .ok (.getfield 29, 3) := by decide +kernel
theorem dX0_tellOfRing_26 : decode cX0_tellOfRing 26 = .ok (.iconst 3, 1) := by decide +kernel
theorem dX0_tellOfRing_27 : decode cX0_tellOfRing 27 = .ok (.aload_n 0, 1) := by decide +kernel
theorem dX0_tellOfRing_28 : decode cX0_tellOfRing 28 = .ok (.getfield 12, 3) := by decide +kernel
theorem dX0_tellOfRing_31 : decode cX0_tellOfRing 31 = .ok (.getfield 98, 3) := by decide +kernel
theorem dX0_tellOfRing_34 : decode cX0_tellOfRing 34 = .ok (.iload_n 1, 1) := by decide +kernel
theorem dX0_tellOfRing_35 : decode cX0_tellOfRing 35 = .ok (.iaload, 1) := by decide +kernel
theorem dX0_tellOfRing_36 : decode cX0_tellOfRing 36 = .ok (.iastore, 1) := by decide +kernel
theorem dX0_tellOfRing_37 : decode cX0_tellOfRing 37 = .ok (.aload_n 0, 1) := by decide +kernel
theorem dX0_tellOfRing_38 : decode cX0_tellOfRing 38 = .ok (.getfield 29, 3) := by decide +kernel
theorem dX0_tellOfRing_41 : decode cX0_tellOfRing 41 = .ok (.iconst 5, 1) := by decide +kernel
theorem dX0_tellOfRing_42 : decode cX0_tellOfRing 42 = .ok (.aload_n 0, 1) := by decide +kernel
theorem dX0_tellOfRing_43 : decode cX0_tellOfRing 43 = .ok (.getfield 12, 3) := by decide +kernel
theorem dX0_tellOfRing_46 : decode cX0_tellOfRing 46 = .ok (.iload_n 1, 1) := by decide +kernel
theorem dX0_tellOfRing_47 : decode cX0_tellOfRing 47 = .ok (.invokevirtual 101, 3) := by decide +kernel
theorem dX0_tellOfRing_50 : decode cX0_tellOfRing 50 = .ok (.iastore, 1) := by decide +kernel
theorem dX0_tellOfRing_51 : decode cX0_tellOfRing 51 = .ok (.aload_n 0, 1) := by decide +kernel
theorem dX0_tellOfRing_52 : decode cX0_tellOfRing 52 = .ok (.getfield 29, 3) := by decide +kernel
theorem dX0_tellOfRing_55 : decode cX0_tellOfRing 55 = .ok (.bipush 7, 2) := by decide +kernel
theorem dX0_tellOfRing_57 : decode cX0_tellOfRing 57 = .ok (.aload_n 0, 1) := by decide +kernel
theorem dX0_tellOfRing_58 : decode cX0_tellOfRing 58 = .ok (.getfield 12, 3) := by decide +kernel
theorem dX0_tellOfRing_61 : decode cX0_tellOfRing 61 = .ok (.getfield 69, 3) := by decide +kernel
theorem dX0_tellOfRing_64 : decode cX0_tellOfRing 64 = .ok (.iastore, 1) := by decide +kernel
theorem dX0_tellOfRing_65 : decode cX0_tellOfRing 65 = .ok (.aload_n 0, 1) := by decide +kernel
theorem dX0_tellOfRing_66 : decode cX0_tellOfRing 66 = .ok (.getfield 29, 3) := by decide +kernel
theorem dX0_tellOfRing_69 : decode cX0_tellOfRing 69 = .ok (.bipush 8, 2) := by decide +kernel
theorem dX0_tellOfRing_71 : decode cX0_tellOfRing 71 = .ok (.aload_n 0, 1) := by decide +kernel
theorem dX0_tellOfRing_72 : decode cX0_tellOfRing 72 = .ok (.getfield 12, 3) := by decide +kernel
theorem dX0_tellOfRing_75 : decode cX0_tellOfRing 75 = .ok (.getfield 105, 3) := by decide +kernel
theorem dX0_tellOfRing_78 : decode cX0_tellOfRing 78 = .ok (.iastore, 1) := by decide +kernel
theorem dX0_tellOfRing_79 : decode cX0_tellOfRing 79 = .ok (.return_, 1) := by decide +kernel
theorem dX0_shareOf_0 : decode cX0_shareOf 0 = .ok (.iload_n 0, 1) := by decide +kernel
theorem dX0_shareOf_1 : decode cX0_shareOf 1 = .ok (.iload_n 1, 1) := by decide +kernel
theorem dX0_shareOf_2 : decode cX0_shareOf 2 = .ok (.imul, 1) := by decide +kernel
theorem dX0_shareOf_3 : decode cX0_shareOf 3 = .ok (.bipush 100, 2) := by decide +kernel
theorem dX0_shareOf_5 : decode cX0_shareOf 5 = .ok (.idiv, 1) := by decide +kernel
theorem dX0_shareOf_6 : decode cX0_shareOf 6 = .ok (.ireturn, 1) := by decide +kernel
theorem dX0_stick_0 : decode cX0_stick 0 = .ok (.aload_n 0, 1) := by decide +kernel
theorem dX0_stick_1 : decode cX0_stick 1 = .ok (.getfield 21, 3) := by decide +kernel
theorem dX0_stick_4 : decode cX0_stick 4 = .ok (.iconst 0, 1) := by decide +kernel
theorem dX0_stick_5 : decode cX0_stick 5 = .ok (.invokevirtual 72, 3) := by decide +kernel
theorem dX0_stick_8 : decode cX0_stick 8 = .ok (.ifCond .eq 4, 3) := by decide +kernel
theorem dX0_stick_11 : decode cX0_stick 11 = .ok (.return_, 1) := by decide +kernel
theorem dX0_stick_12 : decode cX0_stick 12 = .ok (.iconst 0, 1) := by decide +kernel
theorem dX0_stick_13 : decode cX0_stick 13 = .ok (.istore_n 1, 1) := by decide +kernel
theorem dX0_stick_14 : decode cX0_stick 14 = .ok (.iload_n 1, 1) := by decide +kernel
theorem dX0_stick_15 : decode cX0_stick 15 = .ok (.aload_n 0, 1) := by decide +kernel
theorem dX0_stick_16 : decode cX0_stick 16 = .ok (.getfield 12, 3) := by decide +kernel
theorem dX0_stick_19 : decode cX0_stick 19 = .ok (.getfield 108, 3) := by decide +kernel
theorem dX0_stick_22 : decode cX0_stick 22 = .ok (.if_icmp .ge 101, 3) := by decide +kernel
theorem dX0_stick_25 : decode cX0_stick 25 = .ok (.iconst 3, 1) := by decide +kernel
theorem dX0_stick_26 : decode cX0_stick 26 = .ok (.istore_n 2, 1) := by decide +kernel
theorem dX0_stick_27 : decode cX0_stick 27 = .ok (.iload_n 2, 1) := by decide +kernel
theorem dX0_stick_28 : decode cX0_stick 28 = .ok (.ifCond .lt 89, 3) := by decide +kernel
theorem dX0_stick_31 : decode cX0_stick 31 = .ok (.iload_n 1, 1) := by decide +kernel
theorem dX0_stick_32 : decode cX0_stick 32 = .ok (.iconst 5, 1) := by decide +kernel
theorem dX0_stick_33 : decode cX0_stick 33 = .ok (.imul, 1) := by decide +kernel
theorem dX0_stick_34 : decode cX0_stick 34 = .ok (.iload_n 2, 1) := by decide +kernel
theorem dX0_stick_35 : decode cX0_stick 35 = .ok (.iadd, 1) := by decide +kernel
theorem dX0_stick_36 : decode cX0_stick 36 = .ok (.istore_n 3, 1) := by decide +kernel
theorem dX0_stick_37 : decode cX0_stick 37 = .ok (.aload_n 0, 1) := by decide +kernel
theorem dX0_stick_38 : decode cX0_stick 38 = .ok (.getfield 12, 3) := by decide +kernel
theorem dX0_stick_41 : decode cX0_stick 41 = .ok (.getfield 80, 3) := by decide +kernel
theorem dX0_stick_44 : decode cX0_stick 44 = .ok (.iload_n 3, 1) := by decide +kernel
theorem dX0_stick_45 : decode cX0_stick 45 = .ok (.iaload, 1) := by decide +kernel
theorem dX0_stick_46 : decode cX0_stick 46 = .ok (.ifCond .gt 10, 3) := by decide +kernel
theorem dX0_stick_49 : decode cX0_stick 49 = .ok (.aload_n 0, 1) := by decide +kernel
theorem dX0_stick_50 : decode cX0_stick 50 = .ok (.getfield 111, 3) := by decide +kernel
theorem dX0_stick_53 : decode cX0_stick 53 = .ok (.ifCond .le 58, 3) := by decide +kernel
theorem dX0_stick_56 : decode cX0_stick 56 = .ok (.aload_n 0, 1) := by decide +kernel
theorem dX0_stick_57 : decode cX0_stick 57 = .ok (.getfield 12, 3) := by decide +kernel
theorem dX0_stick_60 : decode cX0_stick 60 = .ok (.getfield 80, 3) := by decide +kernel
theorem dX0_stick_63 : decode cX0_stick 63 = .ok (.iload_n 3, 1) := by decide +kernel
theorem dX0_stick_64 : decode cX0_stick 64 = .ok (.iaload, 1) := by decide +kernel
theorem dX0_stick_65 : decode cX0_stick 65 = .ok (.aload_n 0, 1) := by decide +kernel
theorem dX0_stick_66 : decode cX0_stick 66 = .ok (.aload_n 0, 1) := by decide +kernel
theorem dX0_stick_67 : decode cX0_stick 67 = .ok (.iconst 0, 1) := by decide +kernel
theorem dX0_stick_68 : decode cX0_stick 68 = .ok (.iload_n 1, 1) := by decide +kernel
theorem dX0_stick_69 : decode cX0_stick 69 = .ok (.iload_n 2, 1) := by decide +kernel
theorem dX0_stick_70 : decode cX0_stick 70 = .ok (.invokevirtual 114, 3) := by decide +kernel
theorem dX0_stick_73 : decode cX0_stick 73 = .ok (.invokevirtual 118, 3) := by decide +kernel
theorem dX0_stick_76 : decode cX0_stick 76 = .ok (.invokestatic 121, 3) := by decide +kernel
theorem dX0_stick_79 : decode cX0_stick 79 = .ok (.istore 4, 2) := by decide +kernel
theorem dX0_stick_81 : decode cX0_stick 81 = .ok (.aload_n 0, 1) := by decide +kernel
theorem dX0_stick_82 : decode cX0_stick 82 = .ok (.getfield 12, 3) := by decide +kernel
theorem dX0_stick_85 : decode cX0_stick 85 = .ok (.getfield 80, 3) := by decide +kernel
theorem dX0_stick_88 : decode cX0_stick 88 = .ok (.iload_n 3, 1) := by decide +kernel
theorem dX0_stick_89 : decode cX0_stick 89 = .ok (.dup2, 1) := by decide +kernel
theorem dX0_stick_90 : decode cX0_stick 90 = .ok (.iaload, 1) := by decide +kernel
theorem dX0_stick_91 : decode cX0_stick 91 = .ok (.iload 4, 2) := by decide +kernel
theorem dX0_stick_93 : decode cX0_stick 93 = .ok (.isub, 1) := by decide +kernel
theorem dX0_stick_94 : decode cX0_stick 94 = .ok (.iastore, 1) := by decide +kernel
theorem dX0_stick_95 : decode cX0_stick 95 = .ok (.aload_n 0, 1) := by decide +kernel
theorem dX0_stick_96 : decode cX0_stick 96 = .ok (.getfield 12, 3) := by decide +kernel
theorem dX0_stick_99 : decode cX0_stick 99 = .ok (.getfield 80, 3) := by decide +kernel
theorem dX0_stick_102 : decode cX0_stick 102 = .ok (.iload_n 3, 1) := by decide +kernel
theorem dX0_stick_103 : decode cX0_stick 103 = .ok (.iconst 1, 1) := by decide +kernel
theorem dX0_stick_104 : decode cX0_stick 104 = .ok (.iadd, 1) := by decide +kernel
theorem dX0_stick_105 : decode cX0_stick 105 = .ok (.dup2, 1) := by decide +kernel
theorem dX0_stick_106 : decode cX0_stick 106 = .ok (.iaload, 1) := by decide +kernel
theorem dX0_stick_107 : decode cX0_stick 107 = .ok (.iload 4, 2) := by decide +kernel
theorem dX0_stick_109 : decode cX0_stick 109 = .ok (.iadd, 1) := by decide +kernel
theorem dX0_stick_110 : decode cX0_stick 110 = .ok (.iastore, 1) := by decide +kernel
theorem dX0_stick_111 : decode cX0_stick 111 = .ok (.iinc 2 (-1), 3) := by decide +kernel
theorem dX0_stick_114 : decode cX0_stick 114 = .ok (.goto (-87), 3) := by decide +kernel
theorem dX0_stick_117 : decode cX0_stick 117 = .ok (.iinc 1 1, 3) := by decide +kernel
theorem dX0_stick_120 : decode cX0_stick 120 = .ok (.goto (-106), 3) := by decide +kernel
theorem dX0_stick_123 : decode cX0_stick 123 = .ok (.return_, 1) := by decide +kernel
theorem dX0_luckyNumber_0 : decode cX0_luckyNumber 0 = .ok (.iload_n 1, 1) := by decide +kernel
theorem dX0_luckyNumber_1 : decode cX0_luckyNumber 1 = .ok (.iconst (-1), 1) := by decide +kernel
theorem dX0_luckyNumber_2 : decode cX0_luckyNumber 2 = .ok (.if_icmp .ne 5, 3) := by decide +kernel
theorem dX0_luckyNumber_5 : decode cX0_luckyNumber 5 = .ok (.iconst 0, 1) := by decide +kernel
theorem dX0_luckyNumber_6 : decode cX0_luckyNumber 6 = .ok (.ireturn, 1) := by decide +kernel
theorem dX0_luckyNumber_7 : decode cX0_luckyNumber 7 = .ok (.aload_n 0, 1) := by decide +kernel
theorem dX0_luckyNumber_8 : decode cX0_luckyNumber 8 = .ok (.getfield 111, 3) := by decide +kernel
theorem dX0_luckyNumber_11 : decode cX0_luckyNumber 11 = .ok (.ifCond .ne 5, 3) := by decide +kernel
theorem dX0_luckyNumber_14 : decode cX0_luckyNumber 14 = .ok (.iload_n 1, 1) := by decide +kernel
theorem dX0_luckyNumber_15 : decode cX0_luckyNumber 15 = .ok (.ireturn, 1) := by decide +kernel
theorem dX0_luckyNumber_16 : decode cX0_luckyNumber 16 = .ok (.iload_n 1, 1) := by decide +kernel
theorem dX0_luckyNumber_17 : decode cX0_luckyNumber 17 = .ok (.aload_n 0, 1) := by decide +kernel
theorem dX0_luckyNumber_18 : decode cX0_luckyNumber 18 = .ok (.getfield 12, 3) := by decide +kernel
theorem dX0_luckyNumber_21 : decode cX0_luckyNumber 21 = .ok (.invokevirtual 125, 3) := by decide +kernel
theorem dX0_luckyNumber_24 : decode cX0_luckyNumber 24 = .ok (.iconst 2, 1) := by decide +kernel
theorem dX0_luckyNumber_25 : decode cX0_luckyNumber 25 = .ok (.aload_n 0, 1) := by decide +kernel
theorem dX0_luckyNumber_26 : decode cX0_luckyNumber 26 = .ok (.getfield 111, 3) := by decide +kernel
theorem dX0_luckyNumber_29 : decode cX0_luckyNumber 29 = .ok (.imul, 1) := by decide +kernel
theorem dX0_luckyNumber_30 : decode cX0_luckyNumber 30 = .ok (.iconst 1, 1) := by decide +kernel
theorem dX0_luckyNumber_31 : decode cX0_luckyNumber 31 = .ok (.iadd, 1) := by decide +kernel
theorem dX0_luckyNumber_32 : decode cX0_luckyNumber 32 = .ok (.irem, 1) := by decide +kernel
theorem dX0_luckyNumber_33 : decode cX0_luckyNumber 33 = .ok (.iadd, 1) := by decide +kernel
theorem dX0_luckyNumber_34 : decode cX0_luckyNumber 34 = .ok (.aload_n 0, 1) := by decide +kernel
theorem dX0_luckyNumber_35 : decode cX0_luckyNumber 35 = .ok (.getfield 111, 3) := by decide +kernel
theorem dX0_luckyNumber_38 : decode cX0_luckyNumber 38 = .ok (.isub, 1) := by decide +kernel
theorem dX0_luckyNumber_39 : decode cX0_luckyNumber 39 = .ok (.istore_n 2, 1) := by decide +kernel
theorem dX0_luckyNumber_40 : decode cX0_luckyNumber 40 = .ok (.iconst 0, 1) := by decide +kernel
theorem dX0_luckyNumber_41 : decode cX0_luckyNumber 41 = .ok (.bipush 100, 2) := by decide +kernel
theorem dX0_luckyNumber_43 : decode cX0_luckyNumber 43 = .ok (.iload_n 2, 1) := by decide +kernel
theorem dX0_luckyNumber_44 : decode cX0_luckyNumber 44 = .ok (.invokestatic 129, 3) := by decide +kernel
theorem dX0_luckyNumber_47 : decode cX0_luckyNumber 47 = .ok (.invokestatic 134, 3) := by decide +kernel
theorem dX0_luckyNumber_50 : decode cX0_luckyNumber 50 = .ok (.ireturn, 1) := by decide +kernel
theorem dX0_breakUp_0 : decode cX0_breakUp 0 = .ok (.aload_n 0, 1) := by decide +kernel
theorem dX0_breakUp_1 : decode cX0_breakUp 1 = .ok (.getfield 21, 3) := by decide +kernel
theorem dX0_breakUp_4 : decode cX0_breakUp 4 = .ok (.iconst 1, 1) := by decide +kernel
theorem dX0_breakUp_5 : decode cX0_breakUp 5 = .ok (.invokevirtual 72, 3) := by decide +kernel
theorem dX0_breakUp_8 : decode cX0_breakUp 8 = .ok (.ifCond .eq 4, 3) := by decide +kernel
theorem dX0_breakUp_11 : decode cX0_breakUp 11 = .ok (.return_, 1) := by decide +kernel
theorem dX0_breakUp_12 : decode cX0_breakUp 12 = .ok (.iconst 0, 1) := by decide +kernel
theorem dX0_breakUp_13 : decode cX0_breakUp 13 = .ok (.istore_n 1, 1) := by decide +kernel
theorem dX0_breakUp_14 : decode cX0_breakUp 14 = .ok (.iload_n 1, 1) := by decide +kernel
theorem dX0_breakUp_15 : decode cX0_breakUp 15 = .ok (.aload_n 0, 1) := by decide +kernel
theorem dX0_breakUp_16 : decode cX0_breakUp 16 = .ok (.getfield 12, 3) := by decide +kernel
theorem dX0_breakUp_19 : decode cX0_breakUp 19 = .ok (.getfield 108, 3) := by decide +kernel
theorem dX0_breakUp_22 : decode cX0_breakUp 22 = .ok (.if_icmp .ge 105, 3) := by decide +kernel
theorem dX0_breakUp_25 : decode cX0_breakUp 25 = .ok (.iconst 1, 1) := by decide +kernel
theorem dX0_breakUp_26 : decode cX0_breakUp 26 = .ok (.istore_n 2, 1) := by decide +kernel
theorem dX0_breakUp_27 : decode cX0_breakUp 27 = .ok (.iload_n 2, 1) := by decide +kernel
theorem dX0_breakUp_28 : decode cX0_breakUp 28 = .ok (.iconst 5, 1) := by decide +kernel
theorem dX0_breakUp_29 : decode cX0_breakUp 29 = .ok (.if_icmp .ge 92, 3) := by decide +kernel
theorem dX0_breakUp_32 : decode cX0_breakUp 32 = .ok (.iload_n 1, 1) := by decide +kernel
theorem dX0_breakUp_33 : decode cX0_breakUp 33 = .ok (.iconst 5, 1) := by decide +kernel
theorem dX0_breakUp_34 : decode cX0_breakUp 34 = .ok (.imul, 1) := by decide +kernel
theorem dX0_breakUp_35 : decode cX0_breakUp 35 = .ok (.iload_n 2, 1) := by decide +kernel
theorem dX0_breakUp_36 : decode cX0_breakUp 36 = .ok (.iadd, 1) := by decide +kernel
theorem dX0_breakUp_37 : decode cX0_breakUp 37 = .ok (.istore_n 3, 1) := by decide +kernel
theorem dX0_breakUp_38 : decode cX0_breakUp 38 = .ok (.aload_n 0, 1) := by decide +kernel
theorem dX0_breakUp_39 : decode cX0_breakUp 39 = .ok (.getfield 12, 3) := by decide +kernel
theorem dX0_breakUp_42 : decode cX0_breakUp 42 = .ok (.getfield 80, 3) := by decide +kernel
theorem dX0_breakUp_45 : decode cX0_breakUp 45 = .ok (.iload_n 3, 1) := by decide +kernel
theorem dX0_breakUp_46 : decode cX0_breakUp 46 = .ok (.iaload, 1) := by decide +kernel
theorem dX0_breakUp_47 : decode cX0_breakUp 47 = .ok (.ifCond .le 13, 3) := by decide +kernel
theorem dX0_breakUp_50 : decode cX0_breakUp 50 = .ok (.aload_n 0, 1) := by decide +kernel
theorem dX0_breakUp_51 : decode cX0_breakUp 51 = .ok (.iconst 1, 1) := by decide +kernel
theorem dX0_breakUp_52 : decode cX0_breakUp 52 = .ok (.iload_n 1, 1) := by decide +kernel
theorem dX0_breakUp_53 : decode cX0_breakUp 53 = .ok (.iload_n 2, 1) := by decide +kernel
theorem dX0_breakUp_54 : decode cX0_breakUp 54 = .ok (.invokevirtual 114, 3) := by decide +kernel
theorem dX0_breakUp_57 : decode cX0_breakUp 57 = .ok (.goto 4, 3) := by decide +kernel
theorem dX0_breakUp_60 : decode cX0_breakUp 60 = .ok (.iconst (-1), 1) := by decide +kernel
theorem dX0_breakUp_61 : decode cX0_breakUp 61 = .ok (.istore 4, 2) := by decide +kernel
theorem dX0_breakUp_63 : decode cX0_breakUp 63 = .ok (.iload 4, 2) := by decide +kernel
theorem dX0_breakUp_65 : decode cX0_breakUp 65 = .ok (.iconst (-1), 1) := by decide +kernel
theorem dX0_breakUp_66 : decode cX0_breakUp 66 = .ok (.if_icmp .eq 49, 3) := by decide +kernel
theorem dX0_breakUp_69 : decode cX0_breakUp 69 = .ok (.aload_n 0, 1) := by decide +kernel
theorem dX0_breakUp_70 : decode cX0_breakUp 70 = .ok (.getfield 12, 3) := by decide +kernel
theorem dX0_breakUp_73 : decode cX0_breakUp 73 = .ok (.getfield 80, 3) := by decide +kernel
theorem dX0_breakUp_76 : decode cX0_breakUp 76 = .ok (.iload_n 3, 1) := by decide +kernel
theorem dX0_breakUp_77 : decode cX0_breakUp 77 = .ok (.iaload, 1) := by decide +kernel
theorem dX0_breakUp_78 : decode cX0_breakUp 78 = .ok (.iload 4, 2) := by decide +kernel
theorem dX0_breakUp_80 : decode cX0_breakUp 80 = .ok (.invokestatic 121, 3) := by decide +kernel
theorem dX0_breakUp_83 : decode cX0_breakUp 83 = .ok (.istore 5, 2) := by decide +kernel
theorem dX0_breakUp_85 : decode cX0_breakUp 85 = .ok (.aload_n 0, 1) := by decide +kernel
theorem dX0_breakUp_86 : decode cX0_breakUp 86 = .ok (.getfield 12, 3) := by decide +kernel
theorem dX0_breakUp_89 : decode cX0_breakUp 89 = .ok (.getfield 80, 3) := by decide +kernel
theorem dX0_breakUp_92 : decode cX0_breakUp 92 = .ok (.iload_n 3, 1) := by decide +kernel
theorem dX0_breakUp_93 : decode cX0_breakUp 93 = .ok (.dup2, 1) := by decide +kernel
theorem dX0_breakUp_94 : decode cX0_breakUp 94 = .ok (.iaload, 1) := by decide +kernel
theorem dX0_breakUp_95 : decode cX0_breakUp 95 = .ok (.iload 5, 2) := by decide +kernel
theorem dX0_breakUp_97 : decode cX0_breakUp 97 = .ok (.isub, 1) := by decide +kernel
theorem dX0_breakUp_98 : decode cX0_breakUp 98 = .ok (.iastore, 1) := by decide +kernel
theorem dX0_breakUp_99 : decode cX0_breakUp 99 = .ok (.aload_n 0, 1) := by decide +kernel
theorem dX0_breakUp_100 : decode cX0_breakUp 100 = .ok (.getfield 12, 3) := by decide +kernel
theorem dX0_breakUp_103 : decode cX0_breakUp 103 = .ok (.getfield 80, 3) := by decide +kernel
theorem dX0_breakUp_106 : decode cX0_breakUp 106 = .ok (.iload_n 1, 1) := by decide +kernel
theorem dX0_breakUp_107 : decode cX0_breakUp 107 = .ok (.iconst 5, 1) := by decide +kernel
theorem dX0_breakUp_108 : decode cX0_breakUp 108 = .ok (.imul, 1) := by decide +kernel
theorem dX0_breakUp_109 : decode cX0_breakUp 109 = .ok (.dup2, 1) := by decide +kernel
theorem dX0_breakUp_110 : decode cX0_breakUp 110 = .ok (.iaload, 1) := by decide +kernel
theorem dX0_breakUp_111 : decode cX0_breakUp 111 = .ok (.iload 5, 2) := by decide +kernel
theorem dX0_breakUp_113 : decode cX0_breakUp 113 = .ok (.iadd, 1) := by decide +kernel
theorem dX0_breakUp_114 : decode cX0_breakUp 114 = .ok (.iastore, 1) := by decide +kernel
theorem dX0_breakUp_115 : decode cX0_breakUp 115 = .ok (.iinc 2 1, 3) := by decide +kernel
theorem dX0_breakUp_118 : decode cX0_breakUp 118 = .ok (.goto (-91), 3) := by decide +kernel
theorem dX0_breakUp_121 : decode cX0_breakUp 121 = .ok (.iinc 1 1, 3) := by decide +kernel
theorem dX0_breakUp_124 : decode cX0_breakUp 124 = .ok (.goto (-110), 3) := by decide +kernel
theorem dX0_breakUp_127 : decode cX0_breakUp 127 = .ok (.return_, 1) := by decide +kernel
theorem dX0_findGaps_0 : decode cX0_findGaps 0 = .ok (.iconst 0, 1) := by decide +kernel
theorem dX0_findGaps_1 : decode cX0_findGaps 1 = .ok (.istore_n 1, 1) := by decide +kernel
theorem dX0_findGaps_2 : decode cX0_findGaps 2 = .ok (.iload_n 1, 1) := by decide +kernel
theorem dX0_findGaps_3 : decode cX0_findGaps 3 = .ok (.bipush 12, 2) := by decide +kernel
theorem dX0_findGaps_5 : decode cX0_findGaps 5 = .ok (.if_icmp .ge 16, 3) := by decide +kernel
theorem dX0_findGaps_8 : decode cX0_findGaps 8 = .ok (.aload_n 0, 1) := by decide +kernel
theorem dX0_findGaps_9 : decode cX0_findGaps 9 = .ok (.getfield 36, 3) := by decide +kernel
theorem dX0_findGaps_12 : decode cX0_findGaps 12 = .ok (.iload_n 1, 1) := by decide +kernel
theorem dX0_findGaps_13 : decode cX0_findGaps 13 = .ok (.iconst 5, 1) := by decide +kernel
theorem dX0_findGaps_14 : decode cX0_findGaps 14 = .ok (.iastore, 1) := by decide +kernel
theorem dX0_findGaps_15 : decode cX0_findGaps 15 = .ok (.iinc 1 1, 3) := by decide +kernel
theorem dX0_findGaps_18 : decode cX0_findGaps 18 = .ok (.goto (-16), 3) := by decide +kernel
theorem dX0_findGaps_21 : decode cX0_findGaps 21 = .ok (.aload_n 0, 1) := by decide +kernel
theorem dX0_findGaps_22 : decode cX0_findGaps 22 = .ok (.getfield 21, 3) := by decide +kernel
theorem dX0_findGaps_25 : decode cX0_findGaps 25 = .ok (.bipush 7, 2) := by decide +kernel
theorem dX0_findGaps_27 : decode cX0_findGaps 27 = .ok (.invokevirtual 72, 3) := by decide +kernel
theorem dX0_findGaps_30 : decode cX0_findGaps 30 = .ok (.ifCond .ne 14, 3) := by decide +kernel
theorem dX0_findGaps_33 : decode cX0_findGaps 33 = .ok (.aload_n 0, 1) := by decide +kernel
theorem dX0_findGaps_34 : decode cX0_findGaps 34 = .ok (.getfield 21, 3) := by decide +kernel
theorem dX0_findGaps_37 : decode cX0_findGaps 37 = .ok (.iconst 2, 1) := by decide +kernel
theorem dX0_findGaps_38 : decode cX0_findGaps 38 = .ok (.invokevirtual 72, 3) := by decide +kernel
theorem dX0_findGaps_41 : decode cX0_findGaps 41 = .ok (.ifCond .eq 4, 3) := by decide +kernel
theorem dX0_findGaps_44 : decode cX0_findGaps 44 = .ok (.return_, 1) := by decide +kernel
theorem dX0_findGaps_45 : decode cX0_findGaps 45 = .ok (.iconst 0, 1) := by decide +kernel
theorem dX0_findGaps_46 : decode cX0_findGaps 46 = .ok (.istore_n 1, 1) := by decide +kernel
theorem dX0_findGaps_47 : decode cX0_findGaps 47 = .ok (.iload_n 1, 1) := by decide +kernel
theorem dX0_findGaps_48 : decode cX0_findGaps 48 = .ok (.aload_n 0, 1) := by decide +kernel
theorem dX0_findGaps_49 : decode cX0_findGaps 49 = .ok (.getfield 12, 3) := by decide +kernel
theorem dX0_findGaps_52 : decode cX0_findGaps 52 = .ok (.getfield 137, 3) := by decide +kernel
theorem dX0_findGaps_55 : decode cX0_findGaps 55 = .ok (.if_icmp .ge 66, 3) := by decide +kernel
theorem dX0_findGaps_58 : decode cX0_findGaps 58 = .ok (.aload_n 0, 1) := by decide +kernel
theorem dX0_findGaps_59 : decode cX0_findGaps 59 = .ok (.getfield 12, 3) := by decide +kernel
theorem dX0_findGaps_62 : decode cX0_findGaps 62 = .ok (.getfield 140, 3) := by decide +kernel
theorem dX0_findGaps_65 : decode cX0_findGaps 65 = .ok (.iload_n 1, 1) := by decide +kernel
theorem dX0_findGaps_66 : decode cX0_findGaps 66 = .ok (.aaload, 1) := by decide +kernel
theorem dX0_findGaps_67 : decode cX0_findGaps 67 = .ok (.astore_n 2, 1) := by decide +kernel
theorem dX0_findGaps_68 : decode cX0_findGaps 68 = .ok (.aload_n 2, 1) := by decide +kernel
theorem dX0_findGaps_69 : decode cX0_findGaps 69 = .ok (.getfield 144, 3) := by decide +kernel
theorem dX0_findGaps_72 : decode cX0_findGaps 72 = .ok (.ifCond .ne 13, 3) := by decide +kernel
theorem dX0_findGaps_75 : decode cX0_findGaps 75 = .ok (.aload_n 0, 1) := by decide +kernel
theorem dX0_findGaps_76 : decode cX0_findGaps 76 = .ok (.bipush 7, 2) := by decide +kernel
theorem dX0_findGaps_78 : decode cX0_findGaps 78 = .ok (.aload_n 2, 1) := by decide +kernel
theorem dX0_findGaps_79 : decode cX0_findGaps 79 = .ok (.invokevirtual 147, 3) := by decide +kernel
theorem dX0_findGaps_82 : decode cX0_findGaps 82 = .ok (.goto 4, 3) := by decide +kernel
theorem dX0_findGaps_85 : decode cX0_findGaps 85 = .ok (.iconst (-1), 1) := by decide +kernel
theorem dX0_findGaps_86 : decode cX0_findGaps 86 = .ok (.istore_n 3, 1) := by decide +kernel
theorem dX0_findGaps_87 : decode cX0_findGaps 87 = .ok (.iload_n 3, 1) := by decide +kernel
theorem dX0_findGaps_88 : decode cX0_findGaps 88 = .ok (.iconst (-1), 1) := by decide +kernel
theorem dX0_findGaps_89 : decode cX0_findGaps 89 = .ok (.if_icmp .eq 26, 3) := by decide +kernel
theorem dX0_findGaps_92 : decode cX0_findGaps 92 = .ok (.iload_n 3, 1) := by decide +kernel
theorem dX0_findGaps_93 : decode cX0_findGaps 93 = .ok (.aload_n 0, 1) := by decide +kernel
theorem dX0_findGaps_94 : decode cX0_findGaps 94 = .ok (.getfield 36, 3) := by decide +kernel
theorem dX0_findGaps_97 : decode cX0_findGaps 97 = .ok (.aload_n 2, 1) := by decide +kernel
theorem dX0_findGaps_98 : decode cX0_findGaps 98 = .ok (.getfield 87, 3) := by decide +kernel
theorem dX0_findGaps_101 : decode cX0_findGaps 101 = .ok (.iaload, 1) := by decide +kernel
theorem dX0_findGaps_102 : decode cX0_findGaps 102 = .ok (.if_icmp .ge 13, 3) := by decide +kernel
theorem dX0_findGaps_105 : decode cX0_findGaps 105 = .ok (.aload_n 0, 1) := by decide +kernel
theorem dX0_findGaps_106 : decode cX0_findGaps 106 = .ok (.getfield 36, 3) := by decide +kernel
theorem dX0_findGaps_109 : decode cX0_findGaps 109 = .ok (.aload_n 2, 1) := by decide +kernel
theorem dX0_findGaps_110 : decode cX0_findGaps 110 = .ok (.getfield 87, 3) := by decide +kernel
theorem dX0_findGaps_113 : decode cX0_findGaps 113 = .ok (.iload_n 3, 1) := by decide +kernel
theorem dX0_findGaps_114 : decode cX0_findGaps 114 = .ok (.iastore, 1) := by decide +kernel
theorem dX0_findGaps_115 : decode cX0_findGaps 115 = .ok (.iinc 1 1, 3) := by decide +kernel
theorem dX0_findGaps_118 : decode cX0_findGaps 118 = .ok (.goto (-71), 3) := by decide +kernel
theorem dX0_findGaps_121 : decode cX0_findGaps 121 = .ok (.return_, 1) := by decide +kernel
theorem dX0_drift_0 : decode cX0_drift 0 = .ok (.aload_n 0, 1) := by decide +kernel
theorem dX0_drift_1 : decode cX0_drift 1 = .ok (.getfield 21, 3) := by decide +kernel
theorem dX0_drift_4 : decode cX0_drift 4 = .ok (.iconst 2, 1) := by decide +kernel
theorem dX0_drift_5 : decode cX0_drift 5 = .ok (.invokevirtual 72, 3) := by decide +kernel
theorem dX0_drift_8 : decode cX0_drift 8 = .ok (.ifCond .eq 4, 3) := by decide +kernel
theorem dX0_drift_11 : decode cX0_drift 11 = .ok (.return_, 1) := by decide +kernel
theorem dX0_drift_12 : decode cX0_drift 12 = .ok (.iconst 0, 1) := by decide +kernel
theorem dX0_drift_13 : decode cX0_drift 13 = .ok (.istore_n 1, 1) := by decide +kernel
theorem dX0_drift_14 : decode cX0_drift 14 = .ok (.iload_n 1, 1) := by decide +kernel
theorem dX0_drift_15 : decode cX0_drift 15 = .ok (.aload_n 0, 1) := by decide +kernel
theorem dX0_drift_16 : decode cX0_drift 16 = .ok (.getfield 12, 3) := by decide +kernel
theorem dX0_drift_19 : decode cX0_drift 19 = .ok (.getfield 108, 3) := by decide +kernel
theorem dX0_drift_22 : decode cX0_drift 22 = .ok (.if_icmp .ge 144, 3) := by decide +kernel
theorem dX0_drift_25 : decode cX0_drift 25 = .ok (.aload_n 0, 1) := by decide +kernel
theorem dX0_drift_26 : decode cX0_drift 26 = .ok (.getfield 12, 3) := by decide +kernel
theorem dX0_drift_29 : decode cX0_drift 29 = .ok (.iload_n 1, 1) := by decide +kernel
theorem dX0_drift_30 : decode cX0_drift 30 = .ok (.invokevirtual 151, 3) := by decide +kernel
theorem dX0_drift_33 : decode cX0_drift 33 = .ok (.istore_n 2, 1) := by decide +kernel
theorem dX0_drift_34 : decode cX0_drift 34 = .ok (.iload_n 2, 1) := by decide +kernel
theorem dX0_drift_35 : decode cX0_drift 35 = .ok (.iload_n 1, 1) := by decide +kernel
theorem dX0_drift_36 : decode cX0_drift 36 = .ok (.if_icmp .ge 17, 3) := by decide +kernel
theorem dX0_drift_39 : decode cX0_drift 39 = .ok (.iload_n 2, 1) := by decide +kernel
theorem dX0_drift_40 : decode cX0_drift 40 = .ok (.iconst (-1), 1) := by decide +kernel
theorem dX0_drift_41 : decode cX0_drift 41 = .ok (.if_icmp .eq 12, 3) := by decide +kernel
theorem dX0_drift_44 : decode cX0_drift 44 = .ok (.aload_n 0, 1) := by decide +kernel
theorem dX0_drift_45 : decode cX0_drift 45 = .ok (.getfield 36, 3) := by decide +kernel
theorem dX0_drift_48 : decode cX0_drift 48 = .ok (.iload_n 2, 1) := by decide +kernel
theorem dX0_drift_49 : decode cX0_drift 49 = .ok (.iaload, 1) := by decide +kernel
theorem dX0_drift_50 : decode cX0_drift 50 = .ok (.goto 4, 3) := by decide +kernel
theorem dX0_drift_53 : decode cX0_drift 53 = .ok (.iconst 5, 1) := by decide +kernel
theorem dX0_drift_54 : decode cX0_drift 54 = .ok (.istore_n 3, 1) := by decide +kernel
theorem dX0_drift_55 : decode cX0_drift 55 = .ok (.iconst 0, 1) := by decide +kernel
theorem dX0_drift_56 : decode cX0_drift 56 = .ok (.istore 4, 2) := by decide +kernel
theorem dX0_drift_58 : decode cX0_drift 58 = .ok (.iload 4, 2) := by decide +kernel
theorem dX0_drift_60 : decode cX0_drift 60 = .ok (.iconst 5, 1) := by decide +kernel
theorem dX0_drift_61 : decode cX0_drift 61 = .ok (.if_icmp .ge 99, 3) := by decide +kernel
theorem dX0_drift_64 : decode cX0_drift 64 = .ok (.iload_n 1, 1) := by decide +kernel
theorem dX0_drift_65 : decode cX0_drift 65 = .ok (.iconst 5, 1) := by decide +kernel
theorem dX0_drift_66 : decode cX0_drift 66 = .ok (.imul, 1) := by decide +kernel
theorem dX0_drift_67 : decode cX0_drift 67 = .ok (.iload 4, 2) := by decide +kernel
theorem dX0_drift_69 : decode cX0_drift 69 = .ok (.iadd, 1) := by decide +kernel
theorem dX0_drift_70 : decode cX0_drift 70 = .ok (.istore 5, 2) := by decide +kernel
theorem dX0_drift_72 : decode cX0_drift 72 = .ok (.iload_n 2, 1) := by decide +kernel
theorem dX0_drift_73 : decode cX0_drift 73 = .ok (.iload_n 1, 1) := by decide +kernel
theorem dX0_drift_74 : decode cX0_drift 74 = .ok (.if_icmp .eq 22, 3) := by decide +kernel
theorem dX0_drift_77 : decode cX0_drift 77 = .ok (.iload 4, 2) := by decide +kernel
theorem dX0_drift_79 : decode cX0_drift 79 = .ok (.iload_n 3, 1) := by decide +kernel
theorem dX0_drift_80 : decode cX0_drift 80 = .ok (.if_icmp .ge 16, 3) := by decide +kernel
theorem dX0_drift_83 : decode cX0_drift 83 = .ok (.aload_n 0, 1) := by decide +kernel
theorem dX0_drift_84 : decode cX0_drift 84 = .ok (.getfield 12, 3) := by decide +kernel
theorem dX0_drift_87 : decode cX0_drift 87 = .ok (.getfield 80, 3) := by decide +kernel
theorem dX0_drift_90 : decode cX0_drift 90 = .ok (.iload 5, 2) := by decide +kernel
theorem dX0_drift_92 : decode cX0_drift 92 = .ok (.iaload, 1) := by decide +kernel
theorem dX0_drift_93 : decode cX0_drift 93 = .ok (.ifCond .ne 7, 3) := by decide +kernel
theorem dX0_drift_96 : decode cX0_drift 96 = .ok (.iconst 1, 1) := by decide +kernel
theorem dX0_drift_97 : decode cX0_drift 97 = .ok (.goto 4, 3) := by decide +kernel
theorem dX0_drift_100 : decode cX0_drift 100 = .ok (.iconst 0, 1) := by decide +kernel
theorem dX0_drift_101 : decode cX0_drift 101 = .ok (.istore 6, 2) := by decide +kernel
theorem dX0_drift_103 : decode cX0_drift 103 = .ok (.iload 6, 2) := by decide +kernel
theorem dX0_drift_105 : decode cX0_drift 105 = .ok (.ifCond .eq 7, 3) := by decide +kernel
theorem dX0_drift_108 : decode cX0_drift 108 = .ok (.iconst (-1), 1) := by decide +kernel
theorem dX0_drift_109 : decode cX0_drift 109 = .ok (.goto 11, 3) := by decide +kernel
theorem dX0_drift_112 : decode cX0_drift 112 = .ok (.aload_n 0, 1) := by decide +kernel
theorem dX0_drift_113 : decode cX0_drift 113 = .ok (.iconst 2, 1) := by decide +kernel
theorem dX0_drift_114 : decode cX0_drift 114 = .ok (.iload_n 1, 1) := by decide +kernel
theorem dX0_drift_115 : decode cX0_drift 115 = .ok (.iload 4, 2) := by decide +kernel
theorem dX0_drift_117 : decode cX0_drift 117 = .ok (.invokevirtual 114, 3) := by decide +kernel
theorem dX0_drift_120 : decode cX0_drift 120 = .ok (.istore 7, 2) := by decide +kernel
theorem dX0_drift_122 : decode cX0_drift 122 = .ok (.aload_n 0, 1) := by decide +kernel
theorem dX0_drift_123 : decode cX0_drift 123 = .ok (.getfield 33, 3) := by decide +kernel
theorem dX0_drift_126 : decode cX0_drift 126 = .ok (.iload 5, 2) := by decide +kernel
theorem dX0_drift_128 : decode cX0_drift 128 = .ok (.iload 7, 2) := by decide +kernel
theorem dX0_drift_130 : decode cX0_drift 130 = .ok (.iconst (-1), 1) := by decide +kernel
theorem dX0_drift_131 : decode cX0_drift 131 = .ok (.if_icmp .ne 7, 3) := by decide +kernel
theorem dX0_drift_134 : decode cX0_drift 134 = .ok (.iconst 0, 1) := by decide +kernel
theorem dX0_drift_135 : decode cX0_drift 135 = .ok (.goto 18, 3) := by decide +kernel
theorem dX0_drift_138 : decode cX0_drift 138 = .ok (.aload_n 0, 1) := by decide +kernel
theorem dX0_drift_139 : decode cX0_drift 139 = .ok (.getfield 12, 3) := by decide +kernel
theorem dX0_drift_142 : decode cX0_drift 142 = .ok (.getfield 80, 3) := by decide +kernel
theorem dX0_drift_145 : decode cX0_drift 145 = .ok (.iload 5, 2) := by decide +kernel
theorem dX0_drift_147 : decode cX0_drift 147 = .ok (.iaload, 1) := by decide +kernel
theorem dX0_drift_148 : decode cX0_drift 148 = .ok (.iload 7, 2) := by decide +kernel
theorem dX0_drift_150 : decode cX0_drift 150 = .ok (.invokestatic 121, 3) := by decide +kernel
theorem dX0_drift_153 : decode cX0_drift 153 = .ok (.iastore, 1) := by decide +kernel
theorem dX0_drift_154 : decode cX0_drift 154 = .ok (.iinc 4 1, 3) := by decide +kernel
theorem dX0_drift_157 : decode cX0_drift 157 = .ok (.goto (-99), 3) := by decide +kernel
theorem dX0_drift_160 : decode cX0_drift 160 = .ok (.iinc 1 1, 3) := by decide +kernel
theorem dX0_drift_163 : decode cX0_drift 163 = .ok (.goto (-149), 3) := by decide +kernel
theorem dX0_drift_166 : decode cX0_drift 166 = .ok (.iconst 0, 1) := by decide +kernel
theorem dX0_drift_167 : decode cX0_drift 167 = .ok (.istore_n 1, 1) := by decide +kernel
theorem dX0_drift_168 : decode cX0_drift 168 = .ok (.iload_n 1, 1) := by decide +kernel
theorem dX0_drift_169 : decode cX0_drift 169 = .ok (.aload_n 0, 1) := by decide +kernel
theorem dX0_drift_170 : decode cX0_drift 170 = .ok (.getfield 12, 3) := by decide +kernel
theorem dX0_drift_173 : decode cX0_drift 173 = .ok (.getfield 108, 3) := by decide +kernel
theorem dX0_drift_176 : decode cX0_drift 176 = .ok (.if_icmp .ge 22, 3) := by decide +kernel
theorem dX0_drift_179 : decode cX0_drift 179 = .ok (.aload_n 0, 1) := by decide +kernel
theorem dX0_drift_180 : decode cX0_drift 180 = .ok (.iload_n 1, 1) := by decide +kernel
theorem dX0_drift_181 : decode cX0_drift 181 = .ok (.aload_n 0, 1) := by decide +kernel
theorem dX0_drift_182 : decode cX0_drift 182 = .ok (.getfield 12, 3) := by decide +kernel
theorem dX0_drift_185 : decode cX0_drift 185 = .ok (.iload_n 1, 1) := by decide +kernel
theorem dX0_drift_186 : decode cX0_drift 186 = .ok (.invokevirtual 151, 3) := by decide +kernel
theorem dX0_drift_189 : decode cX0_drift 189 = .ok (.invokevirtual 154, 3) := by decide +kernel
theorem dX0_drift_192 : decode cX0_drift 192 = .ok (.iinc 1 1, 3) := by decide +kernel
theorem dX0_drift_195 : decode cX0_drift 195 = .ok (.goto (-27), 3) := by decide +kernel
theorem dX0_drift_198 : decode cX0_drift 198 = .ok (.return_, 1) := by decide +kernel
theorem dX0_leave_0 : decode cX0_leave 0 = .ok (.iconst 0, 1) := by decide +kernel
theorem dX0_leave_1 : decode cX0_leave 1 = .ok (.istore_n 3, 1) := by decide +kernel
theorem dX0_leave_2 : decode cX0_leave 2 = .ok (.iload_n 3, 1) := by decide +kernel
theorem dX0_leave_3 : decode cX0_leave 3 = .ok (.iconst 5, 1) := by decide +kernel
theorem dX0_leave_4 : decode cX0_leave 4 = .ok (.if_icmp .ge 79, 3) := by decide +kernel
theorem dX0_leave_7 : decode cX0_leave 7 = .ok (.aload_n 0, 1) := by decide +kernel
theorem dX0_leave_8 : decode cX0_leave 8 = .ok (.getfield 33, 3) := by decide +kernel
theorem dX0_leave_11 : decode cX0_leave 11 = .ok (.iload_n 1, 1) := by decide +kernel
theorem dX0_leave_12 : decode cX0_leave 12 = .ok (.iconst 5, 1) := by decide +kernel
theorem dX0_leave_13 : decode cX0_leave 13 = .ok (.imul, 1) := by decide +kernel
theorem dX0_leave_14 : decode cX0_leave 14 = .ok (.iload_n 3, 1) := by decide +kernel
theorem dX0_leave_15 : decode cX0_leave 15 = .ok (.iadd, 1) := by decide +kernel
theorem dX0_leave_16 : decode cX0_leave 16 = .ok (.iaload, 1) := by decide +kernel
theorem dX0_leave_17 : decode cX0_leave 17 = .ok (.istore 4, 2) := by decide +kernel
theorem dX0_leave_19 : decode cX0_leave 19 = .ok (.aload_n 0, 1) := by decide +kernel
theorem dX0_leave_20 : decode cX0_leave 20 = .ok (.getfield 12, 3) := by decide +kernel
theorem dX0_leave_23 : decode cX0_leave 23 = .ok (.getfield 80, 3) := by decide +kernel
theorem dX0_leave_26 : decode cX0_leave 26 = .ok (.iload_n 1, 1) := by decide +kernel
theorem dX0_leave_27 : decode cX0_leave 27 = .ok (.iconst 5, 1) := by decide +kernel
theorem dX0_leave_28 : decode cX0_leave 28 = .ok (.imul, 1) := by decide +kernel
theorem dX0_leave_29 : decode cX0_leave 29 = .ok (.iload_n 3, 1) := by decide +kernel
theorem dX0_leave_30 : decode cX0_leave 30 = .ok (.iadd, 1) := by decide +kernel
theorem dX0_leave_31 : decode cX0_leave 31 = .ok (.dup2, 1) := by decide +kernel
theorem dX0_leave_32 : decode cX0_leave 32 = .ok (.iaload, 1) := by decide +kernel
theorem dX0_leave_33 : decode cX0_leave 33 = .ok (.iload 4, 2) := by decide +kernel
theorem dX0_leave_35 : decode cX0_leave 35 = .ok (.isub, 1) := by decide +kernel
theorem dX0_leave_36 : decode cX0_leave 36 = .ok (.iastore, 1) := by decide +kernel
theorem dX0_leave_37 : decode cX0_leave 37 = .ok (.iload_n 2, 1) := by decide +kernel
theorem dX0_leave_38 : decode cX0_leave 38 = .ok (.iconst (-1), 1) := by decide +kernel
theorem dX0_leave_39 : decode cX0_leave 39 = .ok (.if_icmp .ne 20, 3) := by decide +kernel
theorem dX0_leave_42 : decode cX0_leave 42 = .ok (.aload_n 0, 1) := by decide +kernel
theorem dX0_leave_43 : decode cX0_leave 43 = .ok (.getfield 12, 3) := by decide +kernel
theorem dX0_leave_46 : decode cX0_leave 46 = .ok (.dup, 1) := by decide +kernel
theorem dX0_leave_47 : decode cX0_leave 47 = .ok (.getfield 158, 3) := by decide +kernel
theorem dX0_leave_50 : decode cX0_leave 50 = .ok (.iload 4, 2) := by decide +kernel
theorem dX0_leave_52 : decode cX0_leave 52 = .ok (.iadd, 1) := by decide +kernel
theorem dX0_leave_53 : decode cX0_leave 53 = .ok (.putfield 158, 3) := by decide +kernel
theorem dX0_leave_56 : decode cX0_leave 56 = .ok (.goto 21, 3) := by decide +kernel
theorem dX0_leave_59 : decode cX0_leave 59 = .ok (.aload_n 0, 1) := by decide +kernel
theorem dX0_leave_60 : decode cX0_leave 60 = .ok (.getfield 12, 3) := by decide +kernel
theorem dX0_leave_63 : decode cX0_leave 63 = .ok (.getfield 80, 3) := by decide +kernel
theorem dX0_leave_66 : decode cX0_leave 66 = .ok (.iload_n 2, 1) := by decide +kernel
theorem dX0_leave_67 : decode cX0_leave 67 = .ok (.iconst 5, 1) := by decide +kernel
theorem dX0_leave_68 : decode cX0_leave 68 = .ok (.imul, 1) := by decide +kernel
theorem dX0_leave_69 : decode cX0_leave 69 = .ok (.iload_n 3, 1) := by decide +kernel
theorem dX0_leave_70 : decode cX0_leave 70 = .ok (.iadd, 1) := by decide +kernel
theorem dX0_leave_71 : decode cX0_leave 71 = .ok (.dup2, 1) := by decide +kernel
theorem dX0_leave_72 : decode cX0_leave 72 = .ok (.iaload, 1) := by decide +kernel
theorem dX0_leave_73 : decode cX0_leave 73 = .ok (.iload 4, 2) := by decide +kernel
theorem dX0_leave_75 : decode cX0_leave 75 = .ok (.iadd, 1) := by decide +kernel
theorem dX0_leave_76 : decode cX0_leave 76 = .ok (.iastore, 1) := by decide +kernel
theorem dX0_leave_77 : decode cX0_leave 77 = .ok (.iinc 3 1, 3) := by decide +kernel
theorem dX0_leave_80 : decode cX0_leave 80 = .ok (.goto (-78), 3) := by decide +kernel
theorem dX0_leave_83 : decode cX0_leave 83 = .ok (.return_, 1) := by decide +kernel
theorem dX0_gather_0 : decode cX0_gather 0 = .ok (.aload_n 0, 1) := by decide +kernel
theorem dX0_gather_1 : decode cX0_gather 1 = .ok (.getfield 21, 3) := by decide +kernel
theorem dX0_gather_4 : decode cX0_gather 4 = .ok (.iconst 3, 1) := by decide +kernel
theorem dX0_gather_5 : decode cX0_gather 5 = .ok (.invokevirtual 72, 3) := by decide +kernel
theorem dX0_gather_8 : decode cX0_gather 8 = .ok (.ifCond .eq 4, 3) := by decide +kernel
theorem dX0_gather_11 : decode cX0_gather 11 = .ok (.return_, 1) := by decide +kernel
theorem dX0_gather_12 : decode cX0_gather 12 = .ok (.iconst 0, 1) := by decide +kernel
theorem dX0_gather_13 : decode cX0_gather 13 = .ok (.istore_n 1, 1) := by decide +kernel
theorem dX0_gather_14 : decode cX0_gather 14 = .ok (.iload_n 1, 1) := by decide +kernel
theorem dX0_gather_15 : decode cX0_gather 15 = .ok (.aload_n 0, 1) := by decide +kernel
theorem dX0_gather_16 : decode cX0_gather 16 = .ok (.getfield 12, 3) := by decide +kernel
theorem dX0_gather_19 : decode cX0_gather 19 = .ok (.getfield 108, 3) := by decide +kernel
theorem dX0_gather_22 : decode cX0_gather 22 = .ok (.if_icmp .ge 83, 3) := by decide +kernel
theorem dX0_gather_25 : decode cX0_gather 25 = .ok (.iconst 4, 1) := by decide +kernel
theorem dX0_gather_26 : decode cX0_gather 26 = .ok (.istore_n 2, 1) := by decide +kernel
theorem dX0_gather_27 : decode cX0_gather 27 = .ok (.iload_n 2, 1) := by decide +kernel
theorem dX0_gather_28 : decode cX0_gather 28 = .ok (.ifCond .lt 71, 3) := by decide +kernel
theorem dX0_gather_31 : decode cX0_gather 31 = .ok (.aload_n 0, 1) := by decide +kernel
theorem dX0_gather_32 : decode cX0_gather 32 = .ok (.getfield 12, 3) := by decide +kernel
theorem dX0_gather_35 : decode cX0_gather 35 = .ok (.getfield 80, 3) := by decide +kernel
theorem dX0_gather_38 : decode cX0_gather 38 = .ok (.iload_n 1, 1) := by decide +kernel
theorem dX0_gather_39 : decode cX0_gather 39 = .ok (.iconst 5, 1) := by decide +kernel
theorem dX0_gather_40 : decode cX0_gather 40 = .ok (.imul, 1) := by decide +kernel
theorem dX0_gather_41 : decode cX0_gather 41 = .ok (.iload_n 2, 1) := by decide +kernel
theorem dX0_gather_42 : decode cX0_gather 42 = .ok (.iadd, 1) := by decide +kernel
theorem dX0_gather_43 : decode cX0_gather 43 = .ok (.iaload, 1) := by decide +kernel
theorem dX0_gather_44 : decode cX0_gather 44 = .ok (.istore_n 3, 1) := by decide +kernel
theorem dX0_gather_45 : decode cX0_gather 45 = .ok (.iload_n 3, 1) := by decide +kernel
theorem dX0_gather_46 : decode cX0_gather 46 = .ok (.ifCond .le 23, 3) := by decide +kernel
theorem dX0_gather_49 : decode cX0_gather 49 = .ok (.aload_n 0, 1) := by decide +kernel
theorem dX0_gather_50 : decode cX0_gather 50 = .ok (.getfield 12, 3) := by decide +kernel
theorem dX0_gather_53 : decode cX0_gather 53 = .ok (.invokevirtual 161, 3) := by decide +kernel
theorem dX0_gather_56 : decode cX0_gather 56 = .ok (.ifCond .eq 13, 3) := by decide +kernel
theorem dX0_gather_59 : decode cX0_gather 59 = .ok (.aload_n 0, 1) := by decide +kernel
theorem dX0_gather_60 : decode cX0_gather 60 = .ok (.iconst 3, 1) := by decide +kernel
theorem dX0_gather_61 : decode cX0_gather 61 = .ok (.iload_n 1, 1) := by decide +kernel
theorem dX0_gather_62 : decode cX0_gather 62 = .ok (.iload_n 2, 1) := by decide +kernel
theorem dX0_gather_63 : decode cX0_gather 63 = .ok (.invokevirtual 114, 3) := by decide +kernel
theorem dX0_gather_66 : decode cX0_gather 66 = .ok (.goto 4, 3) := by decide +kernel
theorem dX0_gather_69 : decode cX0_gather 69 = .ok (.iconst (-1), 1) := by decide +kernel
theorem dX0_gather_70 : decode cX0_gather 70 = .ok (.istore 4, 2) := by decide +kernel
theorem dX0_gather_72 : decode cX0_gather 72 = .ok (.iload 4, 2) := by decide +kernel
theorem dX0_gather_74 : decode cX0_gather 74 = .ok (.iconst (-1), 1) := by decide +kernel
theorem dX0_gather_75 : decode cX0_gather 75 = .ok (.if_icmp .eq 18, 3) := by decide +kernel
theorem dX0_gather_78 : decode cX0_gather 78 = .ok (.iload_n 3, 1) := by decide +kernel
theorem dX0_gather_79 : decode cX0_gather 79 = .ok (.iload 4, 2) := by decide +kernel
theorem dX0_gather_81 : decode cX0_gather 81 = .ok (.if_icmp .lt 12, 3) := by decide +kernel
theorem dX0_gather_84 : decode cX0_gather 84 = .ok (.aload_n 0, 1) := by decide +kernel
theorem dX0_gather_85 : decode cX0_gather 85 = .ok (.getfield 12, 3) := by decide +kernel
theorem dX0_gather_88 : decode cX0_gather 88 = .ok (.iload_n 1, 1) := by decide +kernel
theorem dX0_gather_89 : decode cX0_gather 89 = .ok (.iload_n 2, 1) := by decide +kernel
theorem dX0_gather_90 : decode cX0_gather 90 = .ok (.invokevirtual 165, 3) := by decide +kernel
theorem dX0_gather_93 : decode cX0_gather 93 = .ok (.iinc 2 (-1), 3) := by decide +kernel
theorem dX0_gather_96 : decode cX0_gather 96 = .ok (.goto (-69), 3) := by decide +kernel
theorem dX0_gather_99 : decode cX0_gather 99 = .ok (.iinc 1 1, 3) := by decide +kernel
theorem dX0_gather_102 : decode cX0_gather 102 = .ok (.goto (-88), 3) := by decide +kernel
theorem dX0_gather_105 : decode cX0_gather 105 = .ok (.return_, 1) := by decide +kernel
theorem dX0_feedLumps_0 : decode cX0_feedLumps 0 = .ok (.iconst 0, 1) := by decide +kernel
theorem dX0_feedLumps_1 : decode cX0_feedLumps 1 = .ok (.istore_n 1, 1) := by decide +kernel
theorem dX0_feedLumps_2 : decode cX0_feedLumps 2 = .ok (.iload_n 1, 1) := by decide +kernel
theorem dX0_feedLumps_3 : decode cX0_feedLumps 3 = .ok (.aload_n 0, 1) := by decide +kernel
theorem dX0_feedLumps_4 : decode cX0_feedLumps 4 = .ok (.getfield 12, 3) := by decide +kernel
theorem dX0_feedLumps_7 : decode cX0_feedLumps 7 = .ok (.getfield 137, 3) := by decide +kernel
theorem dX0_feedLumps_10 : decode cX0_feedLumps 10 = .ok (.if_icmp .ge 105, 3) := by decide +kernel
theorem dX0_feedLumps_13 : decode cX0_feedLumps 13 = .ok (.aload_n 0, 1) := by decide +kernel
theorem dX0_feedLumps_14 : decode cX0_feedLumps 14 = .ok (.getfield 12, 3) := by decide +kernel
theorem dX0_feedLumps_17 : decode cX0_feedLumps 17 = .ok (.getfield 140, 3) := by decide +kernel
theorem dX0_feedLumps_20 : decode cX0_feedLumps 20 = .ok (.iload_n 1, 1) := by decide +kernel
theorem dX0_feedLumps_21 : decode cX0_feedLumps 21 = .ok (.aaload, 1) := by decide +kernel
theorem dX0_feedLumps_22 : decode cX0_feedLumps 22 = .ok (.astore_n 2, 1) := by decide +kernel
theorem dX0_feedLumps_23 : decode cX0_feedLumps 23 = .ok (.aload_n 2, 1) := by decide +kernel
theorem dX0_feedLumps_24 : decode cX0_feedLumps 24 = .ok (.getfield 144, 3) := by decide +kernel
theorem dX0_feedLumps_27 : decode cX0_feedLumps 27 = .ok (.ifCond .ne 12, 3) := by decide +kernel
theorem dX0_feedLumps_30 : decode cX0_feedLumps 30 = .ok (.aload_n 0, 1) := by decide +kernel
theorem dX0_feedLumps_31 : decode cX0_feedLumps 31 = .ok (.iconst 4, 1) := by decide +kernel
theorem dX0_feedLumps_32 : decode cX0_feedLumps 32 = .ok (.aload_n 2, 1) := by decide +kernel
theorem dX0_feedLumps_33 : decode cX0_feedLumps 33 = .ok (.invokevirtual 147, 3) := by decide +kernel
theorem dX0_feedLumps_36 : decode cX0_feedLumps 36 = .ok (.goto 4, 3) := by decide +kernel
theorem dX0_feedLumps_39 : decode cX0_feedLumps 39 = .ok (.iconst (-1), 1) := by decide +kernel
theorem dX0_feedLumps_40 : decode cX0_feedLumps 40 = .ok (.istore_n 3, 1) := by decide +kernel
theorem dX0_feedLumps_41 : decode cX0_feedLumps 41 = .ok (.iconst 0, 1) := by decide +kernel
theorem dX0_feedLumps_42 : decode cX0_feedLumps 42 = .ok (.istore 4, 2) := by decide +kernel
theorem dX0_feedLumps_44 : decode cX0_feedLumps 44 = .ok (.iload_n 3, 1) := by decide +kernel
theorem dX0_feedLumps_45 : decode cX0_feedLumps 45 = .ok (.iconst (-1), 1) := by decide +kernel
theorem dX0_feedLumps_46 : decode cX0_feedLumps 46 = .ok (.if_icmp .eq 63, 3) := by decide +kernel
theorem dX0_feedLumps_49 : decode cX0_feedLumps 49 = .ok (.iload 4, 2) := by decide +kernel
theorem dX0_feedLumps_51 : decode cX0_feedLumps 51 = .ok (.iconst 5, 1) := by decide +kernel
theorem dX0_feedLumps_52 : decode cX0_feedLumps 52 = .ok (.if_icmp .ge 57, 3) := by decide +kernel
theorem dX0_feedLumps_55 : decode cX0_feedLumps 55 = .ok (.aload_n 2, 1) := by decide +kernel
theorem dX0_feedLumps_56 : decode cX0_feedLumps 56 = .ok (.getfield 87, 3) := by decide +kernel
theorem dX0_feedLumps_59 : decode cX0_feedLumps 59 = .ok (.iconst 5, 1) := by decide +kernel
theorem dX0_feedLumps_60 : decode cX0_feedLumps 60 = .ok (.imul, 1) := by decide +kernel
theorem dX0_feedLumps_61 : decode cX0_feedLumps 61 = .ok (.iload 4, 2) := by decide +kernel
theorem dX0_feedLumps_63 : decode cX0_feedLumps 63 = .ok (.iadd, 1) := by decide +kernel
theorem dX0_feedLumps_64 : decode cX0_feedLumps 64 = .ok (.istore 5, 2) := by decide +kernel
theorem dX0_feedLumps_66 : decode cX0_feedLumps 66 = .ok (.aload_n 0, 1) := by decide +kernel
theorem dX0_feedLumps_67 : decode cX0_feedLumps 67 = .ok (.getfield 12, 3) := by decide +kernel
theorem dX0_feedLumps_70 : decode cX0_feedLumps 70 = .ok (.getfield 80, 3) := by decide +kernel
theorem dX0_feedLumps_73 : decode cX0_feedLumps 73 = .ok (.iload 5, 2) := by decide +kernel
theorem dX0_feedLumps_75 : decode cX0_feedLumps 75 = .ok (.iaload, 1) := by decide +kernel
theorem dX0_feedLumps_76 : decode cX0_feedLumps 76 = .ok (.iload_n 3, 1) := by decide +kernel
theorem dX0_feedLumps_77 : decode cX0_feedLumps 77 = .ok (.invokestatic 121, 3) := by decide +kernel
theorem dX0_feedLumps_80 : decode cX0_feedLumps 80 = .ok (.istore 6, 2) := by decide +kernel
theorem dX0_feedLumps_82 : decode cX0_feedLumps 82 = .ok (.aload_n 0, 1) := by decide +kernel
theorem dX0_feedLumps_83 : decode cX0_feedLumps 83 = .ok (.getfield 12, 3) := by decide +kernel
theorem dX0_feedLumps_86 : decode cX0_feedLumps 86 = .ok (.getfield 80, 3) := by decide +kernel
theorem dX0_feedLumps_89 : decode cX0_feedLumps 89 = .ok (.iload 5, 2) := by decide +kernel
theorem dX0_feedLumps_91 : decode cX0_feedLumps 91 = .ok (.dup2, 1) := by decide +kernel
theorem dX0_feedLumps_92 : decode cX0_feedLumps 92 = .ok (.iaload, 1) := by decide +kernel
theorem dX0_feedLumps_93 : decode cX0_feedLumps 93 = .ok (.iload 6, 2) := by decide +kernel
theorem dX0_feedLumps_95 : decode cX0_feedLumps 95 = .ok (.isub, 1) := by decide +kernel
theorem dX0_feedLumps_96 : decode cX0_feedLumps 96 = .ok (.iastore, 1) := by decide +kernel
theorem dX0_feedLumps_97 : decode cX0_feedLumps 97 = .ok (.aload_n 2, 1) := by decide +kernel
theorem dX0_feedLumps_98 : decode cX0_feedLumps 98 = .ok (.iload 6, 2) := by decide +kernel
theorem dX0_feedLumps_100 : decode cX0_feedLumps 100 = .ok (.invokevirtual 168, 3) := by decide +kernel
theorem dX0_feedLumps_103 : decode cX0_feedLumps 103 = .ok (.iinc 4 1, 3) := by decide +kernel
theorem dX0_feedLumps_106 : decode cX0_feedLumps 106 = .ok (.goto (-62), 3) := by decide +kernel
theorem dX0_feedLumps_109 : decode cX0_feedLumps 109 = .ok (.iinc 1 1, 3) := by decide +kernel
theorem dX0_feedLumps_112 : decode cX0_feedLumps 112 = .ok (.goto (-110), 3) := by decide +kernel
theorem dX0_feedLumps_115 : decode cX0_feedLumps 115 = .ok (.return_, 1) := by decide +kernel
theorem dX0_eatGas_0 : decode cX0_eatGas 0 = .ok (.iconst 0, 1) := by decide +kernel
theorem dX0_eatGas_1 : decode cX0_eatGas 1 = .ok (.istore_n 1, 1) := by decide +kernel
theorem dX0_eatGas_2 : decode cX0_eatGas 2 = .ok (.iload_n 1, 1) := by decide +kernel
theorem dX0_eatGas_3 : decode cX0_eatGas 3 = .ok (.aload_n 0, 1) := by decide +kernel
theorem dX0_eatGas_4 : decode cX0_eatGas 4 = .ok (.getfield 12, 3) := by decide +kernel
theorem dX0_eatGas_7 : decode cX0_eatGas 7 = .ok (.getfield 137, 3) := by decide +kernel
theorem dX0_eatGas_10 : decode cX0_eatGas 10 = .ok (.if_icmp .ge 83, 3) := by decide +kernel
theorem dX0_eatGas_13 : decode cX0_eatGas 13 = .ok (.aload_n 0, 1) := by decide +kernel
theorem dX0_eatGas_14 : decode cX0_eatGas 14 = .ok (.getfield 12, 3) := by decide +kernel
theorem dX0_eatGas_17 : decode cX0_eatGas 17 = .ok (.getfield 140, 3) := by decide +kernel
theorem dX0_eatGas_20 : decode cX0_eatGas 20 = .ok (.iload_n 1, 1) := by decide +kernel
theorem dX0_eatGas_21 : decode cX0_eatGas 21 = .ok (.aaload, 1) := by decide +kernel
theorem dX0_eatGas_22 : decode cX0_eatGas 22 = .ok (.astore_n 2, 1) := by decide +kernel
theorem dX0_eatGas_23 : decode cX0_eatGas 23 = .ok (.aload_n 2, 1) := by decide +kernel
theorem dX0_eatGas_24 : decode cX0_eatGas 24 = .ok (.getfield 144, 3) := by decide +kernel
theorem dX0_eatGas_27 : decode cX0_eatGas 27 = .ok (.ifCond .ne 12, 3) := by decide +kernel
theorem dX0_eatGas_30 : decode cX0_eatGas 30 = .ok (.aload_n 0, 1) := by decide +kernel
theorem dX0_eatGas_31 : decode cX0_eatGas 31 = .ok (.iconst 5, 1) := by decide +kernel
theorem dX0_eatGas_32 : decode cX0_eatGas 32 = .ok (.aload_n 2, 1) := by decide +kernel
theorem dX0_eatGas_33 : decode cX0_eatGas 33 = .ok (.invokevirtual 147, 3) := by decide +kernel
theorem dX0_eatGas_36 : decode cX0_eatGas 36 = .ok (.goto 4, 3) := by decide +kernel
theorem dX0_eatGas_39 : decode cX0_eatGas 39 = .ok (.iconst (-1), 1) := by decide +kernel
theorem dX0_eatGas_40 : decode cX0_eatGas 40 = .ok (.istore_n 3, 1) := by decide +kernel
theorem dX0_eatGas_41 : decode cX0_eatGas 41 = .ok (.iload_n 3, 1) := by decide +kernel
theorem dX0_eatGas_42 : decode cX0_eatGas 42 = .ok (.iconst (-1), 1) := by decide +kernel
theorem dX0_eatGas_43 : decode cX0_eatGas 43 = .ok (.if_icmp .eq 44, 3) := by decide +kernel
theorem dX0_eatGas_46 : decode cX0_eatGas 46 = .ok (.aload_n 0, 1) := by decide +kernel
theorem dX0_eatGas_47 : decode cX0_eatGas 47 = .ok (.getfield 12, 3) := by decide +kernel
theorem dX0_eatGas_50 : decode cX0_eatGas 50 = .ok (.getfield 95, 3) := by decide +kernel
theorem dX0_eatGas_53 : decode cX0_eatGas 53 = .ok (.aload_n 2, 1) := by decide +kernel
theorem dX0_eatGas_54 : decode cX0_eatGas 54 = .ok (.getfield 87, 3) := by decide +kernel
theorem dX0_eatGas_57 : decode cX0_eatGas 57 = .ok (.iaload, 1) := by decide +kernel
theorem dX0_eatGas_58 : decode cX0_eatGas 58 = .ok (.iload_n 3, 1) := by decide +kernel
theorem dX0_eatGas_59 : decode cX0_eatGas 59 = .ok (.invokestatic 121, 3) := by decide +kernel
theorem dX0_eatGas_62 : decode cX0_eatGas 62 = .ok (.istore 4, 2) := by decide +kernel
theorem dX0_eatGas_64 : decode cX0_eatGas 64 = .ok (.aload_n 0, 1) := by decide +kernel
theorem dX0_eatGas_65 : decode cX0_eatGas 65 = .ok (.getfield 12, 3) := by decide +kernel
theorem dX0_eatGas_68 : decode cX0_eatGas 68 = .ok (.getfield 95, 3) := by decide +kernel
theorem dX0_eatGas_71 : decode cX0_eatGas 71 = .ok (.aload_n 2, 1) := by decide +kernel
theorem dX0_eatGas_72 : decode cX0_eatGas 72 = .ok (.getfield 87, 3) := by decide +kernel
theorem dX0_eatGas_75 : decode cX0_eatGas 75 = .ok (.dup2, 1) := by decide +kernel
theorem dX0_eatGas_76 : decode cX0_eatGas 76 = .ok (.iaload, 1) := by decide +kernel
theorem dX0_eatGas_77 : decode cX0_eatGas 77 = .ok (.iload 4, 2) := by decide +kernel
theorem dX0_eatGas_79 : decode cX0_eatGas 79 = .ok (.isub, 1) := by decide +kernel
theorem dX0_eatGas_80 : decode cX0_eatGas 80 = .ok (.iastore, 1) := by decide +kernel
theorem dX0_eatGas_81 : decode cX0_eatGas 81 = .ok (.aload_n 2, 1) := by decide +kernel
theorem dX0_eatGas_82 : decode cX0_eatGas 82 = .ok (.iload 4, 2) := by decide +kernel
theorem dX0_eatGas_84 : decode cX0_eatGas 84 = .ok (.invokevirtual 171, 3) := by decide +kernel
theorem dX0_eatGas_87 : decode cX0_eatGas 87 = .ok (.iinc 1 1, 3) := by decide +kernel
theorem dX0_eatGas_90 : decode cX0_eatGas 90 = .ok (.goto (-88), 3) := by decide +kernel
theorem dX0_eatGas_93 : decode cX0_eatGas 93 = .ok (.return_, 1) := by decide +kernel
theorem dX0_wander_0 : decode cX0_wander 0 = .ok (.iconst 0, 1) := by decide +kernel
theorem dX0_wander_1 : decode cX0_wander 1 = .ok (.istore_n 1, 1) := by decide +kernel
theorem dX0_wander_2 : decode cX0_wander 2 = .ok (.iload_n 1, 1) := by decide +kernel
theorem dX0_wander_3 : decode cX0_wander 3 = .ok (.aload_n 0, 1) := by decide +kernel
theorem dX0_wander_4 : decode cX0_wander 4 = .ok (.getfield 12, 3) := by decide +kernel
theorem dX0_wander_7 : decode cX0_wander 7 = .ok (.getfield 137, 3) := by decide +kernel
theorem dX0_wander_10 : decode cX0_wander 10 = .ok (.if_icmp .ge 96, 3) := by decide +kernel
theorem dX0_wander_13 : decode cX0_wander 13 = .ok (.aload_n 0, 1) := by decide +kernel
theorem dX0_wander_14 : decode cX0_wander 14 = .ok (.getfield 12, 3) := by decide +kernel
theorem dX0_wander_17 : decode cX0_wander 17 = .ok (.getfield 140, 3) := by decide +kernel
theorem dX0_wander_20 : decode cX0_wander 20 = .ok (.iload_n 1, 1) := by decide +kernel
theorem dX0_wander_21 : decode cX0_wander 21 = .ok (.aaload, 1) := by decide +kernel
theorem dX0_wander_22 : decode cX0_wander 22 = .ok (.astore_n 2, 1) := by decide +kernel
theorem dX0_wander_23 : decode cX0_wander 23 = .ok (.aload_n 2, 1) := by decide +kernel
theorem dX0_wander_24 : decode cX0_wander 24 = .ok (.getfield 144, 3) := by decide +kernel
theorem dX0_wander_27 : decode cX0_wander 27 = .ok (.ifCond .ne 13, 3) := by decide +kernel
theorem dX0_wander_30 : decode cX0_wander 30 = .ok (.aload_n 0, 1) := by decide +kernel
theorem dX0_wander_31 : decode cX0_wander 31 = .ok (.bipush 6, 2) := by decide +kernel
theorem dX0_wander_33 : decode cX0_wander 33 = .ok (.aload_n 2, 1) := by decide +kernel
theorem dX0_wander_34 : decode cX0_wander 34 = .ok (.invokevirtual 147, 3) := by decide +kernel
theorem dX0_wander_37 : decode cX0_wander 37 = .ok (.goto 4, 3) := by decide +kernel
theorem dX0_wander_40 : decode cX0_wander 40 = .ok (.iconst (-1), 1) := by decide +kernel
theorem dX0_wander_41 : decode cX0_wander 41 = .ok (.istore_n 3, 1) := by decide +kernel
theorem dX0_wander_42 : decode cX0_wander 42 = .ok (.iload_n 3, 1) := by decide +kernel
theorem dX0_wander_43 : decode cX0_wander 43 = .ok (.iconst (-1), 1) := by decide +kernel
theorem dX0_wander_44 : decode cX0_wander 44 = .ok (.if_icmp .eq 56, 3) := by decide +kernel
theorem dX0_wander_47 : decode cX0_wander 47 = .ok (.aload_n 0, 1) := by decide +kernel
theorem dX0_wander_48 : decode cX0_wander 48 = .ok (.getfield 12, 3) := by decide +kernel
theorem dX0_wander_51 : decode cX0_wander 51 = .ok (.aload_n 2, 1) := by decide +kernel
theorem dX0_wander_52 : decode cX0_wander 52 = .ok (.invokevirtual 174, 3) := by decide +kernel
theorem dX0_wander_55 : decode cX0_wander 55 = .ok (.ifCond .ne 45, 3) := by decide +kernel
theorem dX0_wander_58 : decode cX0_wander 58 = .ok (.aload_n 2, 1) := by decide +kernel
theorem dX0_wander_59 : decode cX0_wander 59 = .ok (.dup, 1) := by decide +kernel
theorem dX0_wander_60 : decode cX0_wander 60 = .ok (.getfield 178, 3) := by decide +kernel
theorem dX0_wander_63 : decode cX0_wander 63 = .ok (.iconst 1, 1) := by decide +kernel
theorem dX0_wander_64 : decode cX0_wander 64 = .ok (.iadd, 1) := by decide +kernel
theorem dX0_wander_65 : decode cX0_wander 65 = .ok (.putfield 178, 3) := by decide +kernel
theorem dX0_wander_68 : decode cX0_wander 68 = .ok (.aload_n 2, 1) := by decide +kernel
theorem dX0_wander_69 : decode cX0_wander 69 = .ok (.getfield 178, 3) := by decide +kernel
theorem dX0_wander_72 : decode cX0_wander 72 = .ok (.iload_n 3, 1) := by decide +kernel
theorem dX0_wander_73 : decode cX0_wander 73 = .ok (.if_icmp .lt 27, 3) := by decide +kernel
theorem dX0_wander_76 : decode cX0_wander 76 = .ok (.aload_n 2, 1) := by decide +kernel
theorem dX0_wander_77 : decode cX0_wander 77 = .ok (.iconst 0, 1) := by decide +kernel
theorem dX0_wander_78 : decode cX0_wander 78 = .ok (.putfield 178, 3) := by decide +kernel
theorem dX0_wander_81 : decode cX0_wander 81 = .ok (.aload_n 0, 1) := by decide +kernel
theorem dX0_wander_82 : decode cX0_wander 82 = .ok (.getfield 12, 3) := by decide +kernel
theorem dX0_wander_85 : decode cX0_wander 85 = .ok (.aload_n 2, 1) := by decide +kernel
theorem dX0_wander_86 : decode cX0_wander 86 = .ok (.aload_n 0, 1) := by decide +kernel
theorem dX0_wander_87 : decode cX0_wander 87 = .ok (.getfield 12, 3) := by decide +kernel
theorem dX0_wander_90 : decode cX0_wander 90 = .ok (.aload_n 2, 1) := by decide +kernel
theorem dX0_wander_91 : decode cX0_wander 91 = .ok (.getfield 87, 3) := by decide +kernel
theorem dX0_wander_94 : decode cX0_wander 94 = .ok (.invokevirtual 151, 3) := by decide +kernel
theorem dX0_wander_97 : decode cX0_wander 97 = .ok (.invokevirtual 181, 3) := by decide +kernel
theorem dX0_wander_100 : decode cX0_wander 100 = .ok (.iinc 1 1, 3) := by decide +kernel
theorem dX0_wander_103 : decode cX0_wander 103 = .ok (.goto (-101), 3) := by decide +kernel
theorem dX0_wander_106 : decode cX0_wander 106 = .ok (.return_, 1) := by decide +kernel
theorem dX0_meet_0 : decode cX0_meet 0 = .ok (.iconst 0, 1) := by decide +kernel
theorem dX0_meet_1 : decode cX0_meet 1 = .ok (.istore_n 1, 1) := by decide +kernel
theorem dX0_meet_2 : decode cX0_meet 2 = .ok (.iload_n 1, 1) := by decide +kernel
theorem dX0_meet_3 : decode cX0_meet 3 = .ok (.aload_n 0, 1) := by decide +kernel
theorem dX0_meet_4 : decode cX0_meet 4 = .ok (.getfield 12, 3) := by decide +kernel
theorem dX0_meet_7 : decode cX0_meet 7 = .ok (.getfield 108, 3) := by decide +kernel
theorem dX0_meet_10 : decode cX0_meet 10 = .ok (.if_icmp .ge 62, 3) := by decide +kernel
theorem dX0_meet_13 : decode cX0_meet 13 = .ok (.iconst (-1), 1) := by decide +kernel
theorem dX0_meet_14 : decode cX0_meet 14 = .ok (.istore_n 2, 1) := by decide +kernel
theorem dX0_meet_15 : decode cX0_meet 15 = .ok (.iconst 0, 1) := by decide +kernel
theorem dX0_meet_16 : decode cX0_meet 16 = .ok (.istore_n 3, 1) := by decide +kernel
theorem dX0_meet_17 : decode cX0_meet 17 = .ok (.iload_n 3, 1) := by decide +kernel
theorem dX0_meet_18 : decode cX0_meet 18 = .ok (.aload_n 0, 1) := by decide +kernel
theorem dX0_meet_19 : decode cX0_meet 19 = .ok (.getfield 12, 3) := by decide +kernel
theorem dX0_meet_22 : decode cX0_meet 22 = .ok (.getfield 137, 3) := by decide +kernel
theorem dX0_meet_25 : decode cX0_meet 25 = .ok (.if_icmp .ge 41, 3) := by decide +kernel
theorem dX0_meet_28 : decode cX0_meet 28 = .ok (.aload_n 0, 1) := by decide +kernel
theorem dX0_meet_29 : decode cX0_meet 29 = .ok (.getfield 12, 3) := by decide +kernel
theorem dX0_meet_32 : decode cX0_meet 32 = .ok (.getfield 140, 3) := by decide +kernel
theorem dX0_meet_35 : decode cX0_meet 35 = .ok (.iload_n 3, 1) := by decide +kernel
theorem dX0_meet_36 : decode cX0_meet 36 = .ok (.aaload, 1) := by decide +kernel
theorem dX0_meet_37 : decode cX0_meet 37 = .ok (.iload_n 1, 1) := by decide +kernel
theorem dX0_meet_38 : decode cX0_meet 38 = .ok (.invokevirtual 185, 3) := by decide +kernel
theorem dX0_meet_41 : decode cX0_meet 41 = .ok (.ifCond .eq 19, 3) := by decide +kernel
theorem dX0_meet_44 : decode cX0_meet 44 = .ok (.iload_n 2, 1) := by decide +kernel
theorem dX0_meet_45 : decode cX0_meet 45 = .ok (.iconst (-1), 1) := by decide +kernel
theorem dX0_meet_46 : decode cX0_meet 46 = .ok (.if_icmp .ne 7, 3) := by decide +kernel
theorem dX0_meet_49 : decode cX0_meet 49 = .ok (.iload_n 3, 1) := by decide +kernel
theorem dX0_meet_50 : decode cX0_meet 50 = .ok (.goto 9, 3) := by decide +kernel
theorem dX0_meet_53 : decode cX0_meet 53 = .ok (.aload_n 0, 1) := by decide +kernel
theorem dX0_meet_54 : decode cX0_meet 54 = .ok (.iload_n 2, 1) := by decide +kernel
theorem dX0_meet_55 : decode cX0_meet 55 = .ok (.iload_n 3, 1) := by decide +kernel
theorem dX0_meet_56 : decode cX0_meet 56 = .ok (.invokevirtual 188, 3) := by decide +kernel
theorem dX0_meet_59 : decode cX0_meet 59 = .ok (.istore_n 2, 1) := by decide +kernel
theorem dX0_meet_60 : decode cX0_meet 60 = .ok (.iinc 3 1, 3) := by decide +kernel
theorem dX0_meet_63 : decode cX0_meet 63 = .ok (.goto (-46), 3) := by decide +kernel
theorem dX0_meet_66 : decode cX0_meet 66 = .ok (.iinc 1 1, 3) := by decide +kernel
theorem dX0_meet_69 : decode cX0_meet 69 = .ok (.goto (-67), 3) := by decide +kernel
theorem dX0_meet_72 : decode cX0_meet 72 = .ok (.return_, 1) := by decide +kernel
theorem dX0_whoStays_0 : decode cX0_whoStays 0 = .ok (.aload_n 0, 1) := by decide +kernel
theorem dX0_whoStays_1 : decode cX0_whoStays 1 = .ok (.getfield 12, 3) := by decide +kernel
theorem dX0_whoStays_4 : decode cX0_whoStays 4 = .ok (.getfield 140, 3) := by decide +kernel
theorem dX0_whoStays_7 : decode cX0_whoStays 7 = .ok (.iload_n 2, 1) := by decide +kernel
theorem dX0_whoStays_8 : decode cX0_whoStays 8 = .ok (.aaload, 1) := by decide +kernel
theorem dX0_whoStays_9 : decode cX0_whoStays 9 = .ok (.getfield 92, 3) := by decide +kernel
theorem dX0_whoStays_12 : decode cX0_whoStays 12 = .ok (.aload_n 0, 1) := by decide +kernel
theorem dX0_whoStays_13 : decode cX0_whoStays 13 = .ok (.getfield 12, 3) := by decide +kernel
theorem dX0_whoStays_16 : decode cX0_whoStays 16 = .ok (.getfield 140, 3) := by decide +kernel
theorem dX0_whoStays_19 : decode cX0_whoStays 19 = .ok (.iload_n 1, 1) := by decide +kernel
theorem dX0_whoStays_20 : decode cX0_whoStays 20 = .ok (.aaload, 1) := by decide +kernel
theorem dX0_whoStays_21 : decode cX0_whoStays 21 = .ok (.getfield 92, 3) := by decide +kernel
theorem dX0_whoStays_24 : decode cX0_whoStays 24 = .ok (.if_icmp .le 7, 3) := by decide +kernel
theorem dX0_whoStays_27 : decode cX0_whoStays 27 = .ok (.iconst 1, 1) := by decide +kernel
theorem dX0_whoStays_28 : decode cX0_whoStays 28 = .ok (.goto 4, 3) := by decide +kernel
theorem dX0_whoStays_31 : decode cX0_whoStays 31 = .ok (.iconst 0, 1) := by decide +kernel
theorem dX0_whoStays_32 : decode cX0_whoStays 32 = .ok (.istore_n 3, 1) := by decide +kernel
theorem dX0_whoStays_33 : decode cX0_whoStays 33 = .ok (.iload_n 3, 1) := by decide +kernel
theorem dX0_whoStays_34 : decode cX0_whoStays 34 = .ok (.ifCond .eq 7, 3) := by decide +kernel
theorem dX0_whoStays_37 : decode cX0_whoStays 37 = .ok (.iload_n 2, 1) := by decide +kernel
theorem dX0_whoStays_38 : decode cX0_whoStays 38 = .ok (.goto 4, 3) := by decide +kernel
theorem dX0_whoStays_41 : decode cX0_whoStays 41 = .ok (.iload_n 1, 1) := by decide +kernel
theorem dX0_whoStays_42 : decode cX0_whoStays 42 = .ok (.istore 4, 2) := by decide +kernel
theorem dX0_whoStays_44 : decode cX0_whoStays 44 = .ok (.aload_n 0, 1) := by decide +kernel
theorem dX0_whoStays_45 : decode cX0_whoStays 45 = .ok (.getfield 12, 3) := by decide +kernel
theorem dX0_whoStays_48 : decode cX0_whoStays 48 = .ok (.getfield 140, 3) := by decide +kernel
theorem dX0_whoStays_51 : decode cX0_whoStays 51 = .ok (.iload 4, 2) := by decide +kernel
theorem dX0_whoStays_53 : decode cX0_whoStays 53 = .ok (.aaload, 1) := by decide +kernel
theorem dX0_whoStays_54 : decode cX0_whoStays 54 = .ok (.astore 5, 2) := by decide +kernel
theorem dX0_whoStays_56 : decode cX0_whoStays 56 = .ok (.aload_n 0, 1) := by decide +kernel
theorem dX0_whoStays_57 : decode cX0_whoStays 57 = .ok (.getfield 12, 3) := by decide +kernel
theorem dX0_whoStays_60 : decode cX0_whoStays 60 = .ok (.getfield 140, 3) := by decide +kernel
theorem dX0_whoStays_63 : decode cX0_whoStays 63 = .ok (.iload_n 3, 1) := by decide +kernel
theorem dX0_whoStays_64 : decode cX0_whoStays 64 = .ok (.ifCond .eq 7, 3) := by decide +kernel
theorem dX0_whoStays_67 : decode cX0_whoStays 67 = .ok (.iload_n 1, 1) := by decide +kernel
theorem dX0_whoStays_68 : decode cX0_whoStays 68 = .ok (.goto 4, 3) := by decide +kernel
theorem dX0_whoStays_71 : decode cX0_whoStays 71 = .ok (.iload_n 2, 1) := by decide +kernel
theorem dX0_whoStays_72 : decode cX0_whoStays 72 = .ok (.aaload, 1) := by decide +kernel
theorem dX0_whoStays_73 : decode cX0_whoStays 73 = .ok (.astore 6, 2) := by decide +kernel
theorem dX0_whoStays_75 : decode cX0_whoStays 75 = .ok (.aload_n 0, 1) := by decide +kernel
theorem dX0_whoStays_76 : decode cX0_whoStays 76 = .ok (.getfield 12, 3) := by decide +kernel
theorem dX0_whoStays_79 : decode cX0_whoStays 79 = .ok (.dup, 1) := by decide +kernel
theorem dX0_whoStays_80 : decode cX0_whoStays 80 = .ok (.getfield 105, 3) := by decide +kernel
theorem dX0_whoStays_83 : decode cX0_whoStays 83 = .ok (.iconst 1, 1) := by decide +kernel
theorem dX0_whoStays_84 : decode cX0_whoStays 84 = .ok (.isub, 1) := by decide +kernel
theorem dX0_whoStays_85 : decode cX0_whoStays 85 = .ok (.putfield 105, 3) := by decide +kernel
theorem dX0_whoStays_88 : decode cX0_whoStays 88 = .ok (.aload 6, 2) := by decide +kernel
theorem dX0_whoStays_90 : decode cX0_whoStays 90 = .ok (.getfield 92, 3) := by decide +kernel
theorem dX0_whoStays_93 : decode cX0_whoStays 93 = .ok (.bipush 100, 2) := by decide +kernel
theorem dX0_whoStays_95 : decode cX0_whoStays 95 = .ok (.imul, 1) := by decide +kernel
theorem dX0_whoStays_96 : decode cX0_whoStays 96 = .ok (.aload 5, 2) := by decide +kernel
theorem dX0_whoStays_98 : decode cX0_whoStays 98 = .ok (.getfield 92, 3) := by decide +kernel
theorem dX0_whoStays_101 : decode cX0_whoStays 101 = .ok (.aload_n 0, 1) := by decide +kernel
theorem dX0_whoStays_102 : decode cX0_whoStays 102 = .ok (.getfield 25, 3) := by decide +kernel
theorem dX0_whoStays_105 : decode cX0_whoStays 105 = .ok (.imul, 1) := by decide +kernel
theorem dX0_whoStays_106 : decode cX0_whoStays 106 = .ok (.if_icmp .lt 29, 3) := by decide +kernel
theorem dX0_whoStays_109 : decode cX0_whoStays 109 = .ok (.aload 6, 2) := by decide +kernel
theorem dX0_whoStays_111 : decode cX0_whoStays 111 = .ok (.iconst 3, 1) := by decide +kernel
theorem dX0_whoStays_112 : decode cX0_whoStays 112 = .ok (.putfield 144, 3) := by decide +kernel
theorem dX0_whoStays_115 : decode cX0_whoStays 115 = .ok (.aload_n 0, 1) := by decide +kernel
theorem dX0_whoStays_116 : decode cX0_whoStays 116 = .ok (.getfield 12, 3) := by decide +kernel
theorem dX0_whoStays_119 : decode cX0_whoStays 119 = .ok (.dup, 1) := by decide +kernel
theorem dX0_whoStays_120 : decode cX0_whoStays 120 = .ok (.getfield 191, 3) := by decide +kernel
theorem dX0_whoStays_123 : decode cX0_whoStays 123 = .ok (.aload 6, 2) := by decide +kernel
theorem dX0_whoStays_125 : decode cX0_whoStays 125 = .ok (.getfield 92, 3) := by decide +kernel
theorem dX0_whoStays_128 : decode cX0_whoStays 128 = .ok (.iadd, 1) := by decide +kernel
theorem dX0_whoStays_129 : decode cX0_whoStays 129 = .ok (.putfield 191, 3) := by decide +kernel
theorem dX0_whoStays_132 : decode cX0_whoStays 132 = .ok (.goto 23, 3) := by decide +kernel
theorem dX0_whoStays_135 : decode cX0_whoStays 135 = .ok (.aload 6, 2) := by decide +kernel
theorem dX0_whoStays_137 : decode cX0_whoStays 137 = .ok (.iconst 1, 1) := by decide +kernel
theorem dX0_whoStays_138 : decode cX0_whoStays 138 = .ok (.putfield 144, 3) := by decide +kernel
theorem dX0_whoStays_141 : decode cX0_whoStays 141 = .ok (.aload 6, 2) := by decide +kernel
theorem dX0_whoStays_143 : decode cX0_whoStays 143 = .ok (.iload 4, 2) := by decide +kernel
theorem dX0_whoStays_145 : decode cX0_whoStays 145 = .ok (.putfield 194, 3) := by decide +kernel
theorem dX0_whoStays_148 : decode cX0_whoStays 148 = .ok (.aload 5, 2) := by decide +kernel
theorem dX0_whoStays_150 : decode cX0_whoStays 150 = .ok (.aload 6, 2) := by decide +kernel
theorem dX0_whoStays_152 : decode cX0_whoStays 152 = .ok (.invokevirtual 197, 3) := by decide +kernel
theorem dX0_whoStays_155 : decode cX0_whoStays 155 = .ok (.iload 4, 2) := by decide +kernel
theorem dX0_whoStays_157 : decode cX0_whoStays 157 = .ok (.ireturn, 1) := by decide +kernel
theorem dX1_init_0 : decode cX1_init 0 = .ok (.aload_n 0, 1) := by decide +kernel
theorem dX1_init_1 : decode cX1_init 1 = .ok (.invokespecial 3, 3) := by decide +kernel
theorem dX1_init_4 : decode cX1_init 4 = .ok (.aload_n 0, 1) := by decide +kernel
theorem dX1_init_5 : decode cX1_init 5 = .ok (.bipush 12, 2) := by decide +kernel
theorem dX1_init_7 : decode cX1_init 7 = .ok (.newarray .int, 2) := by decide +kernel
theorem dX1_init_9 : decode cX1_init 9 = .ok (.putfield 9, 3) := by decide +kernel
theorem dX1_init_12 : decode cX1_init 12 = .ok (.aload_n 0, 1) := by decide +kernel
theorem dX1_init_13 : decode cX1_init 13 = .ok (.bipush 12, 2) := by decide +kernel
theorem dX1_init_15 : decode cX1_init 15 = .ok (.newarray .int, 2) := by decide +kernel
theorem dX1_init_17 : decode cX1_init 17 = .ok (.putfield 15, 3) := by decide +kernel
theorem dX1_init_20 : decode cX1_init 20 = .ok (.aload_n 0, 1) := by decide +kernel
theorem dX1_init_21 : decode cX1_init 21 = .ok (.bipush 12, 2) := by decide +kernel
theorem dX1_init_23 : decode cX1_init 23 = .ok (.newarray .int, 2) := by decide +kernel
theorem dX1_init_25 : decode cX1_init 25 = .ok (.putfield 18, 3) := by decide +kernel
theorem dX1_init_28 : decode cX1_init 28 = .ok (.aload_n 0, 1) := by decide +kernel
theorem dX1_init_29 : decode cX1_init 29 = .ok (.bipush 60, 2) := by decide +kernel
theorem dX1_init_31 : decode cX1_init 31 = .ok (.newarray .int, 2) := by decide +kernel
theorem dX1_init_33 : decode cX1_init 33 = .ok (.putfield 21, 3) := by decide +kernel
theorem dX1_init_36 : decode cX1_init 36 = .ok (.aload_n 0, 1) := by decide +kernel
theorem dX1_init_37 : decode cX1_init 37 = .ok (.bipush 30, 2) := by decide +kernel
theorem dX1_init_39 : decode cX1_init 39 = .ok (.anewarray 24, 3) := by decide +kernel
theorem dX1_init_42 : decode cX1_init 42 = .ok (.putfield 26, 3) := by decide +kernel
theorem dX1_init_45 : decode cX1_init 45 = .ok (.iconst 0, 1) := by decide +kernel
theorem dX1_init_46 : decode cX1_init 46 = .ok (.istore_n 1, 1) := by decide +kernel
theorem dX1_init_47 : decode cX1_init 47 = .ok (.iload_n 1, 1) := by decide +kernel
theorem dX1_init_48 : decode cX1_init 48 = .ok (.bipush 30, 2) := by decide +kernel
theorem dX1_init_50 : decode cX1_init 50 = .ok (.if_icmp .ge 22, 3) := by decide +kernel
theorem dX1_init_53 : decode cX1_init 53 = .ok (.aload_n 0, 1) := by decide +kernel
theorem dX1_init_54 : decode cX1_init 54 = .ok (.getfield 26, 3) := by decide +kernel
theorem dX1_init_57 : decode cX1_init 57 = .ok (.iload_n 1, 1) := by decide +kernel
theorem dX1_init_58 : decode cX1_init 58 = .ok (.new 24, 3) := by decide +kernel
theorem dX1_init_61 : decode cX1_init 61 = .ok (.dup, 1) := by decide +kernel
theorem dX1_init_62 : decode cX1_init 62 = .ok (.invokespecial 30, 3) := by decide +kernel
theorem dX1_init_65 : decode cX1_init 65 = .ok (.aastore, 1) := by decide +kernel
theorem dX1_init_66 : decode cX1_init 66 = .ok (.iinc 1 1, 3) := by decide +kernel
theorem dX1_init_69 : decode cX1_init 69 = .ok (.goto (-22), 3) := by decide +kernel
theorem dX1_init_72 : decode cX1_init 72 = .ok (.aload_n 0, 1) := by decide +kernel
theorem dX1_init_73 : decode cX1_init 73 = .ok (.bipush 12, 2) := by decide +kernel
theorem dX1_init_75 : decode cX1_init 75 = .ok (.invokevirtual 31, 3) := by decide +kernel
theorem dX1_init_78 : decode cX1_init 78 = .ok (.return_, 1) := by decide +kernel
theorem dX1_clear_0 : decode cX1_clear 0 = .ok (.aload_n 0, 1) := by decide +kernel
theorem dX1_clear_1 : decode cX1_clear 1 = .ok (.iload_n 1, 1) := by decide +kernel
theorem dX1_clear_2 : decode cX1_clear 2 = .ok (.putfield 35, 3) := by decide +kernel
theorem dX1_clear_5 : decode cX1_clear 5 = .ok (.aload_n 0, 1) := by decide +kernel
theorem dX1_clear_6 : decode cX1_clear 6 = .ok (.iconst 0, 1) := by decide +kernel
theorem dX1_clear_7 : decode cX1_clear 7 = .ok (.putfield 39, 3) := by decide +kernel
theorem dX1_clear_10 : decode cX1_clear 10 = .ok (.aload_n 0, 1) := by decide +kernel
theorem dX1_clear_11 : decode cX1_clear 11 = .ok (.iconst 0, 1) := by decide +kernel
theorem dX1_clear_12 : decode cX1_clear 12 = .ok (.putfield 42, 3) := by decide +kernel
theorem dX1_clear_15 : decode cX1_clear 15 = .ok (.aload_n 0, 1) := by decide +kernel
theorem dX1_clear_16 : decode cX1_clear 16 = .ok (.iconst 0, 1) := by decide +kernel
theorem dX1_clear_17 : decode cX1_clear 17 = .ok (.putfield 45, 3) := by decide +kernel
theorem dX1_clear_20 : decode cX1_clear 20 = .ok (.aload_n 0, 1) := by decide +kernel
theorem dX1_clear_21 : decode cX1_clear 21 = .ok (.iconst 0, 1) := by decide +kernel
theorem dX1_clear_22 : decode cX1_clear 22 = .ok (.putfield 48, 3) := by decide +kernel
theorem dX1_clear_25 : decode cX1_clear 25 = .ok (.iconst 0, 1) := by decide +kernel
end
section
theorem dX1_clear_26 : decode cX1_clear 26 = .ok (.istore_n 2, 1) := by decide +kernel
theorem dX1_clear_27 : decode cX1_clear 27 = .ok (.iload_n 2, 1) := by decide +kernel
theorem dX1_clear_28 : decode cX1_clear 28 = .ok (.bipush 12, 2) := by decide +kernel
theorem dX1_clear_30 : decode cX1_clear 30 = .ok (.if_icmp .ge 35, 3) := by decide +kernel
theorem dX1_clear_33 : decode cX1_clear 33 = .ok (.aload_n 0, 1) := by decide +kernel
theorem dX1_clear_34 : decode cX1_clear 34 = .ok (.getfield 9, 3) := by decide +kernel
theorem dX1_clear_37 : decode cX1_clear 37 = .ok (.iload_n 2, 1) := by decide +kernel
theorem dX1_clear_38 : decode cX1_clear 38 = .ok (.iconst 0, 1) := by decide +kernel
theorem dX1_clear_39 : decode cX1_clear 39 = .ok (.iastore, 1) := by decide +kernel
theorem dX1_clear_40 : decode cX1_clear 40 = .ok (.aload_n 0, 1) := by decide +kernel
theorem dX1_clear_41 : decode cX1_clear 41 = .ok (.getfield 15, 3) := by decide +kernel
theorem dX1_clear_44 : decode cX1_clear 44 = .ok (.iload_n 2, 1) := by decide +kernel
theorem dX1_clear_45 : decode cX1_clear 45 = .ok (.iconst 0, 1) := by decide +kernel
theorem dX1_clear_46 : decode cX1_clear 46 = .ok (.iastore, 1) := by decide +kernel
theorem dX1_clear_47 : decode cX1_clear 47 = .ok (.aload_n 0, 1) := by decide +kernel
theorem dX1_clear_48 : decode cX1_clear 48 = .ok (.getfield 18, 3) := by decide +kernel
theorem dX1_clear_51 : decode cX1_clear 51 = .ok (.iload_n 2, 1) := by decide +kernel
theorem dX1_clear_52 : decode cX1_clear 52 = .ok (.bipush 100, 2) := by decide +kernel
theorem dX1_clear_54 : decode cX1_clear 54 = .ok (.iload_n 2, 1) := by decide +kernel
theorem dX1_clear_55 : decode cX1_clear 55 = .ok (.iconst 1, 1) := by decide +kernel
theorem dX1_clear_56 : decode cX1_clear 56 = .ok (.iadd, 1) := by decide +kernel
theorem dX1_clear_57 : decode cX1_clear 57 = .ok (.imul, 1) := by decide +kernel
theorem dX1_clear_58 : decode cX1_clear 58 = .ok (.iastore, 1) := by decide +kernel
theorem dX1_clear_59 : decode cX1_clear 59 = .ok (.iinc 2 1, 3) := by decide +kernel
theorem dX1_clear_62 : decode cX1_clear 62 = .ok (.goto (-35), 3) := by decide +kernel
theorem dX1_clear_65 : decode cX1_clear 65 = .ok (.iconst 0, 1) := by decide +kernel
theorem dX1_clear_66 : decode cX1_clear 66 = .ok (.istore_n 2, 1) := by decide +kernel
theorem dX1_clear_67 : decode cX1_clear 67 = .ok (.iload_n 2, 1) := by decide +kernel
theorem dX1_clear_68 : decode cX1_clear 68 = .ok (.bipush 60, 2) := by decide +kernel
theorem dX1_clear_70 : decode cX1_clear 70 = .ok (.if_icmp .ge 16, 3) := by decide +kernel
theorem dX1_clear_73 : decode cX1_clear 73 = .ok (.aload_n 0, 1) := by decide +kernel
theorem dX1_clear_74 : decode cX1_clear 74 = .ok (.getfield 21, 3) := by decide +kernel
theorem dX1_clear_77 : decode cX1_clear 77 = .ok (.iload_n 2, 1) := by decide +kernel
theorem dX1_clear_78 : decode cX1_clear 78 = .ok (.iconst 0, 1) := by decide +kernel
theorem dX1_clear_79 : decode cX1_clear 79 = .ok (.iastore, 1) := by decide +kernel
theorem dX1_clear_80 : decode cX1_clear 80 = .ok (.iinc 2 1, 3) := by decide +kernel
theorem dX1_clear_83 : decode cX1_clear 83 = .ok (.goto (-16), 3) := by decide +kernel
theorem dX1_clear_86 : decode cX1_clear 86 = .ok (.return_, 1) := by decide +kernel
theorem dX1_becomeLike_0 : decode cX1_becomeLike 0 = .ok (.aload_n 0, 1) := by decide +kernel
theorem dX1_becomeLike_1 : decode cX1_becomeLike 1 = .ok (.aload_n 1, 1) := by decide +kernel
theorem dX1_becomeLike_2 : decode cX1_becomeLike 2 = .ok (.getfield 35, 3) := by decide +kernel
theorem dX1_becomeLike_5 : decode cX1_becomeLike 5 = .ok (.putfield 35, 3) := by decide +kernel
theorem dX1_becomeLike_8 : decode cX1_becomeLike 8 = .ok (.aload_n 0, 1) := by decide +kernel
theorem dX1_becomeLike_9 : decode cX1_becomeLike 9 = .ok (.aload_n 1, 1) := by decide +kernel
theorem dX1_becomeLike_10 : decode cX1_becomeLike 10 = .ok (.getfield 51, 3) := by decide +kernel
theorem dX1_becomeLike_13 : decode cX1_becomeLike 13 = .ok (.putfield 51, 3) := by decide +kernel
theorem dX1_becomeLike_16 : decode cX1_becomeLike 16 = .ok (.aload_n 0, 1) := by decide +kernel
theorem dX1_becomeLike_17 : decode cX1_becomeLike 17 = .ok (.aload_n 1, 1) := by decide +kernel
theorem dX1_becomeLike_18 : decode cX1_becomeLike 18 = .ok (.getfield 54, 3) := by decide +kernel
theorem dX1_becomeLike_21 : decode cX1_becomeLike 21 = .ok (.putfield 54, 3) := by decide +kernel
theorem dX1_becomeLike_24 : decode cX1_becomeLike 24 = .ok (.aload_n 0, 1) := by decide +kernel
theorem dX1_becomeLike_25 : decode cX1_becomeLike 25 = .ok (.aload_n 1, 1) := by decide +kernel
theorem dX1_becomeLike_26 : decode cX1_becomeLike 26 = .ok (.getfield 57, 3) := by decide +kernel
theorem dX1_becomeLike_29 : decode cX1_becomeLike 29 = .ok (.putfield 57, 3) := by decide +kernel
theorem dX1_becomeLike_32 : decode cX1_becomeLike 32 = .ok (.aload_n 0, 1) := by decide +kernel
theorem dX1_becomeLike_33 : decode cX1_becomeLike 33 = .ok (.aload_n 1, 1) := by decide +kernel
theorem dX1_becomeLike_34 : decode cX1_becomeLike 34 = .ok (.getfield 39, 3) := by decide +kernel
theorem dX1_becomeLike_37 : decode cX1_becomeLike 37 = .ok (.putfield 39, 3) := by decide +kernel
theorem dX1_becomeLike_40 : decode cX1_becomeLike 40 = .ok (.aload_n 0, 1) := by decide +kernel
theorem dX1_becomeLike_41 : decode cX1_becomeLike 41 = .ok (.aload_n 1, 1) := by decide +kernel
theorem dX1_becomeLike_42 : decode cX1_becomeLike 42 = .ok (.getfield 42, 3) := by decide +kernel
theorem dX1_becomeLike_45 : decode cX1_becomeLike 45 = .ok (.putfield 42, 3) := by decide +kernel
theorem dX1_becomeLike_48 : decode cX1_becomeLike 48 = .ok (.aload_n 0, 1) := by decide +kernel
theorem dX1_becomeLike_49 : decode cX1_becomeLike 49 = .ok (.aload_n 1, 1) := by decide +kernel
theorem dX1_becomeLike_50 : decode cX1_becomeLike 50 = .ok (.getfield 45, 3) := by decide +kernel
theorem dX1_becomeLike_53 : decode cX1_becomeLike 53 = .ok (.putfield 45, 3) := by decide +kernel
theorem dX1_becomeLike_56 : decode cX1_becomeLike 56 = .ok (.aload_n 0, 1) := by decide +kernel
theorem dX1_becomeLike_57 : decode cX1_becomeLike 57 = .ok (.aload_n 1, 1) := by decide +kernel
theorem dX1_becomeLike_58 : decode cX1_becomeLike 58 = .ok (.getfield 48, 3) := by decide +kernel
theorem dX1_becomeLike_61 : decode cX1_becomeLike 61 = .ok (.putfield 48, 3) := by decide +kernel
theorem dX1_becomeLike_64 : decode cX1_becomeLike 64 = .ok (.aload_n 1, 1) := by decide +kernel
theorem dX1_becomeLike_65 : decode cX1_becomeLike 65 = .ok (.getfield 9, 3) := by decide +kernel
theorem dX1_becomeLike_68 : decode cX1_becomeLike 68 = .ok (.iconst 0, 1) := by decide +kernel
theorem dX1_becomeLike_69 : decode cX1_becomeLike 69 = .ok (.aload_n 0, 1) := by decide +kernel
theorem dX1_becomeLike_70 : decode cX1_becomeLike 70 = .ok (.getfield 9, 3) := by decide +kernel
theorem dX1_becomeLike_73 : decode cX1_becomeLike 73 = .ok (.iconst 0, 1) := by decide +kernel
theorem dX1_becomeLike_74 : decode cX1_becomeLike 74 = .ok (.bipush 12, 2) := by decide +kernel
theorem dX1_becomeLike_76 : decode cX1_becomeLike 76 = .ok (.invokestatic 61, 3) := by decide +kernel
theorem dX1_becomeLike_79 : decode cX1_becomeLike 79 = .ok (.aload_n 1, 1) := by decide +kernel
theorem dX1_becomeLike_80 : decode cX1_becomeLike 80 = .ok (.getfield 15, 3) := by decide +kernel
theorem dX1_becomeLike_83 : decode cX1_becomeLike 83 = .ok (.iconst 0, 1) := by decide +kernel
theorem dX1_becomeLike_84 : decode cX1_becomeLike 84 = .ok (.aload_n 0, 1) := by decide +kernel
theorem dX1_becomeLike_85 : decode cX1_becomeLike 85 = .ok (.getfield 15, 3) := by decide +kernel
theorem dX1_becomeLike_88 : decode cX1_becomeLike 88 = .ok (.iconst 0, 1) := by decide +kernel
theorem dX1_becomeLike_89 : decode cX1_becomeLike 89 = .ok (.bipush 12, 2) := by decide +kernel
theorem dX1_becomeLike_91 : decode cX1_becomeLike 91 = .ok (.invokestatic 61, 3) := by decide +kernel
theorem dX1_becomeLike_94 : decode cX1_becomeLike 94 = .ok (.aload_n 1, 1) := by decide +kernel
theorem dX1_becomeLike_95 : decode cX1_becomeLike 95 = .ok (.getfield 18, 3) := by decide +kernel
theorem dX1_becomeLike_98 : decode cX1_becomeLike 98 = .ok (.iconst 0, 1) := by decide +kernel
theorem dX1_becomeLike_99 : decode cX1_becomeLike 99 = .ok (.aload_n 0, 1) := by decide +kernel
theorem dX1_becomeLike_100 : decode cX1_becomeLike 100 = .ok (.getfield 18, 3) := by decide +kernel
theorem dX1_becomeLike_103 : decode cX1_becomeLike 103 = .ok (.iconst 0, 1) := by decide +kernel
theorem dX1_becomeLike_104 : decode cX1_becomeLike 104 = .ok (.bipush 12, 2) := by decide +kernel
theorem dX1_becomeLike_106 : decode cX1_becomeLike 106 = .ok (.invokestatic 61, 3) := by decide +kernel
theorem dX1_becomeLike_109 : decode cX1_becomeLike 109 = .ok (.aload_n 1, 1) := by decide +kernel
theorem dX1_becomeLike_110 : decode cX1_becomeLike 110 = .ok (.getfield 21, 3) := by decide +kernel
theorem dX1_becomeLike_113 : decode cX1_becomeLike 113 = .ok (.iconst 0, 1) := by decide +kernel
theorem dX1_becomeLike_114 : decode cX1_becomeLike 114 = .ok (.aload_n 0, 1) := by decide +kernel
theorem dX1_becomeLike_115 : decode cX1_becomeLike 115 = .ok (.getfield 21, 3) := by decide +kernel
theorem dX1_becomeLike_118 : decode cX1_becomeLike 118 = .ok (.iconst 0, 1) := by decide +kernel
theorem dX1_becomeLike_119 : decode cX1_becomeLike 119 = .ok (.bipush 60, 2) := by decide +kernel
theorem dX1_becomeLike_121 : decode cX1_becomeLike 121 = .ok (.invokestatic 61, 3) := by decide +kernel
theorem dX1_becomeLike_124 : decode cX1_becomeLike 124 = .ok (.iconst 0, 1) := by decide +kernel
theorem dX1_becomeLike_125 : decode cX1_becomeLike 125 = .ok (.istore_n 2, 1) := by decide +kernel
theorem dX1_becomeLike_126 : decode cX1_becomeLike 126 = .ok (.iload_n 2, 1) := by decide +kernel
theorem dX1_becomeLike_127 : decode cX1_becomeLike 127 = .ok (.aload_n 0, 1) := by decide +kernel
theorem dX1_becomeLike_128 : decode cX1_becomeLike 128 = .ok (.getfield 45, 3) := by decide +kernel
theorem dX1_becomeLike_131 : decode cX1_becomeLike 131 = .ok (.if_icmp .ge 24, 3) := by decide +kernel
theorem dX1_becomeLike_134 : decode cX1_becomeLike 134 = .ok (.aload_n 0, 1) := by decide +kernel
theorem dX1_becomeLike_135 : decode cX1_becomeLike 135 = .ok (.getfield 26, 3) := by decide +kernel
theorem dX1_becomeLike_138 : decode cX1_becomeLike 138 = .ok (.iload_n 2, 1) := by decide +kernel
theorem dX1_becomeLike_139 : decode cX1_becomeLike 139 = .ok (.aaload, 1) := by decide +kernel
theorem dX1_becomeLike_140 : decode cX1_becomeLike 140 = .ok (.aload_n 1, 1) := by decide +kernel
theorem dX1_becomeLike_141 : decode cX1_becomeLike 141 = .ok (.getfield 26, 3) := by decide +kernel
theorem dX1_becomeLike_144 : decode cX1_becomeLike 144 = .ok (.iload_n 2, 1) := by decide +kernel
theorem dX1_becomeLike_145 : decode cX1_becomeLike 145 = .ok (.aaload, 1) := by decide +kernel
theorem dX1_becomeLike_146 : decode cX1_becomeLike 146 = .ok (.invokevirtual 67, 3) := by decide +kernel
theorem dX1_becomeLike_149 : decode cX1_becomeLike 149 = .ok (.iinc 2 1, 3) := by decide +kernel
theorem dX1_becomeLike_152 : decode cX1_becomeLike 152 = .ok (.goto (-26), 3) := by decide +kernel
theorem dX1_becomeLike_155 : decode cX1_becomeLike 155 = .ok (.return_, 1) := by decide +kernel
theorem dX1_isRing_0 : decode cX1_isRing 0 = .ok (.iload_n 1, 1) := by decide +kernel
theorem dX1_isRing_1 : decode cX1_isRing 1 = .ok (.iconst 0, 1) := by decide +kernel
theorem dX1_isRing_2 : decode cX1_isRing 2 = .ok (.aload_n 0, 1) := by decide +kernel
theorem dX1_isRing_3 : decode cX1_isRing 3 = .ok (.getfield 35, 3) := by decide +kernel
theorem dX1_isRing_6 : decode cX1_isRing 6 = .ok (.iconst 1, 1) := by decide +kernel
theorem dX1_isRing_7 : decode cX1_isRing 7 = .ok (.isub, 1) := by decide +kernel
theorem dX1_isRing_8 : decode cX1_isRing 8 = .ok (.invokestatic 71, 3) := by decide +kernel
theorem dX1_isRing_11 : decode cX1_isRing 11 = .ok (.ireturn, 1) := by decide +kernel
theorem dX1_isLump_0 : decode cX1_isLump 0 = .ok (.iload_n 1, 1) := by decide +kernel
theorem dX1_isLump_1 : decode cX1_isLump 1 = .ok (.iconst 0, 1) := by decide +kernel
theorem dX1_isLump_2 : decode cX1_isLump 2 = .ok (.aload_n 0, 1) := by decide +kernel
theorem dX1_isLump_3 : decode cX1_isLump 3 = .ok (.getfield 45, 3) := by decide +kernel
theorem dX1_isLump_6 : decode cX1_isLump 6 = .ok (.iconst 1, 1) := by decide +kernel
theorem dX1_isLump_7 : decode cX1_isLump 7 = .ok (.isub, 1) := by decide +kernel
theorem dX1_isLump_8 : decode cX1_isLump 8 = .ok (.invokestatic 71, 3) := by decide +kernel
theorem dX1_isLump_11 : decode cX1_isLump 11 = .ok (.ireturn, 1) := by decide +kernel
theorem dX1_allDustIn_0 : decode cX1_allDustIn 0 = .ok (.iload_n 1, 1) := by decide +kernel
theorem dX1_allDustIn_1 : decode cX1_allDustIn 1 = .ok (.iconst 5, 1) := by decide +kernel
theorem dX1_allDustIn_2 : decode cX1_allDustIn 2 = .ok (.imul, 1) := by decide +kernel
theorem dX1_allDustIn_3 : decode cX1_allDustIn 3 = .ok (.istore_n 2, 1) := by decide +kernel
theorem dX1_allDustIn_4 : decode cX1_allDustIn 4 = .ok (.aload_n 0, 1) := by decide +kernel
theorem dX1_allDustIn_5 : decode cX1_allDustIn 5 = .ok (.getfield 21, 3) := by decide +kernel
theorem dX1_allDustIn_8 : decode cX1_allDustIn 8 = .ok (.iload_n 2, 1) := by decide +kernel
theorem dX1_allDustIn_9 : decode cX1_allDustIn 9 = .ok (.iaload, 1) := by decide +kernel
theorem dX1_allDustIn_10 : decode cX1_allDustIn 10 = .ok (.aload_n 0, 1) := by decide +kernel
theorem dX1_allDustIn_11 : decode cX1_allDustIn 11 = .ok (.getfield 21, 3) := by decide +kernel
theorem dX1_allDustIn_14 : decode cX1_allDustIn 14 = .ok (.iload_n 2, 1) := by decide +kernel
theorem dX1_allDustIn_15 : decode cX1_allDustIn 15 = .ok (.iconst 1, 1) := by decide +kernel
theorem dX1_allDustIn_16 : decode cX1_allDustIn 16 = .ok (.iadd, 1) := by decide +kernel
theorem dX1_allDustIn_17 : decode cX1_allDustIn 17 = .ok (.iaload, 1) := by decide +kernel
theorem dX1_allDustIn_18 : decode cX1_allDustIn 18 = .ok (.iadd, 1) := by decide +kernel
theorem dX1_allDustIn_19 : decode cX1_allDustIn 19 = .ok (.aload_n 0, 1) := by decide +kernel
theorem dX1_allDustIn_20 : decode cX1_allDustIn 20 = .ok (.getfield 21, 3) := by decide +kernel
theorem dX1_allDustIn_23 : decode cX1_allDustIn 23 = .ok (.iload_n 2, 1) := by decide +kernel
theorem dX1_allDustIn_24 : decode cX1_allDustIn 24 = .ok (.iconst 2, 1) := by decide +kernel
theorem dX1_allDustIn_25 : decode cX1_allDustIn 25 = .ok (.iadd, 1) := by decide +kernel
theorem dX1_allDustIn_26 : decode cX1_allDustIn 26 = .ok (.iaload, 1) := by decide +kernel
theorem dX1_allDustIn_27 : decode cX1_allDustIn 27 = .ok (.iadd, 1) := by decide +kernel
theorem dX1_allDustIn_28 : decode cX1_allDustIn 28 = .ok (.aload_n 0, 1) := by decide +kernel
theorem dX1_allDustIn_29 : decode cX1_allDustIn 29 = .ok (.getfield 21, 3) := by decide +kernel
theorem dX1_allDustIn_32 : decode cX1_allDustIn 32 = .ok (.iload_n 2, 1) := by decide +kernel
theorem dX1_allDustIn_33 : decode cX1_allDustIn 33 = .ok (.iconst 3, 1) := by decide +kernel
theorem dX1_allDustIn_34 : decode cX1_allDustIn 34 = .ok (.iadd, 1) := by decide +kernel
theorem dX1_allDustIn_35 : decode cX1_allDustIn 35 = .ok (.iaload, 1) := by decide +kernel
theorem dX1_allDustIn_36 : decode cX1_allDustIn 36 = .ok (.iadd, 1) := by decide +kernel
theorem dX1_allDustIn_37 : decode cX1_allDustIn 37 = .ok (.aload_n 0, 1) := by decide +kernel
theorem dX1_allDustIn_38 : decode cX1_allDustIn 38 = .ok (.getfield 21, 3) := by decide +kernel
theorem dX1_allDustIn_41 : decode cX1_allDustIn 41 = .ok (.iload_n 2, 1) := by decide +kernel
theorem dX1_allDustIn_42 : decode cX1_allDustIn 42 = .ok (.iconst 4, 1) := by decide +kernel
theorem dX1_allDustIn_43 : decode cX1_allDustIn 43 = .ok (.iadd, 1) := by decide +kernel
theorem dX1_allDustIn_44 : decode cX1_allDustIn 44 = .ok (.iaload, 1) := by decide +kernel
theorem dX1_allDustIn_45 : decode cX1_allDustIn 45 = .ok (.iadd, 1) := by decide +kernel
theorem dX1_allDustIn_46 : decode cX1_allDustIn 46 = .ok (.ireturn, 1) := by decide +kernel
theorem dX1_wayFrom_0 : decode cX1_wayFrom 0 = .ok (.aload_n 0, 1) := by decide +kernel
theorem dX1_wayFrom_1 : decode cX1_wayFrom 1 = .ok (.getfield 9, 3) := by decide +kernel
theorem dX1_wayFrom_4 : decode cX1_wayFrom 4 = .ok (.iload_n 1, 1) := by decide +kernel
theorem dX1_wayFrom_5 : decode cX1_wayFrom 5 = .ok (.iaload, 1) := by decide +kernel
theorem dX1_wayFrom_6 : decode cX1_wayFrom 6 = .ok (.istore_n 2, 1) := by decide +kernel
theorem dX1_wayFrom_7 : decode cX1_wayFrom 7 = .ok (.iload_n 1, 1) := by decide +kernel
theorem dX1_wayFrom_8 : decode cX1_wayFrom 8 = .ok (.istore_n 3, 1) := by decide +kernel
theorem dX1_wayFrom_9 : decode cX1_wayFrom 9 = .ok (.iload_n 1, 1) := by decide +kernel
theorem dX1_wayFrom_10 : decode cX1_wayFrom 10 = .ok (.ifCond .ne 10, 3) := by decide +kernel
theorem dX1_wayFrom_13 : decode cX1_wayFrom 13 = .ok (.aload_n 0, 1) := by decide +kernel
theorem dX1_wayFrom_14 : decode cX1_wayFrom 14 = .ok (.getfield 54, 3) := by decide +kernel
theorem dX1_wayFrom_17 : decode cX1_wayFrom 17 = .ok (.goto 11, 3) := by decide +kernel
theorem dX1_wayFrom_20 : decode cX1_wayFrom 20 = .ok (.aload_n 0, 1) := by decide +kernel
theorem dX1_wayFrom_21 : decode cX1_wayFrom 21 = .ok (.getfield 9, 3) := by decide +kernel
theorem dX1_wayFrom_24 : decode cX1_wayFrom 24 = .ok (.iload_n 1, 1) := by decide +kernel
theorem dX1_wayFrom_25 : decode cX1_wayFrom 25 = .ok (.iconst 1, 1) := by decide +kernel
theorem dX1_wayFrom_26 : decode cX1_wayFrom 26 = .ok (.isub, 1) := by decide +kernel
theorem dX1_wayFrom_27 : decode cX1_wayFrom 27 = .ok (.iaload, 1) := by decide +kernel
theorem dX1_wayFrom_28 : decode cX1_wayFrom 28 = .ok (.istore 4, 2) := by decide +kernel
theorem dX1_wayFrom_30 : decode cX1_wayFrom 30 = .ok (.iload 4, 2) := by decide +kernel
theorem dX1_wayFrom_32 : decode cX1_wayFrom 32 = .ok (.iload_n 2, 1) := by decide +kernel
theorem dX1_wayFrom_33 : decode cX1_wayFrom 33 = .ok (.if_icmp .le 10, 3) := by decide +kernel
theorem dX1_wayFrom_36 : decode cX1_wayFrom 36 = .ok (.iload 4, 2) := by decide +kernel
theorem dX1_wayFrom_38 : decode cX1_wayFrom 38 = .ok (.istore_n 2, 1) := by decide +kernel
theorem dX1_wayFrom_39 : decode cX1_wayFrom 39 = .ok (.iload_n 1, 1) := by decide +kernel
theorem dX1_wayFrom_40 : decode cX1_wayFrom 40 = .ok (.iconst 1, 1) := by decide +kernel
theorem dX1_wayFrom_41 : decode cX1_wayFrom 41 = .ok (.isub, 1) := by decide +kernel
theorem dX1_wayFrom_42 : decode cX1_wayFrom 42 = .ok (.istore_n 3, 1) := by decide +kernel
theorem dX1_wayFrom_43 : decode cX1_wayFrom 43 = .ok (.iload_n 1, 1) := by decide +kernel
theorem dX1_wayFrom_44 : decode cX1_wayFrom 44 = .ok (.iconst 1, 1) := by decide +kernel
theorem dX1_wayFrom_45 : decode cX1_wayFrom 45 = .ok (.iadd, 1) := by decide +kernel
theorem dX1_wayFrom_46 : decode cX1_wayFrom 46 = .ok (.aload_n 0, 1) := by decide +kernel
theorem dX1_wayFrom_47 : decode cX1_wayFrom 47 = .ok (.getfield 35, 3) := by decide +kernel
theorem dX1_wayFrom_50 : decode cX1_wayFrom 50 = .ok (.if_icmp .ge 14, 3) := by decide +kernel
theorem dX1_wayFrom_53 : decode cX1_wayFrom 53 = .ok (.aload_n 0, 1) := by decide +kernel
theorem dX1_wayFrom_54 : decode cX1_wayFrom 54 = .ok (.getfield 9, 3) := by decide +kernel
theorem dX1_wayFrom_57 : decode cX1_wayFrom 57 = .ok (.iload_n 1, 1) := by decide +kernel
theorem dX1_wayFrom_58 : decode cX1_wayFrom 58 = .ok (.iconst 1, 1) := by decide +kernel
theorem dX1_wayFrom_59 : decode cX1_wayFrom 59 = .ok (.iadd, 1) := by decide +kernel
theorem dX1_wayFrom_60 : decode cX1_wayFrom 60 = .ok (.iaload, 1) := by decide +kernel
theorem dX1_wayFrom_61 : decode cX1_wayFrom 61 = .ok (.goto 4, 3) := by decide +kernel
theorem dX1_wayFrom_64 : decode cX1_wayFrom 64 = .ok (.iconst 0, 1) := by decide +kernel
theorem dX1_wayFrom_65 : decode cX1_wayFrom 65 = .ok (.istore 5, 2) := by decide +kernel
theorem dX1_wayFrom_67 : decode cX1_wayFrom 67 = .ok (.iload 5, 2) := by decide +kernel
theorem dX1_wayFrom_69 : decode cX1_wayFrom 69 = .ok (.iload_n 2, 1) := by decide +kernel
theorem dX1_wayFrom_70 : decode cX1_wayFrom 70 = .ok (.if_icmp .le 7, 3) := by decide +kernel
theorem dX1_wayFrom_73 : decode cX1_wayFrom 73 = .ok (.iload_n 1, 1) := by decide +kernel
theorem dX1_wayFrom_74 : decode cX1_wayFrom 74 = .ok (.iconst 1, 1) := by decide +kernel
theorem dX1_wayFrom_75 : decode cX1_wayFrom 75 = .ok (.iadd, 1) := by decide +kernel
theorem dX1_wayFrom_76 : decode cX1_wayFrom 76 = .ok (.istore_n 3, 1) := by decide +kernel
theorem dX1_wayFrom_77 : decode cX1_wayFrom 77 = .ok (.iload_n 3, 1) := by decide +kernel
theorem dX1_wayFrom_78 : decode cX1_wayFrom 78 = .ok (.ireturn, 1) := by decide +kernel
theorem dX1_isTrap_0 : decode cX1_isTrap 0 = .ok (.aload_n 0, 1) := by decide +kernel
theorem dX1_isTrap_1 : decode cX1_isTrap 1 = .ok (.iload_n 1, 1) := by decide +kernel
theorem dX1_isTrap_2 : decode cX1_isTrap 2 = .ok (.invokevirtual 75, 3) := by decide +kernel
theorem dX1_isTrap_5 : decode cX1_isTrap 5 = .ok (.iload_n 1, 1) := by decide +kernel
theorem dX1_isTrap_6 : decode cX1_isTrap 6 = .ok (.if_icmp .ne 7, 3) := by decide +kernel
theorem dX1_isTrap_9 : decode cX1_isTrap 9 = .ok (.iconst 1, 1) := by decide +kernel
theorem dX1_isTrap_10 : decode cX1_isTrap 10 = .ok (.goto 4, 3) := by decide +kernel
theorem dX1_isTrap_13 : decode cX1_isTrap 13 = .ok (.iconst 0, 1) := by decide +kernel
theorem dX1_isTrap_14 : decode cX1_isTrap 14 = .ok (.ireturn, 1) := by decide +kernel
theorem dX1_howManyTraps_0 : decode cX1_howManyTraps 0 = .ok (.iconst 0, 1) := by decide +kernel
theorem dX1_howManyTraps_1 : decode cX1_howManyTraps 1 = .ok (.istore_n 1, 1) := by decide +kernel
theorem dX1_howManyTraps_2 : decode cX1_howManyTraps 2 = .ok (.iconst 0, 1) := by decide +kernel
theorem dX1_howManyTraps_3 : decode cX1_howManyTraps 3 = .ok (.istore_n 2, 1) := by decide +kernel
theorem dX1_howManyTraps_4 : decode cX1_howManyTraps 4 = .ok (.iload_n 2, 1) := by decide +kernel
theorem dX1_howManyTraps_5 : decode cX1_howManyTraps 5 = .ok (.aload_n 0, 1) := by decide +kernel
theorem dX1_howManyTraps_6 : decode cX1_howManyTraps 6 = .ok (.getfield 35, 3) := by decide +kernel
theorem dX1_howManyTraps_9 : decode cX1_howManyTraps 9 = .ok (.if_icmp .ge 20, 3) := by decide +kernel
theorem dX1_howManyTraps_12 : decode cX1_howManyTraps 12 = .ok (.aload_n 0, 1) := by decide +kernel
theorem dX1_howManyTraps_13 : decode cX1_howManyTraps 13 = .ok (.iload_n 2, 1) := by decide +kernel
theorem dX1_howManyTraps_14 : decode cX1_howManyTraps 14 = .ok (.invokevirtual 79, 3) := by decide +kernel
theorem dX1_howManyTraps_17 : decode cX1_howManyTraps 17 = .ok (.ifCond .eq 6, 3) := by decide +kernel
theorem dX1_howManyTraps_20 : decode cX1_howManyTraps 20 = .ok (.iinc 1 1, 3) := by decide +kernel
theorem dX1_howManyTraps_23 : decode cX1_howManyTraps 23 = .ok (.iinc 2 1, 3) := by decide +kernel
theorem dX1_howManyTraps_26 : decode cX1_howManyTraps 26 = .ok (.goto (-22), 3) := by decide +kernel
theorem dX1_howManyTraps_29 : decode cX1_howManyTraps 29 = .ok (.iload_n 1, 1) := by decide +kernel
theorem dX1_howManyTraps_30 : decode cX1_howManyTraps 30 = .ok (.ireturn, 1) := by decide +kernel
theorem dX1_howManyFamilies_0 : decode cX1_howManyFamilies 0 = .ok (.iconst 0, 1) := by decide +kernel
theorem dX1_howManyFamilies_1 : decode cX1_howManyFamilies 1 = .ok (.istore_n 1, 1) := by decide +kernel
theorem dX1_howManyFamilies_2 : decode cX1_howManyFamilies 2 = .ok (.iconst 0, 1) := by decide +kernel
theorem dX1_howManyFamilies_3 : decode cX1_howManyFamilies 3 = .ok (.istore_n 2, 1) := by decide +kernel
theorem dX1_howManyFamilies_4 : decode cX1_howManyFamilies 4 = .ok (.iload_n 2, 1) := by decide +kernel
theorem dX1_howManyFamilies_5 : decode cX1_howManyFamilies 5 = .ok (.aload_n 0, 1) := by decide +kernel
theorem dX1_howManyFamilies_6 : decode cX1_howManyFamilies 6 = .ok (.getfield 35, 3) := by decide +kernel
theorem dX1_howManyFamilies_9 : decode cX1_howManyFamilies 9 = .ok (.if_icmp .ge 20, 3) := by decide +kernel
theorem dX1_howManyFamilies_12 : decode cX1_howManyFamilies 12 = .ok (.aload_n 0, 1) := by decide +kernel
theorem dX1_howManyFamilies_13 : decode cX1_howManyFamilies 13 = .ok (.iload_n 2, 1) := by decide +kernel
theorem dX1_howManyFamilies_14 : decode cX1_howManyFamilies 14 = .ok (.invokevirtual 83, 3) := by decide +kernel
theorem dX1_howManyFamilies_17 : decode cX1_howManyFamilies 17 = .ok (.ifCond .eq 6, 3) := by decide +kernel
theorem dX1_howManyFamilies_20 : decode cX1_howManyFamilies 20 = .ok (.iinc 1 1, 3) := by decide +kernel
theorem dX1_howManyFamilies_23 : decode cX1_howManyFamilies 23 = .ok (.iinc 2 1, 3) := by decide +kernel
theorem dX1_howManyFamilies_26 : decode cX1_howManyFamilies 26 = .ok (.goto (-22), 3) := by decide +kernel
theorem dX1_howManyFamilies_29 : decode cX1_howManyFamilies 29 = .ok (.iload_n 1, 1) := by decide +kernel
theorem dX1_howManyFamilies_30 : decode cX1_howManyFamilies 30 = .ok (.ireturn, 1) := by decide +kernel
theorem dX1_hasLumpOfFamily_0 : decode cX1_hasLumpOfFamily 0 = .ok (.iconst 0, 1) := by decide +kernel
theorem dX1_hasLumpOfFamily_1 : decode cX1_hasLumpOfFamily 1 = .ok (.istore_n 2, 1) := by decide +kernel
theorem dX1_hasLumpOfFamily_2 : decode cX1_hasLumpOfFamily 2 = .ok (.iload_n 2, 1) := by decide +kernel
theorem dX1_hasLumpOfFamily_3 : decode cX1_hasLumpOfFamily 3 = .ok (.aload_n 0, 1) := by decide +kernel
theorem dX1_hasLumpOfFamily_4 : decode cX1_hasLumpOfFamily 4 = .ok (.getfield 45, 3) := by decide +kernel
theorem dX1_hasLumpOfFamily_7 : decode cX1_hasLumpOfFamily 7 = .ok (.if_icmp .ge 40, 3) := by decide +kernel
theorem dX1_hasLumpOfFamily_10 : decode cX1_hasLumpOfFamily 10 = .ok (.aload_n 0, 1) := by decide +kernel
theorem dX1_hasLumpOfFamily_11 : decode cX1_hasLumpOfFamily 11 = .ok (.getfield 26, 3) := by decide +kernel
theorem dX1_hasLumpOfFamily_14 : decode cX1_hasLumpOfFamily 14 = .ok (.iload_n 2, 1) := by decide +kernel
theorem dX1_hasLumpOfFamily_15 : decode cX1_hasLumpOfFamily 15 = .ok (.aaload, 1) := by decide +kernel
theorem dX1_hasLumpOfFamily_16 : decode cX1_hasLumpOfFamily 16 = .ok (.getfield 86, 3) := by decide +kernel
theorem dX1_hasLumpOfFamily_19 : decode cX1_hasLumpOfFamily 19 = .ok (.ifCond .ne 22, 3) := by decide +kernel
theorem dX1_hasLumpOfFamily_22 : decode cX1_hasLumpOfFamily 22 = .ok (.aload_n 0, 1) := by decide +kernel
theorem dX1_hasLumpOfFamily_23 : decode cX1_hasLumpOfFamily 23 = .ok (.getfield 26, 3) := by decide +kernel
theorem dX1_hasLumpOfFamily_26 : decode cX1_hasLumpOfFamily 26 = .ok (.iload_n 2, 1) := by decide +kernel
theorem dX1_hasLumpOfFamily_27 : decode cX1_hasLumpOfFamily 27 = .ok (.aaload, 1) := by decide +kernel
theorem dX1_hasLumpOfFamily_28 : decode cX1_hasLumpOfFamily 28 = .ok (.aload_n 0, 1) := by decide +kernel
theorem dX1_hasLumpOfFamily_29 : decode cX1_hasLumpOfFamily 29 = .ok (.getfield 35, 3) := by decide +kernel
theorem dX1_hasLumpOfFamily_32 : decode cX1_hasLumpOfFamily 32 = .ok (.invokevirtual 89, 3) := by decide +kernel
theorem dX1_hasLumpOfFamily_35 : decode cX1_hasLumpOfFamily 35 = .ok (.iload_n 1, 1) := by decide +kernel
theorem dX1_hasLumpOfFamily_36 : decode cX1_hasLumpOfFamily 36 = .ok (.if_icmp .ne 5, 3) := by decide +kernel
theorem dX1_hasLumpOfFamily_39 : decode cX1_hasLumpOfFamily 39 = .ok (.iconst 1, 1) := by decide +kernel
theorem dX1_hasLumpOfFamily_40 : decode cX1_hasLumpOfFamily 40 = .ok (.ireturn, 1) := by decide +kernel
theorem dX1_hasLumpOfFamily_41 : decode cX1_hasLumpOfFamily 41 = .ok (.iinc 2 1, 3) := by decide +kernel
theorem dX1_hasLumpOfFamily_44 : decode cX1_hasLumpOfFamily 44 = .ok (.goto (-42), 3) := by decide +kernel
theorem dX1_hasLumpOfFamily_47 : decode cX1_hasLumpOfFamily 47 = .ok (.iconst 0, 1) := by decide +kernel
theorem dX1_hasLumpOfFamily_48 : decode cX1_hasLumpOfFamily 48 = .ok (.ireturn, 1) := by decide +kernel
theorem dX1_hasLumpIn_0 : decode cX1_hasLumpIn 0 = .ok (.iconst 0, 1) := by decide +kernel
theorem dX1_hasLumpIn_1 : decode cX1_hasLumpIn 1 = .ok (.istore_n 2, 1) := by decide +kernel
theorem dX1_hasLumpIn_2 : decode cX1_hasLumpIn 2 = .ok (.iload_n 2, 1) := by decide +kernel
theorem dX1_hasLumpIn_3 : decode cX1_hasLumpIn 3 = .ok (.aload_n 0, 1) := by decide +kernel
theorem dX1_hasLumpIn_4 : decode cX1_hasLumpIn 4 = .ok (.getfield 45, 3) := by decide +kernel
theorem dX1_hasLumpIn_7 : decode cX1_hasLumpIn 7 = .ok (.if_icmp .ge 24, 3) := by decide +kernel
theorem dX1_hasLumpIn_10 : decode cX1_hasLumpIn 10 = .ok (.aload_n 0, 1) := by decide +kernel
theorem dX1_hasLumpIn_11 : decode cX1_hasLumpIn 11 = .ok (.getfield 26, 3) := by decide +kernel
theorem dX1_hasLumpIn_14 : decode cX1_hasLumpIn 14 = .ok (.iload_n 2, 1) := by decide +kernel
theorem dX1_hasLumpIn_15 : decode cX1_hasLumpIn 15 = .ok (.aaload, 1) := by decide +kernel
theorem dX1_hasLumpIn_16 : decode cX1_hasLumpIn 16 = .ok (.iload_n 1, 1) := by decide +kernel
theorem dX1_hasLumpIn_17 : decode cX1_hasLumpIn 17 = .ok (.invokevirtual 92, 3) := by decide +kernel
theorem dX1_hasLumpIn_20 : decode cX1_hasLumpIn 20 = .ok (.ifCond .eq 5, 3) := by decide +kernel
theorem dX1_hasLumpIn_23 : decode cX1_hasLumpIn 23 = .ok (.iconst 1, 1) := by decide +kernel
theorem dX1_hasLumpIn_24 : decode cX1_hasLumpIn 24 = .ok (.ireturn, 1) := by decide +kernel
theorem dX1_hasLumpIn_25 : decode cX1_hasLumpIn 25 = .ok (.iinc 2 1, 3) := by decide +kernel
theorem dX1_hasLumpIn_28 : decode cX1_hasLumpIn 28 = .ok (.goto (-26), 3) := by decide +kernel
theorem dX1_hasLumpIn_31 : decode cX1_hasLumpIn 31 = .ok (.iconst 0, 1) := by decide +kernel
theorem dX1_hasLumpIn_32 : decode cX1_hasLumpIn 32 = .ok (.ireturn, 1) := by decide +kernel
theorem dX1_isLocked_0 : decode cX1_isLocked 0 = .ok (.aload_n 0, 1) := by decide +kernel
theorem dX1_isLocked_1 : decode cX1_isLocked 1 = .ok (.getfield 18, 3) := by decide +kernel
theorem dX1_isLocked_4 : decode cX1_isLocked 4 = .ok (.aload_n 1, 1) := by decide +kernel
theorem dX1_isLocked_5 : decode cX1_isLocked 5 = .ok (.getfield 95, 3) := by decide +kernel
theorem dX1_isLocked_8 : decode cX1_isLocked 8 = .ok (.iaload, 1) := by decide +kernel
theorem dX1_isLocked_9 : decode cX1_isLocked 9 = .ok (.istore_n 2, 1) := by decide +kernel
theorem dX1_isLocked_10 : decode cX1_isLocked 10 = .ok (.iconst 0, 1) := by decide +kernel
theorem dX1_isLocked_11 : decode cX1_isLocked 11 = .ok (.istore_n 3, 1) := by decide +kernel
theorem dX1_isLocked_12 : decode cX1_isLocked 12 = .ok (.iload_n 3, 1) := by decide +kernel
theorem dX1_isLocked_13 : decode cX1_isLocked 13 = .ok (.aload_n 0, 1) := by decide +kernel
theorem dX1_isLocked_14 : decode cX1_isLocked 14 = .ok (.getfield 45, 3) := by decide +kernel
theorem dX1_isLocked_17 : decode cX1_isLocked 17 = .ok (.if_icmp .ge 69, 3) := by decide +kernel
theorem dX1_isLocked_20 : decode cX1_isLocked 20 = .ok (.aload_n 0, 1) := by decide +kernel
theorem dX1_isLocked_21 : decode cX1_isLocked 21 = .ok (.getfield 26, 3) := by decide +kernel
theorem dX1_isLocked_24 : decode cX1_isLocked 24 = .ok (.iload_n 3, 1) := by decide +kernel
theorem dX1_isLocked_25 : decode cX1_isLocked 25 = .ok (.aaload, 1) := by decide +kernel
theorem dX1_isLocked_26 : decode cX1_isLocked 26 = .ok (.astore 4, 2) := by decide +kernel
theorem dX1_isLocked_28 : decode cX1_isLocked 28 = .ok (.aload 4, 2) := by decide +kernel
theorem dX1_isLocked_30 : decode cX1_isLocked 30 = .ok (.getfield 86, 3) := by decide +kernel
theorem dX1_isLocked_33 : decode cX1_isLocked 33 = .ok (.ifCond .ne 47, 3) := by decide +kernel
theorem dX1_isLocked_36 : decode cX1_isLocked 36 = .ok (.aload 4, 2) := by decide +kernel
theorem dX1_isLocked_38 : decode cX1_isLocked 38 = .ok (.getfield 95, 3) := by decide +kernel
theorem dX1_isLocked_41 : decode cX1_isLocked 41 = .ok (.aload_n 1, 1) := by decide +kernel
theorem dX1_isLocked_42 : decode cX1_isLocked 42 = .ok (.getfield 95, 3) := by decide +kernel
theorem dX1_isLocked_45 : decode cX1_isLocked 45 = .ok (.if_icmp .ge 35, 3) := by decide +kernel
theorem dX1_isLocked_48 : decode cX1_isLocked 48 = .ok (.aload_n 0, 1) := by decide +kernel
theorem dX1_isLocked_49 : decode cX1_isLocked 49 = .ok (.getfield 18, 3) := by decide +kernel
theorem dX1_isLocked_52 : decode cX1_isLocked 52 = .ok (.aload 4, 2) := by decide +kernel
theorem dX1_isLocked_54 : decode cX1_isLocked 54 = .ok (.getfield 95, 3) := by decide +kernel
theorem dX1_isLocked_57 : decode cX1_isLocked 57 = .ok (.iaload, 1) := by decide +kernel
theorem dX1_isLocked_58 : decode cX1_isLocked 58 = .ok (.istore 5, 2) := by decide +kernel
theorem dX1_isLocked_60 : decode cX1_isLocked 60 = .ok (.iload_n 2, 1) := by decide +kernel
theorem dX1_isLocked_61 : decode cX1_isLocked 61 = .ok (.iconst 2, 1) := by decide +kernel
theorem dX1_isLocked_62 : decode cX1_isLocked 62 = .ok (.iload 5, 2) := by decide +kernel
theorem dX1_isLocked_64 : decode cX1_isLocked 64 = .ok (.imul, 1) := by decide +kernel
theorem dX1_isLocked_65 : decode cX1_isLocked 65 = .ok (.if_icmp .eq 13, 3) := by decide +kernel
theorem dX1_isLocked_68 : decode cX1_isLocked 68 = .ok (.iconst 2, 1) := by decide +kernel
theorem dX1_isLocked_69 : decode cX1_isLocked 69 = .ok (.iload_n 2, 1) := by decide +kernel
theorem dX1_isLocked_70 : decode cX1_isLocked 70 = .ok (.imul, 1) := by decide +kernel
theorem dX1_isLocked_71 : decode cX1_isLocked 71 = .ok (.iconst 3, 1) := by decide +kernel
theorem dX1_isLocked_72 : decode cX1_isLocked 72 = .ok (.iload 5, 2) := by decide +kernel
theorem dX1_isLocked_74 : decode cX1_isLocked 74 = .ok (.imul, 1) := by decide +kernel
theorem dX1_isLocked_75 : decode cX1_isLocked 75 = .ok (.if_icmp .ne 5, 3) := by decide +kernel
theorem dX1_isLocked_78 : decode cX1_isLocked 78 = .ok (.iconst 1, 1) := by decide +kernel
theorem dX1_isLocked_79 : decode cX1_isLocked 79 = .ok (.ireturn, 1) := by decide +kernel
theorem dX1_isLocked_80 : decode cX1_isLocked 80 = .ok (.iinc 3 1, 3) := by decide +kernel
theorem dX1_isLocked_83 : decode cX1_isLocked 83 = .ok (.goto (-71), 3) := by decide +kernel
theorem dX1_isLocked_86 : decode cX1_isLocked 86 = .ok (.iconst 0, 1) := by decide +kernel
theorem dX1_isLocked_87 : decode cX1_isLocked 87 = .ok (.ireturn, 1) := by decide +kernel
theorem dX1_inRings_0 : decode cX1_inRings 0 = .ok (.lconst 0, 1) := by decide +kernel
theorem dX1_inRings_1 : decode cX1_inRings 1 = .ok (.lstore_n 1, 1) := by decide +kernel
theorem dX1_inRings_2 : decode cX1_inRings 2 = .ok (.iconst 0, 1) := by decide +kernel
theorem dX1_inRings_3 : decode cX1_inRings 3 = .ok (.istore_n 3, 1) := by decide +kernel
theorem dX1_inRings_4 : decode cX1_inRings 4 = .ok (.iload_n 3, 1) := by decide +kernel
theorem dX1_inRings_5 : decode cX1_inRings 5 = .ok (.aload_n 0, 1) := by decide +kernel
theorem dX1_inRings_6 : decode cX1_inRings 6 = .ok (.getfield 35, 3) := by decide +kernel
theorem dX1_inRings_9 : decode cX1_inRings 9 = .ok (.if_icmp .ge 25, 3) := by decide +kernel
theorem dX1_inRings_12 : decode cX1_inRings 12 = .ok (.lload_n 1, 1) := by decide +kernel
theorem dX1_inRings_13 : decode cX1_inRings 13 = .ok (.aload_n 0, 1) := by decide +kernel
theorem dX1_inRings_14 : decode cX1_inRings 14 = .ok (.getfield 9, 3) := by decide +kernel
theorem dX1_inRings_17 : decode cX1_inRings 17 = .ok (.iload_n 3, 1) := by decide +kernel
theorem dX1_inRings_18 : decode cX1_inRings 18 = .ok (.iaload, 1) := by decide +kernel
theorem dX1_inRings_19 : decode cX1_inRings 19 = .ok (.aload_n 0, 1) := by decide +kernel
theorem dX1_inRings_20 : decode cX1_inRings 20 = .ok (.iload_n 3, 1) := by decide +kernel
theorem dX1_inRings_21 : decode cX1_inRings 21 = .ok (.invokevirtual 98, 3) := by decide +kernel
theorem dX1_inRings_24 : decode cX1_inRings 24 = .ok (.iadd, 1) := by decide +kernel
theorem dX1_inRings_25 : decode cX1_inRings 25 = .ok (.i2l, 1) := by decide +kernel
theorem dX1_inRings_26 : decode cX1_inRings 26 = .ok (.ladd, 1) := by decide +kernel
theorem dX1_inRings_27 : decode cX1_inRings 27 = .ok (.lstore_n 1, 1) := by decide +kernel
theorem dX1_inRings_28 : decode cX1_inRings 28 = .ok (.iinc 3 1, 3) := by decide +kernel
theorem dX1_inRings_31 : decode cX1_inRings 31 = .ok (.goto (-27), 3) := by decide +kernel
theorem dX1_inRings_34 : decode cX1_inRings 34 = .ok (.lload_n 1, 1) := by decide +kernel
theorem dX1_inRings_35 : decode cX1_inRings 35 = .ok (.lreturn, 1) := by decide +kernel
theorem dX1_inLumps_0 : decode cX1_inLumps 0 = .ok (.lconst 0, 1) := by decide +kernel
theorem dX1_inLumps_1 : decode cX1_inLumps 1 = .ok (.lstore_n 1, 1) := by decide +kernel
theorem dX1_inLumps_2 : decode cX1_inLumps 2 = .ok (.iconst 0, 1) := by decide +kernel
theorem dX1_inLumps_3 : decode cX1_inLumps 3 = .ok (.istore_n 3, 1) := by decide +kernel
theorem dX1_inLumps_4 : decode cX1_inLumps 4 = .ok (.iload_n 3, 1) := by decide +kernel
theorem dX1_inLumps_5 : decode cX1_inLumps 5 = .ok (.aload_n 0, 1) := by decide +kernel
theorem dX1_inLumps_6 : decode cX1_inLumps 6 = .ok (.getfield 45, 3) := by decide +kernel
theorem dX1_inLumps_9 : decode cX1_inLumps 9 = .ok (.if_icmp .ge 34, 3) := by decide +kernel
theorem dX1_inLumps_12 : decode cX1_inLumps 12 = .ok (.aload_n 0, 1) := by decide +kernel
theorem dX1_inLumps_13 : decode cX1_inLumps 13 = .ok (.getfield 26, 3) := by decide +kernel
theorem dX1_inLumps_16 : decode cX1_inLumps 16 = .ok (.iload_n 3, 1) := by decide +kernel
theorem dX1_inLumps_17 : decode cX1_inLumps 17 = .ok (.aaload, 1) := by decide +kernel
theorem dX1_inLumps_18 : decode cX1_inLumps 18 = .ok (.getfield 86, 3) := by decide +kernel
theorem dX1_inLumps_21 : decode cX1_inLumps 21 = .ok (.ifCond .ne 16, 3) := by decide +kernel
theorem dX1_inLumps_24 : decode cX1_inLumps 24 = .ok (.lload_n 1, 1) := by decide +kernel
theorem dX1_inLumps_25 : decode cX1_inLumps 25 = .ok (.aload_n 0, 1) := by decide +kernel
theorem dX1_inLumps_26 : decode cX1_inLumps 26 = .ok (.getfield 26, 3) := by decide +kernel
theorem dX1_inLumps_29 : decode cX1_inLumps 29 = .ok (.iload_n 3, 1) := by decide +kernel
theorem dX1_inLumps_30 : decode cX1_inLumps 30 = .ok (.aaload, 1) := by decide +kernel
theorem dX1_inLumps_31 : decode cX1_inLumps 31 = .ok (.getfield 101, 3) := by decide +kernel
theorem dX1_inLumps_34 : decode cX1_inLumps 34 = .ok (.i2l, 1) := by decide +kernel
theorem dX1_inLumps_35 : decode cX1_inLumps 35 = .ok (.ladd, 1) := by decide +kernel
theorem dX1_inLumps_36 : decode cX1_inLumps 36 = .ok (.lstore_n 1, 1) := by decide +kernel
theorem dX1_inLumps_37 : decode cX1_inLumps 37 = .ok (.iinc 3 1, 3) := by decide +kernel
theorem dX1_inLumps_40 : decode cX1_inLumps 40 = .ok (.goto (-36), 3) := by decide +kernel
theorem dX1_inLumps_43 : decode cX1_inLumps 43 = .ok (.lload_n 1, 1) := by decide +kernel
theorem dX1_inLumps_44 : decode cX1_inLumps 44 = .ok (.lreturn, 1) := by decide +kernel
theorem dX1_nextOfSeed_0 : decode cX1_nextOfSeed 0 = .ok (.aload_n 0, 1) := by decide +kernel
theorem dX1_nextOfSeed_1 : decode cX1_nextOfSeed 1 = .ok (.aload_n 0, 1) := by decide +kernel
theorem dX1_nextOfSeed_2 : decode cX1_nextOfSeed 2 = .ok (.getfield 57, 3) := by decide +kernel
theorem dX1_nextOfSeed_5 : decode cX1_nextOfSeed 5 = .ok (.ldc2_w 104, 3) := by decide +kernel
theorem dX1_nextOfSeed_8 : decode cX1_nextOfSeed 8 = .ok (.lmul, 1) := by decide +kernel
theorem dX1_nextOfSeed_9 : decode cX1_nextOfSeed 9 = .ok (.ldc2_w 106, 3) := by decide +kernel
theorem dX1_nextOfSeed_12 : decode cX1_nextOfSeed 12 = .ok (.ladd, 1) := by decide +kernel
theorem dX1_nextOfSeed_13 : decode cX1_nextOfSeed 13 = .ok (.ldc2_w 108, 3) := by decide +kernel
theorem dX1_nextOfSeed_16 : decode cX1_nextOfSeed 16 = .ok (.lrem, 1) := by decide +kernel
theorem dX1_nextOfSeed_17 : decode cX1_nextOfSeed 17 = .ok (.putfield 57, 3) := by decide +kernel
theorem dX1_nextOfSeed_20 : decode cX1_nextOfSeed 20 = .ok (.aload_n 0, 1) := by decide +kernel
theorem dX1_nextOfSeed_21 : decode cX1_nextOfSeed 21 = .ok (.getfield 57, 3) := by decide +kernel
theorem dX1_nextOfSeed_24 : decode cX1_nextOfSeed 24 = .ok (.ldc2_w 110, 3) := by decide +kernel
theorem dX1_nextOfSeed_27 : decode cX1_nextOfSeed 27 = .ok (.ldiv, 1) := by decide +kernel
theorem dX1_nextOfSeed_28 : decode cX1_nextOfSeed 28 = .ok (.l2i, 1) := by decide +kernel
theorem dX1_nextOfSeed_29 : decode cX1_nextOfSeed 29 = .ok (.ireturn, 1) := by decide +kernel
theorem dX1_mayOneMoreCome_0 : decode cX1_mayOneMoreCome 0 = .ok (.aload_n 0, 1) := by decide +kernel
theorem dX1_mayOneMoreCome_1 : decode cX1_mayOneMoreCome 1 = .ok (.getfield 45, 3) := by decide +kernel
theorem dX1_mayOneMoreCome_4 : decode cX1_mayOneMoreCome 4 = .ok (.bipush 30, 2) := by decide +kernel
theorem dX1_mayOneMoreCome_6 : decode cX1_mayOneMoreCome 6 = .ok (.if_icmp .ge 7, 3) := by decide +kernel
theorem dX1_mayOneMoreCome_9 : decode cX1_mayOneMoreCome 9 = .ok (.iconst 1, 1) := by decide +kernel
theorem dX1_mayOneMoreCome_10 : decode cX1_mayOneMoreCome 10 = .ok (.goto 4, 3) := by decide +kernel
theorem dX1_mayOneMoreCome_13 : decode cX1_mayOneMoreCome 13 = .ok (.iconst 0, 1) := by decide +kernel
theorem dX1_mayOneMoreCome_14 : decode cX1_mayOneMoreCome 14 = .ok (.ireturn, 1) := by decide +kernel
theorem dX1_gatherAll_0 : decode cX1_gatherAll 0 = .ok (.aload_n 0, 1) := by decide +kernel
theorem dX1_gatherAll_1 : decode cX1_gatherAll 1 = .ok (.getfield 26, 3) := by decide +kernel
theorem dX1_gatherAll_4 : decode cX1_gatherAll 4 = .ok (.aload_n 0, 1) := by decide +kernel
theorem dX1_gatherAll_5 : decode cX1_gatherAll 5 = .ok (.getfield 45, 3) := by decide +kernel
theorem dX1_gatherAll_8 : decode cX1_gatherAll 8 = .ok (.aaload, 1) := by decide +kernel
theorem dX1_gatherAll_9 : decode cX1_gatherAll 9 = .ok (.astore_n 3, 1) := by decide +kernel
theorem dX1_gatherAll_10 : decode cX1_gatherAll 10 = .ok (.aload_n 0, 1) := by decide +kernel
theorem dX1_gatherAll_11 : decode cX1_gatherAll 11 = .ok (.dup, 1) := by decide +kernel
theorem dX1_gatherAll_12 : decode cX1_gatherAll 12 = .ok (.getfield 45, 3) := by decide +kernel
theorem dX1_gatherAll_15 : decode cX1_gatherAll 15 = .ok (.iconst 1, 1) := by decide +kernel
theorem dX1_gatherAll_16 : decode cX1_gatherAll 16 = .ok (.iadd, 1) := by decide +kernel
theorem dX1_gatherAll_17 : decode cX1_gatherAll 17 = .ok (.putfield 45, 3) := by decide +kernel
theorem dX1_gatherAll_20 : decode cX1_gatherAll 20 = .ok (.aload_n 0, 1) := by decide +kernel
theorem dX1_gatherAll_21 : decode cX1_gatherAll 21 = .ok (.dup, 1) := by decide +kernel
theorem dX1_gatherAll_22 : decode cX1_gatherAll 22 = .ok (.getfield 48, 3) := by decide +kernel
theorem dX1_gatherAll_25 : decode cX1_gatherAll 25 = .ok (.iconst 1, 1) := by decide +kernel
theorem dX1_gatherAll_26 : decode cX1_gatherAll 26 = .ok (.iadd, 1) := by decide +kernel
theorem dX1_gatherAll_27 : decode cX1_gatherAll 27 = .ok (.putfield 48, 3) := by decide +kernel
theorem dX1_gatherAll_30 : decode cX1_gatherAll 30 = .ok (.aload_n 3, 1) := by decide +kernel
theorem dX1_gatherAll_31 : decode cX1_gatherAll 31 = .ok (.iload_n 1, 1) := by decide +kernel
theorem dX1_gatherAll_32 : decode cX1_gatherAll 32 = .ok (.aload_n 0, 1) := by decide +kernel
theorem dX1_gatherAll_33 : decode cX1_gatherAll 33 = .ok (.getfield 51, 3) := by decide +kernel
theorem dX1_gatherAll_36 : decode cX1_gatherAll 36 = .ok (.invokevirtual 112, 3) := by decide +kernel
theorem dX1_gatherAll_39 : decode cX1_gatherAll 39 = .ok (.aload_n 3, 1) := by decide +kernel
theorem dX1_gatherAll_40 : decode cX1_gatherAll 40 = .ok (.aload_n 0, 1) := by decide +kernel
theorem dX1_gatherAll_41 : decode cX1_gatherAll 41 = .ok (.getfield 21, 3) := by decide +kernel
theorem dX1_gatherAll_44 : decode cX1_gatherAll 44 = .ok (.iload_n 1, 1) := by decide +kernel
theorem dX1_gatherAll_45 : decode cX1_gatherAll 45 = .ok (.iconst 5, 1) := by decide +kernel
theorem dX1_gatherAll_46 : decode cX1_gatherAll 46 = .ok (.imul, 1) := by decide +kernel
theorem dX1_gatherAll_47 : decode cX1_gatherAll 47 = .ok (.iload_n 2, 1) := by decide +kernel
theorem dX1_gatherAll_48 : decode cX1_gatherAll 48 = .ok (.iadd, 1) := by decide +kernel
theorem dX1_gatherAll_49 : decode cX1_gatherAll 49 = .ok (.iaload, 1) := by decide +kernel
theorem dX1_gatherAll_50 : decode cX1_gatherAll 50 = .ok (.invokevirtual 116, 3) := by decide +kernel
theorem dX1_gatherAll_53 : decode cX1_gatherAll 53 = .ok (.aload_n 0, 1) := by decide +kernel
theorem dX1_gatherAll_54 : decode cX1_gatherAll 54 = .ok (.getfield 21, 3) := by decide +kernel
theorem dX1_gatherAll_57 : decode cX1_gatherAll 57 = .ok (.iload_n 1, 1) := by decide +kernel
theorem dX1_gatherAll_58 : decode cX1_gatherAll 58 = .ok (.iconst 5, 1) := by decide +kernel
theorem dX1_gatherAll_59 : decode cX1_gatherAll 59 = .ok (.imul, 1) := by decide +kernel
theorem dX1_gatherAll_60 : decode cX1_gatherAll 60 = .ok (.iload_n 2, 1) := by decide +kernel
theorem dX1_gatherAll_61 : decode cX1_gatherAll 61 = .ok (.iadd, 1) := by decide +kernel
theorem dX1_gatherAll_62 : decode cX1_gatherAll 62 = .ok (.iconst 0, 1) := by decide +kernel
theorem dX1_gatherAll_63 : decode cX1_gatherAll 63 = .ok (.iastore, 1) := by decide +kernel
theorem dX1_gatherAll_64 : decode cX1_gatherAll 64 = .ok (.return_, 1) := by decide +kernel
theorem dX1_moveLump_0 : decode cX1_moveLump 0 = .ok (.iload_n 2, 1) := by decide +kernel
theorem dX1_moveLump_1 : decode cX1_moveLump 1 = .ok (.iconst (-1), 1) := by decide +kernel
theorem dX1_moveLump_2 : decode cX1_moveLump 2 = .ok (.if_icmp .eq 9, 3) := by decide +kernel
theorem dX1_moveLump_5 : decode cX1_moveLump 5 = .ok (.aload_n 1, 1) := by decide +kernel
theorem dX1_moveLump_6 : decode cX1_moveLump 6 = .ok (.iload_n 2, 1) := by decide +kernel
theorem dX1_moveLump_7 : decode cX1_moveLump 7 = .ok (.putfield 95, 3) := by decide +kernel
theorem dX1_moveLump_10 : decode cX1_moveLump 10 = .ok (.return_, 1) := by decide +kernel
theorem dX1_moveLump_11 : decode cX1_moveLump 11 = .ok (.aload_n 1, 1) := by decide +kernel
theorem dX1_moveLump_12 : decode cX1_moveLump 12 = .ok (.iconst 2, 1) := by decide +kernel
theorem dX1_moveLump_13 : decode cX1_moveLump 13 = .ok (.putfield 86, 3) := by decide +kernel
theorem dX1_moveLump_16 : decode cX1_moveLump 16 = .ok (.aload_n 0, 1) := by decide +kernel
theorem dX1_moveLump_17 : decode cX1_moveLump 17 = .ok (.dup, 1) := by decide +kernel
theorem dX1_moveLump_18 : decode cX1_moveLump 18 = .ok (.getfield 48, 3) := by decide +kernel
theorem dX1_moveLump_21 : decode cX1_moveLump 21 = .ok (.iconst 1, 1) := by decide +kernel
theorem dX1_moveLump_22 : decode cX1_moveLump 22 = .ok (.isub, 1) := by decide +kernel
theorem dX1_moveLump_23 : decode cX1_moveLump 23 = .ok (.putfield 48, 3) := by decide +kernel
theorem dX1_moveLump_26 : decode cX1_moveLump 26 = .ok (.aload_n 0, 1) := by decide +kernel
theorem dX1_moveLump_27 : decode cX1_moveLump 27 = .ok (.dup, 1) := by decide +kernel
theorem dX1_moveLump_28 : decode cX1_moveLump 28 = .ok (.getfield 39, 3) := by decide +kernel
theorem dX1_moveLump_31 : decode cX1_moveLump 31 = .ok (.aload_n 1, 1) := by decide +kernel
theorem dX1_moveLump_32 : decode cX1_moveLump 32 = .ok (.getfield 101, 3) := by decide +kernel
theorem dX1_moveLump_35 : decode cX1_moveLump 35 = .ok (.iadd, 1) := by decide +kernel
theorem dX1_moveLump_36 : decode cX1_moveLump 36 = .ok (.putfield 39, 3) := by decide +kernel
theorem dX1_moveLump_39 : decode cX1_moveLump 39 = .ok (.return_, 1) := by decide +kernel
theorem dX2_init_0 : decode cX2_init 0 = .ok (.aload_n 0, 1) := by decide +kernel
theorem dX2_init_1 : decode cX2_init 1 = .ok (.invokespecial 3, 3) := by decide +kernel
theorem dX2_init_4 : decode cX2_init 4 = .ok (.aload_n 0, 1) := by decide +kernel
theorem dX2_init_5 : decode cX2_init 5 = .ok (.bipush 24, 2) := by decide +kernel
theorem dX2_init_7 : decode cX2_init 7 = .ok (.newarray .int, 2) := by decide +kernel
theorem dX2_init_9 : decode cX2_init 9 = .ok (.putfield 11, 3) := by decide +kernel
theorem dX2_init_12 : decode cX2_init 12 = .ok (.aload_n 0, 1) := by decide +kernel
theorem dX2_init_13 : decode cX2_init 13 = .ok (.bipush 24, 2) := by decide +kernel
theorem dX2_init_15 : decode cX2_init 15 = .ok (.newarray .int, 2) := by decide +kernel
theorem dX2_init_17 : decode cX2_init 17 = .ok (.putfield 15, 3) := by decide +kernel
theorem dX2_init_20 : decode cX2_init 20 = .ok (.aload_n 0, 1) := by decide +kernel
theorem dX2_init_21 : decode cX2_init 21 = .ok (.bipush 24, 2) := by decide +kernel
theorem dX2_init_23 : decode cX2_init 23 = .ok (.newarray .int, 2) := by decide +kernel
theorem dX2_init_25 : decode cX2_init 25 = .ok (.putfield 18, 3) := by decide +kernel
theorem dX2_init_28 : decode cX2_init 28 = .ok (.aload_n 0, 1) := by decide +kernel
theorem dX2_init_29 : decode cX2_init 29 = .ok (.bipush 25, 2) := by decide +kernel
theorem dX2_init_31 : decode cX2_init 31 = .ok (.newarray .int, 2) := by decide +kernel
theorem dX2_init_33 : decode cX2_init 33 = .ok (.putfield 21, 3) := by decide +kernel
theorem dX2_init_36 : decode cX2_init 36 = .ok (.aload_n 0, 1) := by decide +kernel
theorem dX2_init_37 : decode cX2_init 37 = .ok (.bipush 24, 2) := by decide +kernel
theorem dX2_init_39 : decode cX2_init 39 = .ok (.newarray .int, 2) := by decide +kernel
theorem dX2_init_41 : decode cX2_init 41 = .ok (.putfield 24, 3) := by decide +kernel
theorem dX2_init_44 : decode cX2_init 44 = .ok (.aload_n 0, 1) := by decide +kernel
theorem dX2_init_45 : decode cX2_init 45 = .ok (.bipush 9, 2) := by decide +kernel
theorem dX2_init_47 : decode cX2_init 47 = .ok (.newarray .int, 2) := by decide +kernel
theorem dX2_init_49 : decode cX2_init 49 = .ok (.putfield 27, 3) := by decide +kernel
theorem dX2_init_52 : decode cX2_init 52 = .ok (.aload_n 0, 1) := by decide +kernel
theorem dX2_init_53 : decode cX2_init 53 = .ok (.bipush 9, 2) := by decide +kernel
theorem dX2_init_55 : decode cX2_init 55 = .ok (.newarray .int, 2) := by decide +kernel
theorem dX2_init_57 : decode cX2_init 57 = .ok (.putfield 30, 3) := by decide +kernel
theorem dX2_init_60 : decode cX2_init 60 = .ok (.aload_n 0, 1) := by decide +kernel
theorem dX2_init_61 : decode cX2_init 61 = .ok (.sipush 1000, 3) := by decide +kernel
theorem dX2_init_64 : decode cX2_init 64 = .ok (.newarray .int, 2) := by decide +kernel
theorem dX2_init_66 : decode cX2_init 66 = .ok (.putfield 33, 3) := by decide +kernel
theorem dX2_init_69 : decode cX2_init 69 = .ok (.aload_n 0, 1) := by decide +kernel
theorem dX2_init_70 : decode cX2_init 70 = .ok (.bipush 32, 2) := by decide +kernel
theorem dX2_init_72 : decode cX2_init 72 = .ok (.newarray .int, 2) := by decide +kernel
theorem dX2_init_74 : decode cX2_init 74 = .ok (.putfield 36, 3) := by decide +kernel
theorem dX2_init_77 : decode cX2_init 77 = .ok (.aload_n 0, 1) := by decide +kernel
theorem dX2_init_78 : decode cX2_init 78 = .ok (.invokevirtual 39, 3) := by decide +kernel
theorem dX2_init_81 : decode cX2_init 81 = .ok (.return_, 1) := by decide +kernel
theorem dX2_clear_0 : decode cX2_clear 0 = .ok (.aload_n 0, 1) := by decide +kernel
theorem dX2_clear_1 : decode cX2_clear 1 = .ok (.iconst 0, 1) := by decide +kernel
theorem dX2_clear_2 : decode cX2_clear 2 = .ok (.putfield 42, 3) := by decide +kernel
theorem dX2_clear_5 : decode cX2_clear 5 = .ok (.aload_n 0, 1) := by decide +kernel
theorem dX2_clear_6 : decode cX2_clear 6 = .ok (.iconst 0, 1) := by decide +kernel
theorem dX2_clear_7 : decode cX2_clear 7 = .ok (.putfield 46, 3) := by decide +kernel
theorem dX2_clear_10 : decode cX2_clear 10 = .ok (.aload_n 0, 1) := by decide +kernel
theorem dX2_clear_11 : decode cX2_clear 11 = .ok (.iconst 0, 1) := by decide +kernel
theorem dX2_clear_12 : decode cX2_clear 12 = .ok (.putfield 49, 3) := by decide +kernel
theorem dX2_clear_15 : decode cX2_clear 15 = .ok (.iconst 0, 1) := by decide +kernel
theorem dX2_clear_16 : decode cX2_clear 16 = .ok (.istore_n 1, 1) := by decide +kernel
theorem dX2_clear_17 : decode cX2_clear 17 = .ok (.iload_n 1, 1) := by decide +kernel
theorem dX2_clear_18 : decode cX2_clear 18 = .ok (.bipush 9, 2) := by decide +kernel
theorem dX2_clear_20 : decode cX2_clear 20 = .ok (.if_icmp .ge 23, 3) := by decide +kernel
theorem dX2_clear_23 : decode cX2_clear 23 = .ok (.aload_n 0, 1) := by decide +kernel
theorem dX2_clear_24 : decode cX2_clear 24 = .ok (.getfield 27, 3) := by decide +kernel
theorem dX2_clear_27 : decode cX2_clear 27 = .ok (.iload_n 1, 1) := by decide +kernel
theorem dX2_clear_28 : decode cX2_clear 28 = .ok (.iconst (-1), 1) := by decide +kernel
theorem dX2_clear_29 : decode cX2_clear 29 = .ok (.iastore, 1) := by decide +kernel
theorem dX2_clear_30 : decode cX2_clear 30 = .ok (.aload_n 0, 1) := by decide +kernel
theorem dX2_clear_31 : decode cX2_clear 31 = .ok (.getfield 30, 3) := by decide +kernel
theorem dX2_clear_34 : decode cX2_clear 34 = .ok (.iload_n 1, 1) := by decide +kernel
theorem dX2_clear_35 : decode cX2_clear 35 = .ok (.iconst (-1), 1) := by decide +kernel
theorem dX2_clear_36 : decode cX2_clear 36 = .ok (.iastore, 1) := by decide +kernel
theorem dX2_clear_37 : decode cX2_clear 37 = .ok (.iinc 1 1, 3) := by decide +kernel
theorem dX2_clear_40 : decode cX2_clear 40 = .ok (.goto (-23), 3) := by decide +kernel
theorem dX2_clear_43 : decode cX2_clear 43 = .ok (.return_, 1) := by decide +kernel
theorem dX2_isFull_0 : decode cX2_isFull 0 = .ok (.aload_n 0, 1) := by decide +kernel
theorem dX2_isFull_1 : decode cX2_isFull 1 = .ok (.getfield 42, 3) := by decide +kernel
theorem dX2_isFull_4 : decode cX2_isFull 4 = .ok (.bipush 24, 2) := by decide +kernel
theorem dX2_isFull_6 : decode cX2_isFull 6 = .ok (.if_icmp .lt 7, 3) := by decide +kernel
theorem dX2_isFull_9 : decode cX2_isFull 9 = .ok (.iconst 1, 1) := by decide +kernel
theorem dX2_isFull_10 : decode cX2_isFull 10 = .ok (.goto 4, 3) := by decide +kernel
theorem dX2_isFull_13 : decode cX2_isFull 13 = .ok (.iconst 0, 1) := by decide +kernel
theorem dX2_isFull_14 : decode cX2_isFull 14 = .ok (.ireturn, 1) := by decide +kernel
theorem dX2_howManyEnds_0 : decode cX2_howManyEnds 0 = .ok (.iconst 1, 1) := by decide +kernel
theorem dX2_howManyEnds_1 : decode cX2_howManyEnds 1 = .ok (.aload_n 0, 1) := by decide +kernel
theorem dX2_howManyEnds_2 : decode cX2_howManyEnds 2 = .ok (.getfield 46, 3) := by decide +kernel
theorem dX2_howManyEnds_5 : decode cX2_howManyEnds 5 = .ok (.ishl, 1) := by decide +kernel
theorem dX2_howManyEnds_6 : decode cX2_howManyEnds 6 = .ok (.ireturn, 1) := by decide +kernel
theorem dX2_hasNone_0 : decode cX2_hasNone 0 = .ok (.aload_n 0, 1) := by decide +kernel
theorem dX2_hasNone_1 : decode cX2_hasNone 1 = .ok (.getfield 27, 3) := by decide +kernel
theorem dX2_hasNone_4 : decode cX2_hasNone 4 = .ok (.iload_n 1, 1) := by decide +kernel
theorem dX2_hasNone_5 : decode cX2_hasNone 5 = .ok (.iaload, 1) := by decide +kernel
theorem dX2_hasNone_6 : decode cX2_hasNone 6 = .ok (.iconst (-1), 1) := by decide +kernel
theorem dX2_hasNone_7 : decode cX2_hasNone 7 = .ok (.if_icmp .ne 7, 3) := by decide +kernel
theorem dX2_hasNone_10 : decode cX2_hasNone 10 = .ok (.iconst 1, 1) := by decide +kernel
theorem dX2_hasNone_11 : decode cX2_hasNone 11 = .ok (.goto 4, 3) := by decide +kernel
theorem dX2_hasNone_14 : decode cX2_hasNone 14 = .ok (.iconst 0, 1) := by decide +kernel
theorem dX2_hasNone_15 : decode cX2_hasNone 15 = .ok (.ireturn, 1) := by decide +kernel
theorem dX2_addLaw_0 : decode cX2_addLaw 0 = .ok (.aload_n 0, 1) := by decide +kernel
theorem dX2_addLaw_1 : decode cX2_addLaw 1 = .ok (.invokevirtual 52, 3) := by decide +kernel
theorem dX2_addLaw_4 : decode cX2_addLaw 4 = .ok (.ifCond .eq 4, 3) := by decide +kernel
theorem dX2_addLaw_7 : decode cX2_addLaw 7 = .ok (.return_, 1) := by decide +kernel
theorem dX2_addLaw_8 : decode cX2_addLaw 8 = .ok (.aload_n 0, 1) := by decide +kernel
theorem dX2_addLaw_9 : decode cX2_addLaw 9 = .ok (.getfield 11, 3) := by decide +kernel
theorem dX2_addLaw_12 : decode cX2_addLaw 12 = .ok (.aload_n 0, 1) := by decide +kernel
theorem dX2_addLaw_13 : decode cX2_addLaw 13 = .ok (.getfield 42, 3) := by decide +kernel
theorem dX2_addLaw_16 : decode cX2_addLaw 16 = .ok (.iload_n 2, 1) := by decide +kernel
theorem dX2_addLaw_17 : decode cX2_addLaw 17 = .ok (.iastore, 1) := by decide +kernel
theorem dX2_addLaw_18 : decode cX2_addLaw 18 = .ok (.aload_n 0, 1) := by decide +kernel
theorem dX2_addLaw_19 : decode cX2_addLaw 19 = .ok (.getfield 15, 3) := by decide +kernel
theorem dX2_addLaw_22 : decode cX2_addLaw 22 = .ok (.aload_n 0, 1) := by decide +kernel
theorem dX2_addLaw_23 : decode cX2_addLaw 23 = .ok (.getfield 42, 3) := by decide +kernel
theorem dX2_addLaw_26 : decode cX2_addLaw 26 = .ok (.iload_n 3, 1) := by decide +kernel
theorem dX2_addLaw_27 : decode cX2_addLaw 27 = .ok (.iastore, 1) := by decide +kernel
theorem dX2_addLaw_28 : decode cX2_addLaw 28 = .ok (.aload_n 0, 1) := by decide +kernel
theorem dX2_addLaw_29 : decode cX2_addLaw 29 = .ok (.getfield 18, 3) := by decide +kernel
theorem dX2_addLaw_32 : decode cX2_addLaw 32 = .ok (.aload_n 0, 1) := by decide +kernel
theorem dX2_addLaw_33 : decode cX2_addLaw 33 = .ok (.getfield 42, 3) := by decide +kernel
theorem dX2_addLaw_36 : decode cX2_addLaw 36 = .ok (.iload_n 2, 1) := by decide +kernel
theorem dX2_addLaw_37 : decode cX2_addLaw 37 = .ok (.iload_n 3, 1) := by decide +kernel
theorem dX2_addLaw_38 : decode cX2_addLaw 38 = .ok (.if_icmp .ge 12, 3) := by decide +kernel
theorem dX2_addLaw_41 : decode cX2_addLaw 41 = .ok (.iconst 1, 1) := by decide +kernel
theorem dX2_addLaw_42 : decode cX2_addLaw 42 = .ok (.aload_n 0, 1) := by decide +kernel
theorem dX2_addLaw_43 : decode cX2_addLaw 43 = .ok (.getfield 46, 3) := by decide +kernel
theorem dX2_addLaw_46 : decode cX2_addLaw 46 = .ok (.ishl, 1) := by decide +kernel
theorem dX2_addLaw_47 : decode cX2_addLaw 47 = .ok (.goto 4, 3) := by decide +kernel
theorem dX2_addLaw_50 : decode cX2_addLaw 50 = .ok (.iconst 0, 1) := by decide +kernel
theorem dX2_addLaw_51 : decode cX2_addLaw 51 = .ok (.iastore, 1) := by decide +kernel
theorem dX2_addLaw_52 : decode cX2_addLaw 52 = .ok (.iload_n 2, 1) := by decide +kernel
theorem dX2_addLaw_53 : decode cX2_addLaw 53 = .ok (.iload_n 3, 1) := by decide +kernel
theorem dX2_addLaw_54 : decode cX2_addLaw 54 = .ok (.if_icmp .ge 13, 3) := by decide +kernel
theorem dX2_addLaw_57 : decode cX2_addLaw 57 = .ok (.aload_n 0, 1) := by decide +kernel
theorem dX2_addLaw_58 : decode cX2_addLaw 58 = .ok (.dup, 1) := by decide +kernel
theorem dX2_addLaw_59 : decode cX2_addLaw 59 = .ok (.getfield 46, 3) := by decide +kernel
theorem dX2_addLaw_62 : decode cX2_addLaw 62 = .ok (.iconst 1, 1) := by decide +kernel
theorem dX2_addLaw_63 : decode cX2_addLaw 63 = .ok (.iadd, 1) := by decide +kernel
theorem dX2_addLaw_64 : decode cX2_addLaw 64 = .ok (.putfield 46, 3) := by decide +kernel
theorem dX2_addLaw_67 : decode cX2_addLaw 67 = .ok (.aload_n 0, 1) := by decide +kernel
theorem dX2_addLaw_68 : decode cX2_addLaw 68 = .ok (.getfield 21, 3) := by decide +kernel
theorem dX2_addLaw_71 : decode cX2_addLaw 71 = .ok (.aload_n 0, 1) := by decide +kernel
theorem dX2_addLaw_72 : decode cX2_addLaw 72 = .ok (.getfield 42, 3) := by decide +kernel
theorem dX2_addLaw_75 : decode cX2_addLaw 75 = .ok (.aload_n 0, 1) := by decide +kernel
theorem dX2_addLaw_76 : decode cX2_addLaw 76 = .ok (.getfield 49, 3) := by decide +kernel
theorem dX2_addLaw_79 : decode cX2_addLaw 79 = .ok (.iastore, 1) := by decide +kernel
theorem dX2_addLaw_80 : decode cX2_addLaw 80 = .ok (.aload_n 0, 1) := by decide +kernel
theorem dX2_addLaw_81 : decode cX2_addLaw 81 = .ok (.getfield 24, 3) := by decide +kernel
theorem dX2_addLaw_84 : decode cX2_addLaw 84 = .ok (.aload_n 0, 1) := by decide +kernel
theorem dX2_addLaw_85 : decode cX2_addLaw 85 = .ok (.getfield 42, 3) := by decide +kernel
theorem dX2_addLaw_88 : decode cX2_addLaw 88 = .ok (.iconst (-1), 1) := by decide +kernel
theorem dX2_addLaw_89 : decode cX2_addLaw 89 = .ok (.iastore, 1) := by decide +kernel
theorem dX2_addLaw_90 : decode cX2_addLaw 90 = .ok (.aload_n 0, 1) := by decide +kernel
theorem dX2_addLaw_91 : decode cX2_addLaw 91 = .ok (.getfield 27, 3) := by decide +kernel
theorem dX2_addLaw_94 : decode cX2_addLaw 94 = .ok (.iload_n 1, 1) := by decide +kernel
theorem dX2_addLaw_95 : decode cX2_addLaw 95 = .ok (.iaload, 1) := by decide +kernel
theorem dX2_addLaw_96 : decode cX2_addLaw 96 = .ok (.iconst (-1), 1) := by decide +kernel
theorem dX2_addLaw_97 : decode cX2_addLaw 97 = .ok (.if_icmp .ne 16, 3) := by decide +kernel
theorem dX2_addLaw_100 : decode cX2_addLaw 100 = .ok (.aload_n 0, 1) := by decide +kernel
theorem dX2_addLaw_101 : decode cX2_addLaw 101 = .ok (.getfield 27, 3) := by decide +kernel
theorem dX2_addLaw_104 : decode cX2_addLaw 104 = .ok (.iload_n 1, 1) := by decide +kernel
theorem dX2_addLaw_105 : decode cX2_addLaw 105 = .ok (.aload_n 0, 1) := by decide +kernel
theorem dX2_addLaw_106 : decode cX2_addLaw 106 = .ok (.getfield 42, 3) := by decide +kernel
theorem dX2_addLaw_109 : decode cX2_addLaw 109 = .ok (.iastore, 1) := by decide +kernel
theorem dX2_addLaw_110 : decode cX2_addLaw 110 = .ok (.goto 18, 3) := by decide +kernel
theorem dX2_addLaw_113 : decode cX2_addLaw 113 = .ok (.aload_n 0, 1) := by decide +kernel
theorem dX2_addLaw_114 : decode cX2_addLaw 114 = .ok (.getfield 24, 3) := by decide +kernel
theorem dX2_addLaw_117 : decode cX2_addLaw 117 = .ok (.aload_n 0, 1) := by decide +kernel
theorem dX2_addLaw_118 : decode cX2_addLaw 118 = .ok (.getfield 30, 3) := by decide +kernel
theorem dX2_addLaw_121 : decode cX2_addLaw 121 = .ok (.iload_n 1, 1) := by decide +kernel
theorem dX2_addLaw_122 : decode cX2_addLaw 122 = .ok (.iaload, 1) := by decide +kernel
theorem dX2_addLaw_123 : decode cX2_addLaw 123 = .ok (.aload_n 0, 1) := by decide +kernel
theorem dX2_addLaw_124 : decode cX2_addLaw 124 = .ok (.getfield 42, 3) := by decide +kernel
theorem dX2_addLaw_127 : decode cX2_addLaw 127 = .ok (.iastore, 1) := by decide +kernel
theorem dX2_addLaw_128 : decode cX2_addLaw 128 = .ok (.aload_n 0, 1) := by decide +kernel
theorem dX2_addLaw_129 : decode cX2_addLaw 129 = .ok (.getfield 30, 3) := by decide +kernel
theorem dX2_addLaw_132 : decode cX2_addLaw 132 = .ok (.iload_n 1, 1) := by decide +kernel
theorem dX2_addLaw_133 : decode cX2_addLaw 133 = .ok (.aload_n 0, 1) := by decide +kernel
theorem dX2_addLaw_134 : decode cX2_addLaw 134 = .ok (.getfield 42, 3) := by decide +kernel
theorem dX2_addLaw_137 : decode cX2_addLaw 137 = .ok (.iastore, 1) := by decide +kernel
theorem dX2_addLaw_138 : decode cX2_addLaw 138 = .ok (.aload_n 0, 1) := by decide +kernel
theorem dX2_addLaw_139 : decode cX2_addLaw 139 = .ok (.dup, 1) := by decide +kernel
theorem dX2_addLaw_140 : decode cX2_addLaw 140 = .ok (.getfield 42, 3) := by decide +kernel
theorem dX2_addLaw_143 : decode cX2_addLaw 143 = .ok (.iconst 1, 1) := by decide +kernel
theorem dX2_addLaw_144 : decode cX2_addLaw 144 = .ok (.iadd, 1) := by decide +kernel
theorem dX2_addLaw_145 : decode cX2_addLaw 145 = .ok (.putfield 42, 3) := by decide +kernel
theorem dX2_addLaw_148 : decode cX2_addLaw 148 = .ok (.aload_n 0, 1) := by decide +kernel
theorem dX2_addLaw_149 : decode cX2_addLaw 149 = .ok (.getfield 21, 3) := by decide +kernel
theorem dX2_addLaw_152 : decode cX2_addLaw 152 = .ok (.aload_n 0, 1) := by decide +kernel
theorem dX2_addLaw_153 : decode cX2_addLaw 153 = .ok (.getfield 42, 3) := by decide +kernel
theorem dX2_addLaw_156 : decode cX2_addLaw 156 = .ok (.aload_n 0, 1) := by decide +kernel
theorem dX2_addLaw_157 : decode cX2_addLaw 157 = .ok (.getfield 49, 3) := by decide +kernel
theorem dX2_addLaw_160 : decode cX2_addLaw 160 = .ok (.iastore, 1) := by decide +kernel
theorem dX2_addLaw_161 : decode cX2_addLaw 161 = .ok (.return_, 1) := by decide +kernel
theorem dX2_addCode_0 : decode cX2_addCode 0 = .ok (.aload_n 0, 1) := by decide +kernel
theorem dX2_addCode_1 : decode cX2_addCode 1 = .ok (.getfield 49, 3) := by decide +kernel
theorem dX2_addCode_4 : decode cX2_addCode 4 = .ok (.sipush 1000, 3) := by decide +kernel
theorem dX2_addCode_7 : decode cX2_addCode 7 = .ok (.if_icmp .ge 40, 3) := by decide +kernel
theorem dX2_addCode_10 : decode cX2_addCode 10 = .ok (.aload_n 0, 1) := by decide +kernel
theorem dX2_addCode_11 : decode cX2_addCode 11 = .ok (.getfield 33, 3) := by decide +kernel
theorem dX2_addCode_14 : decode cX2_addCode 14 = .ok (.aload_n 0, 1) := by decide +kernel
theorem dX2_addCode_15 : decode cX2_addCode 15 = .ok (.getfield 49, 3) := by decide +kernel
theorem dX2_addCode_18 : decode cX2_addCode 18 = .ok (.iload_n 1, 1) := by decide +kernel
theorem dX2_addCode_19 : decode cX2_addCode 19 = .ok (.iload_n 2, 1) := by decide +kernel
theorem dX2_addCode_20 : decode cX2_addCode 20 = .ok (.iconst 5, 1) := by decide +kernel
theorem dX2_addCode_21 : decode cX2_addCode 21 = .ok (.ishl, 1) := by decide +kernel
theorem dX2_addCode_22 : decode cX2_addCode 22 = .ok (.iadd, 1) := by decide +kernel
theorem dX2_addCode_23 : decode cX2_addCode 23 = .ok (.iastore, 1) := by decide +kernel
theorem dX2_addCode_24 : decode cX2_addCode 24 = .ok (.aload_n 0, 1) := by decide +kernel
theorem dX2_addCode_25 : decode cX2_addCode 25 = .ok (.dup, 1) := by decide +kernel
theorem dX2_addCode_26 : decode cX2_addCode 26 = .ok (.getfield 49, 3) := by decide +kernel
theorem dX2_addCode_29 : decode cX2_addCode 29 = .ok (.iconst 1, 1) := by decide +kernel
theorem dX2_addCode_30 : decode cX2_addCode 30 = .ok (.iadd, 1) := by decide +kernel
theorem dX2_addCode_31 : decode cX2_addCode 31 = .ok (.putfield 49, 3) := by decide +kernel
theorem dX2_addCode_34 : decode cX2_addCode 34 = .ok (.aload_n 0, 1) := by decide +kernel
theorem dX2_addCode_35 : decode cX2_addCode 35 = .ok (.getfield 21, 3) := by decide +kernel
theorem dX2_addCode_38 : decode cX2_addCode 38 = .ok (.aload_n 0, 1) := by decide +kernel
theorem dX2_addCode_39 : decode cX2_addCode 39 = .ok (.getfield 42, 3) := by decide +kernel
theorem dX2_addCode_42 : decode cX2_addCode 42 = .ok (.aload_n 0, 1) := by decide +kernel
theorem dX2_addCode_43 : decode cX2_addCode 43 = .ok (.getfield 49, 3) := by decide +kernel
theorem dX2_addCode_46 : decode cX2_addCode 46 = .ok (.iastore, 1) := by decide +kernel
theorem dX2_addCode_47 : decode cX2_addCode 47 = .ok (.return_, 1) := by decide +kernel
theorem dX2_numberFor_0 : decode cX2_numberFor 0 = .ok (.aload_n 0, 1) := by decide +kernel
theorem dX2_numberFor_1 : decode cX2_numberFor 1 = .ok (.getfield 27, 3) := by decide +kernel
theorem dX2_numberFor_4 : decode cX2_numberFor 4 = .ok (.iload_n 1, 1) := by decide +kernel
theorem dX2_numberFor_5 : decode cX2_numberFor 5 = .ok (.iaload, 1) := by decide +kernel
theorem dX2_numberFor_6 : decode cX2_numberFor 6 = .ok (.istore 4, 2) := by decide +kernel
theorem dX2_numberFor_8 : decode cX2_numberFor 8 = .ok (.iconst 0, 1) := by decide +kernel
theorem dX2_numberFor_9 : decode cX2_numberFor 9 = .ok (.istore 5, 2) := by decide +kernel
theorem dX2_numberFor_11 : decode cX2_numberFor 11 = .ok (.iload 5, 2) := by decide +kernel
theorem dX2_numberFor_13 : decode cX2_numberFor 13 = .ok (.bipush 24, 2) := by decide +kernel
theorem dX2_numberFor_15 : decode cX2_numberFor 15 = .ok (.if_icmp .ge 64, 3) := by decide +kernel
theorem dX2_numberFor_18 : decode cX2_numberFor 18 = .ok (.iload 4, 2) := by decide +kernel
theorem dX2_numberFor_20 : decode cX2_numberFor 20 = .ok (.iconst (-1), 1) := by decide +kernel
theorem dX2_numberFor_21 : decode cX2_numberFor 21 = .ok (.if_icmp .eq 58, 3) := by decide +kernel
theorem dX2_numberFor_24 : decode cX2_numberFor 24 = .ok (.aload_n 0, 1) := by decide +kernel
theorem dX2_numberFor_25 : decode cX2_numberFor 25 = .ok (.iload 4, 2) := by decide +kernel
theorem dX2_numberFor_27 : decode cX2_numberFor 27 = .ok (.aload_n 3, 1) := by decide +kernel
theorem dX2_numberFor_28 : decode cX2_numberFor 28 = .ok (.invokevirtual 56, 3) := by decide +kernel
theorem dX2_numberFor_31 : decode cX2_numberFor 31 = .ok (.ifCond .eq 33, 3) := by decide +kernel
theorem dX2_numberFor_34 : decode cX2_numberFor 34 = .ok (.iload_n 2, 1) := by decide +kernel
theorem dX2_numberFor_35 : decode cX2_numberFor 35 = .ok (.aload_n 0, 1) := by decide +kernel
theorem dX2_numberFor_36 : decode cX2_numberFor 36 = .ok (.getfield 18, 3) := by decide +kernel
theorem dX2_numberFor_39 : decode cX2_numberFor 39 = .ok (.iload 4, 2) := by decide +kernel
theorem dX2_numberFor_41 : decode cX2_numberFor 41 = .ok (.iaload, 1) := by decide +kernel
theorem dX2_numberFor_42 : decode cX2_numberFor 42 = .ok (.iand, 1) := by decide +kernel
theorem dX2_numberFor_43 : decode cX2_numberFor 43 = .ok (.ifCond .eq 13, 3) := by decide +kernel
theorem dX2_numberFor_46 : decode cX2_numberFor 46 = .ok (.aload_n 0, 1) := by decide +kernel
theorem dX2_numberFor_47 : decode cX2_numberFor 47 = .ok (.getfield 15, 3) := by decide +kernel
theorem dX2_numberFor_50 : decode cX2_numberFor 50 = .ok (.iload 4, 2) := by decide +kernel
theorem dX2_numberFor_52 : decode cX2_numberFor 52 = .ok (.iaload, 1) := by decide +kernel
theorem dX2_numberFor_53 : decode cX2_numberFor 53 = .ok (.goto 10, 3) := by decide +kernel
theorem dX2_numberFor_56 : decode cX2_numberFor 56 = .ok (.aload_n 0, 1) := by decide +kernel
theorem dX2_numberFor_57 : decode cX2_numberFor 57 = .ok (.getfield 11, 3) := by decide +kernel
theorem dX2_numberFor_60 : decode cX2_numberFor 60 = .ok (.iload 4, 2) := by decide +kernel
theorem dX2_numberFor_62 : decode cX2_numberFor 62 = .ok (.iaload, 1) := by decide +kernel
theorem dX2_numberFor_63 : decode cX2_numberFor 63 = .ok (.ireturn, 1) := by decide +kernel
theorem dX2_numberFor_64 : decode cX2_numberFor 64 = .ok (.aload_n 0, 1) := by decide +kernel
theorem dX2_numberFor_65 : decode cX2_numberFor 65 = .ok (.getfield 24, 3) := by decide +kernel
theorem dX2_numberFor_68 : decode cX2_numberFor 68 = .ok (.iload 4, 2) := by decide +kernel
theorem dX2_numberFor_70 : decode cX2_numberFor 70 = .ok (.iaload, 1) := by decide +kernel
theorem dX2_numberFor_71 : decode cX2_numberFor 71 = .ok (.istore 4, 2) := by decide +kernel
theorem dX2_numberFor_73 : decode cX2_numberFor 73 = .ok (.iinc 5 1, 3) := by decide +kernel
theorem dX2_numberFor_76 : decode cX2_numberFor 76 = .ok (.goto (-65), 3) := by decide +kernel
theorem dX2_numberFor_79 : decode cX2_numberFor 79 = .ok (.iconst (-1), 1) := by decide +kernel
theorem dX2_numberFor_80 : decode cX2_numberFor 80 = .ok (.ireturn, 1) := by decide +kernel
theorem dX2_valueOf_0 : decode cX2_valueOf 0 = .ok (.iconst 0, 1) := by decide +kernel
theorem dX2_valueOf_1 : decode cX2_valueOf 1 = .ok (.istore_n 3, 1) := by decide +kernel
theorem dX2_valueOf_2 : decode cX2_valueOf 2 = .ok (.aload_n 0, 1) := by decide +kernel
theorem dX2_valueOf_3 : decode cX2_valueOf 3 = .ok (.getfield 21, 3) := by decide +kernel
theorem dX2_valueOf_6 : decode cX2_valueOf 6 = .ok (.iload_n 1, 1) := by decide +kernel
theorem dX2_valueOf_7 : decode cX2_valueOf 7 = .ok (.iconst 1, 1) := by decide +kernel
theorem dX2_valueOf_8 : decode cX2_valueOf 8 = .ok (.iadd, 1) := by decide +kernel
theorem dX2_valueOf_9 : decode cX2_valueOf 9 = .ok (.iaload, 1) := by decide +kernel
theorem dX2_valueOf_10 : decode cX2_valueOf 10 = .ok (.istore 4, 2) := by decide +kernel
theorem dX2_valueOf_12 : decode cX2_valueOf 12 = .ok (.aload_n 0, 1) := by decide +kernel
theorem dX2_valueOf_13 : decode cX2_valueOf 13 = .ok (.getfield 21, 3) := by decide +kernel
theorem dX2_valueOf_16 : decode cX2_valueOf 16 = .ok (.iload_n 1, 1) := by decide +kernel
theorem dX2_valueOf_17 : decode cX2_valueOf 17 = .ok (.iaload, 1) := by decide +kernel
theorem dX2_valueOf_18 : decode cX2_valueOf 18 = .ok (.istore 5, 2) := by decide +kernel
theorem dX2_valueOf_20 : decode cX2_valueOf 20 = .ok (.iload 5, 2) := by decide +kernel
theorem dX2_valueOf_22 : decode cX2_valueOf 22 = .ok (.iload 4, 2) := by decide +kernel
theorem dX2_valueOf_24 : decode cX2_valueOf 24 = .ok (.if_icmp .ge 141, 3) := by decide +kernel
theorem dX2_valueOf_27 : decode cX2_valueOf 27 = .ok (.aload_n 0, 1) := by decide +kernel
theorem dX2_valueOf_28 : decode cX2_valueOf 28 = .ok (.getfield 33, 3) := by decide +kernel
theorem dX2_valueOf_31 : decode cX2_valueOf 31 = .ok (.iload 5, 2) := by decide +kernel
theorem dX2_valueOf_33 : decode cX2_valueOf 33 = .ok (.iaload, 1) := by decide +kernel
theorem dX2_valueOf_34 : decode cX2_valueOf 34 = .ok (.istore 6, 2) := by decide +kernel
theorem dX2_valueOf_36 : decode cX2_valueOf 36 = .ok (.iload 6, 2) := by decide +kernel
theorem dX2_valueOf_38 : decode cX2_valueOf 38 = .ok (.bipush 31, 2) := by decide +kernel
theorem dX2_valueOf_40 : decode cX2_valueOf 40 = .ok (.iand, 1) := by decide +kernel
theorem dX2_valueOf_41 : decode cX2_valueOf 41 = .ok (.istore 7, 2) := by decide +kernel
theorem dX2_valueOf_43 : decode cX2_valueOf 43 = .ok (.iload 7, 2) := by decide +kernel
theorem dX2_valueOf_45 : decode cX2_valueOf 45 = .ok (.bipush 9, 2) := by decide +kernel
theorem dX2_valueOf_47 : decode cX2_valueOf 47 = .ok (.if_icmp .gt 39, 3) := by decide +kernel
theorem dX2_valueOf_50 : decode cX2_valueOf 50 = .ok (.iload_n 3, 1) := by decide +kernel
theorem dX2_valueOf_51 : decode cX2_valueOf 51 = .ok (.bipush 32, 2) := by decide +kernel
theorem dX2_valueOf_53 : decode cX2_valueOf 53 = .ok (.if_icmp .ge 106, 3) := by decide +kernel
theorem dX2_valueOf_56 : decode cX2_valueOf 56 = .ok (.aload_n 0, 1) := by decide +kernel
theorem dX2_valueOf_57 : decode cX2_valueOf 57 = .ok (.getfield 36, 3) := by decide +kernel
theorem dX2_valueOf_60 : decode cX2_valueOf 60 = .ok (.iload_n 3, 1) := by decide +kernel
theorem dX2_valueOf_61 : decode cX2_valueOf 61 = .ok (.iload 7, 2) := by decide +kernel
theorem dX2_valueOf_63 : decode cX2_valueOf 63 = .ok (.bipush 9, 2) := by decide +kernel
theorem dX2_valueOf_65 : decode cX2_valueOf 65 = .ok (.if_icmp .ne 10, 3) := by decide +kernel
theorem dX2_valueOf_68 : decode cX2_valueOf 68 = .ok (.iload 6, 2) := by decide +kernel
theorem dX2_valueOf_70 : decode cX2_valueOf 70 = .ok (.iconst 5, 1) := by decide +kernel
theorem dX2_valueOf_71 : decode cX2_valueOf 71 = .ok (.ishr, 1) := by decide +kernel
theorem dX2_valueOf_72 : decode cX2_valueOf 72 = .ok (.goto 7, 3) := by decide +kernel
theorem dX2_valueOf_75 : decode cX2_valueOf 75 = .ok (.aload_n 2, 1) := by decide +kernel
theorem dX2_valueOf_76 : decode cX2_valueOf 76 = .ok (.iload 7, 2) := by decide +kernel
theorem dX2_valueOf_78 : decode cX2_valueOf 78 = .ok (.iaload, 1) := by decide +kernel
theorem dX2_valueOf_79 : decode cX2_valueOf 79 = .ok (.iastore, 1) := by decide +kernel
theorem dX2_valueOf_80 : decode cX2_valueOf 80 = .ok (.iinc 3 1, 3) := by decide +kernel
theorem dX2_valueOf_83 : decode cX2_valueOf 83 = .ok (.goto 76, 3) := by decide +kernel
theorem dX2_valueOf_86 : decode cX2_valueOf 86 = .ok (.iload 7, 2) := by decide +kernel
theorem dX2_valueOf_88 : decode cX2_valueOf 88 = .ok (.bipush 10, 2) := by decide +kernel
theorem dX2_valueOf_90 : decode cX2_valueOf 90 = .ok (.if_icmp .ne 34, 3) := by decide +kernel
theorem dX2_valueOf_93 : decode cX2_valueOf 93 = .ok (.iload_n 3, 1) := by decide +kernel
theorem dX2_valueOf_94 : decode cX2_valueOf 94 = .ok (.ifCond .le 65, 3) := by decide +kernel
theorem dX2_valueOf_97 : decode cX2_valueOf 97 = .ok (.aload_n 0, 1) := by decide +kernel
theorem dX2_valueOf_98 : decode cX2_valueOf 98 = .ok (.getfield 36, 3) := by decide +kernel
theorem dX2_valueOf_101 : decode cX2_valueOf 101 = .ok (.iload_n 3, 1) := by decide +kernel
theorem dX2_valueOf_102 : decode cX2_valueOf 102 = .ok (.iconst 1, 1) := by decide +kernel
theorem dX2_valueOf_103 : decode cX2_valueOf 103 = .ok (.isub, 1) := by decide +kernel
theorem dX2_valueOf_104 : decode cX2_valueOf 104 = .ok (.aload_n 0, 1) := by decide +kernel
theorem dX2_valueOf_105 : decode cX2_valueOf 105 = .ok (.getfield 36, 3) := by decide +kernel
theorem dX2_valueOf_108 : decode cX2_valueOf 108 = .ok (.iload_n 3, 1) := by decide +kernel
theorem dX2_valueOf_109 : decode cX2_valueOf 109 = .ok (.iconst 1, 1) := by decide +kernel
theorem dX2_valueOf_110 : decode cX2_valueOf 110 = .ok (.isub, 1) := by decide +kernel
theorem dX2_valueOf_111 : decode cX2_valueOf 111 = .ok (.iaload, 1) := by decide +kernel
theorem dX2_valueOf_112 : decode cX2_valueOf 112 = .ok (.ifCond .ne 7, 3) := by decide +kernel
theorem dX2_valueOf_115 : decode cX2_valueOf 115 = .ok (.iconst 1, 1) := by decide +kernel
theorem dX2_valueOf_116 : decode cX2_valueOf 116 = .ok (.goto 4, 3) := by decide +kernel
theorem dX2_valueOf_119 : decode cX2_valueOf 119 = .ok (.iconst 0, 1) := by decide +kernel
theorem dX2_valueOf_120 : decode cX2_valueOf 120 = .ok (.iastore, 1) := by decide +kernel
theorem dX2_valueOf_121 : decode cX2_valueOf 121 = .ok (.goto 38, 3) := by decide +kernel
theorem dX2_valueOf_124 : decode cX2_valueOf 124 = .ok (.iload_n 3, 1) := by decide +kernel
theorem dX2_valueOf_125 : decode cX2_valueOf 125 = .ok (.iconst 1, 1) := by decide +kernel
theorem dX2_valueOf_126 : decode cX2_valueOf 126 = .ok (.if_icmp .le 33, 3) := by decide +kernel
theorem dX2_valueOf_129 : decode cX2_valueOf 129 = .ok (.iinc 3 (-1), 3) := by decide +kernel
theorem dX2_valueOf_132 : decode cX2_valueOf 132 = .ok (.aload_n 0, 1) := by decide +kernel
theorem dX2_valueOf_133 : decode cX2_valueOf 133 = .ok (.getfield 36, 3) := by decide +kernel
theorem dX2_valueOf_136 : decode cX2_valueOf 136 = .ok (.iload_n 3, 1) := by decide +kernel
theorem dX2_valueOf_137 : decode cX2_valueOf 137 = .ok (.iconst 1, 1) := by decide +kernel
theorem dX2_valueOf_138 : decode cX2_valueOf 138 = .ok (.isub, 1) := by decide +kernel
theorem dX2_valueOf_139 : decode cX2_valueOf 139 = .ok (.iload 7, 2) := by decide +kernel
theorem dX2_valueOf_141 : decode cX2_valueOf 141 = .ok (.aload_n 0, 1) := by decide +kernel
theorem dX2_valueOf_142 : decode cX2_valueOf 142 = .ok (.getfield 36, 3) := by decide +kernel
theorem dX2_valueOf_145 : decode cX2_valueOf 145 = .ok (.iload_n 3, 1) := by decide +kernel
theorem dX2_valueOf_146 : decode cX2_valueOf 146 = .ok (.iconst 1, 1) := by decide +kernel
theorem dX2_valueOf_147 : decode cX2_valueOf 147 = .ok (.isub, 1) := by decide +kernel
theorem dX2_valueOf_148 : decode cX2_valueOf 148 = .ok (.iaload, 1) := by decide +kernel
theorem dX2_valueOf_149 : decode cX2_valueOf 149 = .ok (.aload_n 0, 1) := by decide +kernel
theorem dX2_valueOf_150 : decode cX2_valueOf 150 = .ok (.getfield 36, 3) := by decide +kernel
theorem dX2_valueOf_153 : decode cX2_valueOf 153 = .ok (.iload_n 3, 1) := by decide +kernel
theorem dX2_valueOf_154 : decode cX2_valueOf 154 = .ok (.iaload, 1) := by decide +kernel
theorem dX2_valueOf_155 : decode cX2_valueOf 155 = .ok (.invokestatic 60, 3) := by decide +kernel
theorem dX2_valueOf_158 : decode cX2_valueOf 158 = .ok (.iastore, 1) := by decide +kernel
theorem dX2_valueOf_159 : decode cX2_valueOf 159 = .ok (.iinc 5 1, 3) := by decide +kernel
theorem dX2_valueOf_162 : decode cX2_valueOf 162 = .ok (.goto (-142), 3) := by decide +kernel
theorem dX2_valueOf_165 : decode cX2_valueOf 165 = .ok (.iload_n 3, 1) := by decide +kernel
theorem dX2_valueOf_166 : decode cX2_valueOf 166 = .ok (.ifCond .le 12, 3) := by decide +kernel
theorem dX2_valueOf_169 : decode cX2_valueOf 169 = .ok (.aload_n 0, 1) := by decide +kernel
theorem dX2_valueOf_170 : decode cX2_valueOf 170 = .ok (.getfield 36, 3) := by decide +kernel
theorem dX2_valueOf_173 : decode cX2_valueOf 173 = .ok (.iconst 0, 1) := by decide +kernel
theorem dX2_valueOf_174 : decode cX2_valueOf 174 = .ok (.iaload, 1) := by decide +kernel
theorem dX2_valueOf_175 : decode cX2_valueOf 175 = .ok (.goto 4, 3) := by decide +kernel
theorem dX2_valueOf_178 : decode cX2_valueOf 178 = .ok (.iconst 0, 1) := by decide +kernel
theorem dX2_valueOf_179 : decode cX2_valueOf 179 = .ok (.ireturn, 1) := by decide +kernel
theorem dX2_join_0 : decode cX2_join 0 = .ok (.iload_n 0, 1) := by decide +kernel
theorem dX2_join_1 : decode cX2_join 1 = .ok (.tableswitch 105 11 17 #[43, 57, 71, 82, 93, 97, 101], 43) := by decide +kernel
theorem dX2_join_44 : decode cX2_join 44 = .ok (.iload_n 1, 1) := by decide +kernel
theorem dX2_join_45 : decode cX2_join 45 = .ok (.ifCond .eq 11, 3) := by decide +kernel
theorem dX2_join_48 : decode cX2_join 48 = .ok (.iload_n 2, 1) := by decide +kernel
theorem dX2_join_49 : decode cX2_join 49 = .ok (.ifCond .eq 7, 3) := by decide +kernel
theorem dX2_join_52 : decode cX2_join 52 = .ok (.iconst 1, 1) := by decide +kernel
theorem dX2_join_53 : decode cX2_join 53 = .ok (.goto 4, 3) := by decide +kernel
theorem dX2_join_56 : decode cX2_join 56 = .ok (.iconst 0, 1) := by decide +kernel
theorem dX2_join_57 : decode cX2_join 57 = .ok (.ireturn, 1) := by decide +kernel
theorem dX2_join_58 : decode cX2_join 58 = .ok (.iload_n 1, 1) := by decide +kernel
theorem dX2_join_59 : decode cX2_join 59 = .ok (.ifCond .ne 7, 3) := by decide +kernel
theorem dX2_join_62 : decode cX2_join 62 = .ok (.iload_n 2, 1) := by decide +kernel
theorem dX2_join_63 : decode cX2_join 63 = .ok (.ifCond .eq 7, 3) := by decide +kernel
theorem dX2_join_66 : decode cX2_join 66 = .ok (.iconst 1, 1) := by decide +kernel
theorem dX2_join_67 : decode cX2_join 67 = .ok (.goto 4, 3) := by decide +kernel
theorem dX2_join_70 : decode cX2_join 70 = .ok (.iconst 0, 1) := by decide +kernel
theorem dX2_join_71 : decode cX2_join 71 = .ok (.ireturn, 1) := by decide +kernel
theorem dX2_join_72 : decode cX2_join 72 = .ok (.iload_n 1, 1) := by decide +kernel
theorem dX2_join_73 : decode cX2_join 73 = .ok (.iload_n 2, 1) := by decide +kernel
theorem dX2_join_74 : decode cX2_join 74 = .ok (.if_icmp .ge 7, 3) := by decide +kernel
theorem dX2_join_77 : decode cX2_join 77 = .ok (.iconst 1, 1) := by decide +kernel
theorem dX2_join_78 : decode cX2_join 78 = .ok (.goto 4, 3) := by decide +kernel
theorem dX2_join_81 : decode cX2_join 81 = .ok (.iconst 0, 1) := by decide +kernel
theorem dX2_join_82 : decode cX2_join 82 = .ok (.ireturn, 1) := by decide +kernel
theorem dX2_join_83 : decode cX2_join 83 = .ok (.iload_n 1, 1) := by decide +kernel
theorem dX2_join_84 : decode cX2_join 84 = .ok (.iload_n 2, 1) := by decide +kernel
theorem dX2_join_85 : decode cX2_join 85 = .ok (.if_icmp .ne 7, 3) := by decide +kernel
theorem dX2_join_88 : decode cX2_join 88 = .ok (.iconst 1, 1) := by decide +kernel
theorem dX2_join_89 : decode cX2_join 89 = .ok (.goto 4, 3) := by decide +kernel
theorem dX2_join_92 : decode cX2_join 92 = .ok (.iconst 0, 1) := by decide +kernel
theorem dX2_join_93 : decode cX2_join 93 = .ok (.ireturn, 1) := by decide +kernel
theorem dX2_join_94 : decode cX2_join 94 = .ok (.iload_n 1, 1) := by decide +kernel
theorem dX2_join_95 : decode cX2_join 95 = .ok (.iload_n 2, 1) := by decide +kernel
theorem dX2_join_96 : decode cX2_join 96 = .ok (.iadd, 1) := by decide +kernel
theorem dX2_join_97 : decode cX2_join 97 = .ok (.ireturn, 1) := by decide +kernel
theorem dX2_join_98 : decode cX2_join 98 = .ok (.iload_n 1, 1) := by decide +kernel
theorem dX2_join_99 : decode cX2_join 99 = .ok (.iload_n 2, 1) := by decide +kernel
theorem dX2_join_100 : decode cX2_join 100 = .ok (.isub, 1) := by decide +kernel
theorem dX2_join_101 : decode cX2_join 101 = .ok (.ireturn, 1) := by decide +kernel
theorem dX2_join_102 : decode cX2_join 102 = .ok (.iload_n 1, 1) := by decide +kernel
theorem dX2_join_103 : decode cX2_join 103 = .ok (.iload_n 2, 1) := by decide +kernel
theorem dX2_join_104 : decode cX2_join 104 = .ok (.imul, 1) := by decide +kernel
theorem dX2_join_105 : decode cX2_join 105 = .ok (.ireturn, 1) := by decide +kernel
theorem dX2_join_106 : decode cX2_join 106 = .ok (.iload_n 2, 1) := by decide +kernel
theorem dX2_join_107 : decode cX2_join 107 = .ok (.ifCond .ne 7, 3) := by decide +kernel
theorem dX2_join_110 : decode cX2_join 110 = .ok (.iconst 0, 1) := by decide +kernel
theorem dX2_join_111 : decode cX2_join 111 = .ok (.goto 6, 3) := by decide +kernel
theorem dX2_join_114 : decode cX2_join 114 = .ok (.iload_n 1, 1) := by decide +kernel
theorem dX2_join_115 : decode cX2_join 115 = .ok (.iload_n 2, 1) := by decide +kernel
theorem dX2_join_116 : decode cX2_join 116 = .ok (.idiv, 1) := by decide +kernel
theorem dX2_join_117 : decode cX2_join 117 = .ok (.ireturn, 1) := by decide +kernel
theorem dX3_init_0 : decode cX3_init 0 = .ok (.aload_n 0, 1) := by decide +kernel
theorem dX3_init_1 : decode cX3_init 1 = .ok (.invokespecial 3, 3) := by decide +kernel
theorem dX3_init_4 : decode cX3_init 4 = .ok (.aload_n 0, 1) := by decide +kernel
theorem dX3_init_5 : decode cX3_init 5 = .ok (.bipush 12, 2) := by decide +kernel
theorem dX3_init_7 : decode cX3_init 7 = .ok (.newarray .int, 2) := by decide +kernel
theorem dX3_init_9 : decode cX3_init 9 = .ok (.putfield 9, 3) := by decide +kernel
theorem dX3_init_12 : decode cX3_init 12 = .ok (.return_, 1) := by decide +kernel
theorem dX3_begin_0 : decode cX3_begin 0 = .ok (.aload_n 0, 1) := by decide +kernel
theorem dX3_begin_1 : decode cX3_begin 1 = .ok (.iconst 0, 1) := by decide +kernel
theorem dX3_begin_2 : decode cX3_begin 2 = .ok (.putfield 15, 3) := by decide +kernel
theorem dX3_begin_5 : decode cX3_begin 5 = .ok (.aload_n 0, 1) := by decide +kernel
theorem dX3_begin_6 : decode cX3_begin 6 = .ok (.iload_n 1, 1) := by decide +kernel
theorem dX3_begin_7 : decode cX3_begin 7 = .ok (.putfield 19, 3) := by decide +kernel
theorem dX3_begin_10 : decode cX3_begin 10 = .ok (.aload_n 0, 1) := by decide +kernel
theorem dX3_begin_11 : decode cX3_begin 11 = .ok (.iconst 0, 1) := by decide +kernel
theorem dX3_begin_12 : decode cX3_begin 12 = .ok (.putfield 22, 3) := by decide +kernel
theorem dX3_begin_15 : decode cX3_begin 15 = .ok (.aload_n 0, 1) := by decide +kernel
theorem dX3_begin_16 : decode cX3_begin 16 = .ok (.iconst 0, 1) := by decide +kernel
theorem dX3_begin_17 : decode cX3_begin 17 = .ok (.putfield 25, 3) := by decide +kernel
theorem dX3_begin_20 : decode cX3_begin 20 = .ok (.aload_n 0, 1) := by decide +kernel
theorem dX3_begin_21 : decode cX3_begin 21 = .ok (.iconst (-1), 1) := by decide +kernel
theorem dX3_begin_22 : decode cX3_begin 22 = .ok (.putfield 28, 3) := by decide +kernel
theorem dX3_begin_25 : decode cX3_begin 25 = .ok (.aload_n 0, 1) := by decide +kernel
theorem dX3_begin_26 : decode cX3_begin 26 = .ok (.iload_n 2, 1) := by decide +kernel
theorem dX3_begin_27 : decode cX3_begin 27 = .ok (.putfield 31, 3) := by decide +kernel
theorem dX3_begin_30 : decode cX3_begin 30 = .ok (.aload_n 0, 1) := by decide +kernel
theorem dX3_begin_31 : decode cX3_begin 31 = .ok (.iconst 0, 1) := by decide +kernel
theorem dX3_begin_32 : decode cX3_begin 32 = .ok (.putfield 34, 3) := by decide +kernel
theorem dX3_begin_35 : decode cX3_begin 35 = .ok (.iconst 0, 1) := by decide +kernel
theorem dX3_begin_36 : decode cX3_begin 36 = .ok (.istore_n 3, 1) := by decide +kernel
theorem dX3_begin_37 : decode cX3_begin 37 = .ok (.iload_n 3, 1) := by decide +kernel
theorem dX3_begin_38 : decode cX3_begin 38 = .ok (.bipush 12, 2) := by decide +kernel
theorem dX3_begin_40 : decode cX3_begin 40 = .ok (.if_icmp .ge 16, 3) := by decide +kernel
theorem dX3_begin_43 : decode cX3_begin 43 = .ok (.aload_n 0, 1) := by decide +kernel
theorem dX3_begin_44 : decode cX3_begin 44 = .ok (.getfield 9, 3) := by decide +kernel
theorem dX3_begin_47 : decode cX3_begin 47 = .ok (.iload_n 3, 1) := by decide +kernel
theorem dX3_begin_48 : decode cX3_begin 48 = .ok (.iconst 0, 1) := by decide +kernel
theorem dX3_begin_49 : decode cX3_begin 49 = .ok (.iastore, 1) := by decide +kernel
theorem dX3_begin_50 : decode cX3_begin 50 = .ok (.iinc 3 1, 3) := by decide +kernel
theorem dX3_begin_53 : decode cX3_begin 53 = .ok (.goto (-16), 3) := by decide +kernel
theorem dX3_begin_56 : decode cX3_begin 56 = .ok (.return_, 1) := by decide +kernel
theorem dX3_becomeLike_0 : decode cX3_becomeLike 0 = .ok (.aload_n 0, 1) := by decide +kernel
theorem dX3_becomeLike_1 : decode cX3_becomeLike 1 = .ok (.aload_n 1, 1) := by decide +kernel
theorem dX3_becomeLike_2 : decode cX3_becomeLike 2 = .ok (.getfield 15, 3) := by decide +kernel
theorem dX3_becomeLike_5 : decode cX3_becomeLike 5 = .ok (.putfield 15, 3) := by decide +kernel
theorem dX3_becomeLike_8 : decode cX3_becomeLike 8 = .ok (.aload_n 0, 1) := by decide +kernel
theorem dX3_becomeLike_9 : decode cX3_becomeLike 9 = .ok (.aload_n 1, 1) := by decide +kernel
theorem dX3_becomeLike_10 : decode cX3_becomeLike 10 = .ok (.getfield 19, 3) := by decide +kernel
theorem dX3_becomeLike_13 : decode cX3_becomeLike 13 = .ok (.putfield 19, 3) := by decide +kernel
theorem dX3_becomeLike_16 : decode cX3_becomeLike 16 = .ok (.aload_n 0, 1) := by decide +kernel
theorem dX3_becomeLike_17 : decode cX3_becomeLike 17 = .ok (.aload_n 1, 1) := by decide +kernel
theorem dX3_becomeLike_18 : decode cX3_becomeLike 18 = .ok (.getfield 22, 3) := by decide +kernel
theorem dX3_becomeLike_21 : decode cX3_becomeLike 21 = .ok (.putfield 22, 3) := by decide +kernel
theorem dX3_becomeLike_24 : decode cX3_becomeLike 24 = .ok (.aload_n 0, 1) := by decide +kernel
theorem dX3_becomeLike_25 : decode cX3_becomeLike 25 = .ok (.aload_n 1, 1) := by decide +kernel
theorem dX3_becomeLike_26 : decode cX3_becomeLike 26 = .ok (.getfield 25, 3) := by decide +kernel
theorem dX3_becomeLike_29 : decode cX3_becomeLike 29 = .ok (.putfield 25, 3) := by decide +kernel
theorem dX3_becomeLike_32 : decode cX3_becomeLike 32 = .ok (.aload_n 0, 1) := by decide +kernel
theorem dX3_becomeLike_33 : decode cX3_becomeLike 33 = .ok (.aload_n 1, 1) := by decide +kernel
theorem dX3_becomeLike_34 : decode cX3_becomeLike 34 = .ok (.getfield 28, 3) := by decide +kernel
theorem dX3_becomeLike_37 : decode cX3_becomeLike 37 = .ok (.putfield 28, 3) := by decide +kernel
theorem dX3_becomeLike_40 : decode cX3_becomeLike 40 = .ok (.aload_n 0, 1) := by decide +kernel
theorem dX3_becomeLike_41 : decode cX3_becomeLike 41 = .ok (.aload_n 1, 1) := by decide +kernel
theorem dX3_becomeLike_42 : decode cX3_becomeLike 42 = .ok (.getfield 31, 3) := by decide +kernel
theorem dX3_becomeLike_45 : decode cX3_becomeLike 45 = .ok (.putfield 31, 3) := by decide +kernel
theorem dX3_becomeLike_48 : decode cX3_becomeLike 48 = .ok (.aload_n 0, 1) := by decide +kernel
theorem dX3_becomeLike_49 : decode cX3_becomeLike 49 = .ok (.aload_n 1, 1) := by decide +kernel
theorem dX3_becomeLike_50 : decode cX3_becomeLike 50 = .ok (.getfield 34, 3) := by decide +kernel
theorem dX3_becomeLike_53 : decode cX3_becomeLike 53 = .ok (.putfield 34, 3) := by decide +kernel
theorem dX3_becomeLike_56 : decode cX3_becomeLike 56 = .ok (.aload_n 1, 1) := by decide +kernel
theorem dX3_becomeLike_57 : decode cX3_becomeLike 57 = .ok (.getfield 9, 3) := by decide +kernel
theorem dX3_becomeLike_60 : decode cX3_becomeLike 60 = .ok (.iconst 0, 1) := by decide +kernel
theorem dX3_becomeLike_61 : decode cX3_becomeLike 61 = .ok (.aload_n 0, 1) := by decide +kernel
theorem dX3_becomeLike_62 : decode cX3_becomeLike 62 = .ok (.getfield 9, 3) := by decide +kernel
theorem dX3_becomeLike_65 : decode cX3_becomeLike 65 = .ok (.iconst 0, 1) := by decide +kernel
theorem dX3_becomeLike_66 : decode cX3_becomeLike 66 = .ok (.bipush 12, 2) := by decide +kernel
theorem dX3_becomeLike_68 : decode cX3_becomeLike 68 = .ok (.invokestatic 37, 3) := by decide +kernel
theorem dX3_becomeLike_71 : decode cX3_becomeLike 71 = .ok (.return_, 1) := by decide +kernel
theorem dX3_isThereIn_0 : decode cX3_isThereIn 0 = .ok (.aload_n 0, 1) := by decide +kernel
theorem dX3_isThereIn_1 : decode cX3_isThereIn 1 = .ok (.getfield 15, 3) := by decide +kernel
theorem dX3_isThereIn_4 : decode cX3_isThereIn 4 = .ok (.ifCond .ne 15, 3) := by decide +kernel
theorem dX3_isThereIn_7 : decode cX3_isThereIn 7 = .ok (.aload_n 0, 1) := by decide +kernel
theorem dX3_isThereIn_8 : decode cX3_isThereIn 8 = .ok (.getfield 19, 3) := by decide +kernel
end
section
theorem dX3_isThereIn_11 : decode cX3_isThereIn 11 = .ok (.iload_n 1, 1) := by decide +kernel
theorem dX3_isThereIn_12 : decode cX3_isThereIn 12 = .ok (.if_icmp .ne 7, 3) := by decide +kernel
theorem dX3_isThereIn_15 : decode cX3_isThereIn 15 = .ok (.iconst 1, 1) := by decide +kernel
theorem dX3_isThereIn_16 : decode cX3_isThereIn 16 = .ok (.goto 4, 3) := by decide +kernel
theorem dX3_isThereIn_19 : decode cX3_isThereIn 19 = .ok (.iconst 0, 1) := by decide +kernel
theorem dX3_isThereIn_20 : decode cX3_isThereIn 20 = .ok (.ireturn, 1) := by decide +kernel
theorem dX3_takeGas_0 : decode cX3_takeGas 0 = .ok (.aload_n 0, 1) := by decide +kernel
theorem dX3_takeGas_1 : decode cX3_takeGas 1 = .ok (.dup, 1) := by decide +kernel
theorem dX3_takeGas_2 : decode cX3_takeGas 2 = .ok (.getfield 25, 3) := by decide +kernel
theorem dX3_takeGas_5 : decode cX3_takeGas 5 = .ok (.iload_n 1, 1) := by decide +kernel
theorem dX3_takeGas_6 : decode cX3_takeGas 6 = .ok (.iadd, 1) := by decide +kernel
theorem dX3_takeGas_7 : decode cX3_takeGas 7 = .ok (.putfield 25, 3) := by decide +kernel
theorem dX3_takeGas_10 : decode cX3_takeGas 10 = .ok (.aload_n 0, 1) := by decide +kernel
theorem dX3_takeGas_11 : decode cX3_takeGas 11 = .ok (.dup, 1) := by decide +kernel
theorem dX3_takeGas_12 : decode cX3_takeGas 12 = .ok (.getfield 22, 3) := by decide +kernel
theorem dX3_takeGas_15 : decode cX3_takeGas 15 = .ok (.iload_n 1, 1) := by decide +kernel
theorem dX3_takeGas_16 : decode cX3_takeGas 16 = .ok (.iadd, 1) := by decide +kernel
theorem dX3_takeGas_17 : decode cX3_takeGas 17 = .ok (.putfield 22, 3) := by decide +kernel
theorem dX3_takeGas_20 : decode cX3_takeGas 20 = .ok (.return_, 1) := by decide +kernel
theorem dX3_takeDust_0 : decode cX3_takeDust 0 = .ok (.aload_n 0, 1) := by decide +kernel
theorem dX3_takeDust_1 : decode cX3_takeDust 1 = .ok (.getfield 9, 3) := by decide +kernel
theorem dX3_takeDust_4 : decode cX3_takeDust 4 = .ok (.aload_n 0, 1) := by decide +kernel
theorem dX3_takeDust_5 : decode cX3_takeDust 5 = .ok (.getfield 19, 3) := by decide +kernel
theorem dX3_takeDust_8 : decode cX3_takeDust 8 = .ok (.dup2, 1) := by decide +kernel
theorem dX3_takeDust_9 : decode cX3_takeDust 9 = .ok (.iaload, 1) := by decide +kernel
theorem dX3_takeDust_10 : decode cX3_takeDust 10 = .ok (.iload_n 1, 1) := by decide +kernel
theorem dX3_takeDust_11 : decode cX3_takeDust 11 = .ok (.iadd, 1) := by decide +kernel
theorem dX3_takeDust_12 : decode cX3_takeDust 12 = .ok (.iastore, 1) := by decide +kernel
theorem dX3_takeDust_13 : decode cX3_takeDust 13 = .ok (.aload_n 0, 1) := by decide +kernel
theorem dX3_takeDust_14 : decode cX3_takeDust 14 = .ok (.dup, 1) := by decide +kernel
theorem dX3_takeDust_15 : decode cX3_takeDust 15 = .ok (.getfield 22, 3) := by decide +kernel
theorem dX3_takeDust_18 : decode cX3_takeDust 18 = .ok (.iload_n 1, 1) := by decide +kernel
theorem dX3_takeDust_19 : decode cX3_takeDust 19 = .ok (.iadd, 1) := by decide +kernel
theorem dX3_takeDust_20 : decode cX3_takeDust 20 = .ok (.putfield 22, 3) := by decide +kernel
theorem dX3_takeDust_23 : decode cX3_takeDust 23 = .ok (.return_, 1) := by decide +kernel
theorem dX3_takeAllOf_0 : decode cX3_takeAllOf 0 = .ok (.iconst 0, 1) := by decide +kernel
theorem dX3_takeAllOf_1 : decode cX3_takeAllOf 1 = .ok (.istore_n 2, 1) := by decide +kernel
theorem dX3_takeAllOf_2 : decode cX3_takeAllOf 2 = .ok (.iload_n 2, 1) := by decide +kernel
theorem dX3_takeAllOf_3 : decode cX3_takeAllOf 3 = .ok (.bipush 12, 2) := by decide +kernel
theorem dX3_takeAllOf_5 : decode cX3_takeAllOf 5 = .ok (.if_icmp .ge 24, 3) := by decide +kernel
theorem dX3_takeAllOf_8 : decode cX3_takeAllOf 8 = .ok (.aload_n 0, 1) := by decide +kernel
theorem dX3_takeAllOf_9 : decode cX3_takeAllOf 9 = .ok (.getfield 9, 3) := by decide +kernel
theorem dX3_takeAllOf_12 : decode cX3_takeAllOf 12 = .ok (.iload_n 2, 1) := by decide +kernel
theorem dX3_takeAllOf_13 : decode cX3_takeAllOf 13 = .ok (.dup2, 1) := by decide +kernel
theorem dX3_takeAllOf_14 : decode cX3_takeAllOf 14 = .ok (.iaload, 1) := by decide +kernel
theorem dX3_takeAllOf_15 : decode cX3_takeAllOf 15 = .ok (.aload_n 1, 1) := by decide +kernel
theorem dX3_takeAllOf_16 : decode cX3_takeAllOf 16 = .ok (.getfield 9, 3) := by decide +kernel
theorem dX3_takeAllOf_19 : decode cX3_takeAllOf 19 = .ok (.iload_n 2, 1) := by decide +kernel
theorem dX3_takeAllOf_20 : decode cX3_takeAllOf 20 = .ok (.iaload, 1) := by decide +kernel
theorem dX3_takeAllOf_21 : decode cX3_takeAllOf 21 = .ok (.iadd, 1) := by decide +kernel
theorem dX3_takeAllOf_22 : decode cX3_takeAllOf 22 = .ok (.iastore, 1) := by decide +kernel
theorem dX3_takeAllOf_23 : decode cX3_takeAllOf 23 = .ok (.iinc 2 1, 3) := by decide +kernel
theorem dX3_takeAllOf_26 : decode cX3_takeAllOf 26 = .ok (.goto (-24), 3) := by decide +kernel
theorem dX3_takeAllOf_29 : decode cX3_takeAllOf 29 = .ok (.aload_n 0, 1) := by decide +kernel
theorem dX3_takeAllOf_30 : decode cX3_takeAllOf 30 = .ok (.dup, 1) := by decide +kernel
theorem dX3_takeAllOf_31 : decode cX3_takeAllOf 31 = .ok (.getfield 25, 3) := by decide +kernel
theorem dX3_takeAllOf_34 : decode cX3_takeAllOf 34 = .ok (.aload_n 1, 1) := by decide +kernel
theorem dX3_takeAllOf_35 : decode cX3_takeAllOf 35 = .ok (.getfield 25, 3) := by decide +kernel
theorem dX3_takeAllOf_38 : decode cX3_takeAllOf 38 = .ok (.iadd, 1) := by decide +kernel
theorem dX3_takeAllOf_39 : decode cX3_takeAllOf 39 = .ok (.putfield 25, 3) := by decide +kernel
theorem dX3_takeAllOf_42 : decode cX3_takeAllOf 42 = .ok (.aload_n 0, 1) := by decide +kernel
theorem dX3_takeAllOf_43 : decode cX3_takeAllOf 43 = .ok (.dup, 1) := by decide +kernel
theorem dX3_takeAllOf_44 : decode cX3_takeAllOf 44 = .ok (.getfield 22, 3) := by decide +kernel
theorem dX3_takeAllOf_47 : decode cX3_takeAllOf 47 = .ok (.aload_n 1, 1) := by decide +kernel
theorem dX3_takeAllOf_48 : decode cX3_takeAllOf 48 = .ok (.getfield 22, 3) := by decide +kernel
theorem dX3_takeAllOf_51 : decode cX3_takeAllOf 51 = .ok (.iadd, 1) := by decide +kernel
theorem dX3_takeAllOf_52 : decode cX3_takeAllOf 52 = .ok (.putfield 22, 3) := by decide +kernel
theorem dX3_takeAllOf_55 : decode cX3_takeAllOf 55 = .ok (.return_, 1) := by decide +kernel
theorem dX3_familyOf_0 : decode cX3_familyOf 0 = .ok (.iconst (-1), 1) := by decide +kernel
theorem dX3_familyOf_1 : decode cX3_familyOf 1 = .ok (.istore_n 2, 1) := by decide +kernel
theorem dX3_familyOf_2 : decode cX3_familyOf 2 = .ok (.iconst 0, 1) := by decide +kernel
theorem dX3_familyOf_3 : decode cX3_familyOf 3 = .ok (.istore_n 3, 1) := by decide +kernel
theorem dX3_familyOf_4 : decode cX3_familyOf 4 = .ok (.iconst 0, 1) := by decide +kernel
theorem dX3_familyOf_5 : decode cX3_familyOf 5 = .ok (.istore 4, 2) := by decide +kernel
theorem dX3_familyOf_7 : decode cX3_familyOf 7 = .ok (.iload 4, 2) := by decide +kernel
theorem dX3_familyOf_9 : decode cX3_familyOf 9 = .ok (.iload_n 1, 1) := by decide +kernel
theorem dX3_familyOf_10 : decode cX3_familyOf 10 = .ok (.if_icmp .ge 38, 3) := by decide +kernel
theorem dX3_familyOf_13 : decode cX3_familyOf 13 = .ok (.iload 4, 2) := by decide +kernel
theorem dX3_familyOf_15 : decode cX3_familyOf 15 = .ok (.bipush 12, 2) := by decide +kernel
theorem dX3_familyOf_17 : decode cX3_familyOf 17 = .ok (.if_icmp .ge 31, 3) := by decide +kernel
theorem dX3_familyOf_20 : decode cX3_familyOf 20 = .ok (.aload_n 0, 1) := by decide +kernel
theorem dX3_familyOf_21 : decode cX3_familyOf 21 = .ok (.getfield 9, 3) := by decide +kernel
theorem dX3_familyOf_24 : decode cX3_familyOf 24 = .ok (.iload 4, 2) := by decide +kernel
theorem dX3_familyOf_26 : decode cX3_familyOf 26 = .ok (.iaload, 1) := by decide +kernel
theorem dX3_familyOf_27 : decode cX3_familyOf 27 = .ok (.iload_n 3, 1) := by decide +kernel
theorem dX3_familyOf_28 : decode cX3_familyOf 28 = .ok (.if_icmp .le 14, 3) := by decide +kernel
theorem dX3_familyOf_31 : decode cX3_familyOf 31 = .ok (.aload_n 0, 1) := by decide +kernel
theorem dX3_familyOf_32 : decode cX3_familyOf 32 = .ok (.getfield 9, 3) := by decide +kernel
theorem dX3_familyOf_35 : decode cX3_familyOf 35 = .ok (.iload 4, 2) := by decide +kernel
theorem dX3_familyOf_37 : decode cX3_familyOf 37 = .ok (.iaload, 1) := by decide +kernel
theorem dX3_familyOf_38 : decode cX3_familyOf 38 = .ok (.istore_n 3, 1) := by decide +kernel
theorem dX3_familyOf_39 : decode cX3_familyOf 39 = .ok (.iload 4, 2) := by decide +kernel
theorem dX3_familyOf_41 : decode cX3_familyOf 41 = .ok (.istore_n 2, 1) := by decide +kernel
theorem dX3_familyOf_42 : decode cX3_familyOf 42 = .ok (.iinc 4 1, 3) := by decide +kernel
theorem dX3_familyOf_45 : decode cX3_familyOf 45 = .ok (.goto (-38), 3) := by decide +kernel
theorem dX3_familyOf_48 : decode cX3_familyOf 48 = .ok (.iload_n 2, 1) := by decide +kernel
theorem dX3_familyOf_49 : decode cX3_familyOf 49 = .ok (.ireturn, 1) := by decide +kernel
theorem dX4_init_0 : decode cX4_init 0 = .ok (.aload_n 0, 1) := by decide +kernel
theorem dX4_init_1 : decode cX4_init 1 = .ok (.invokespecial 3, 3) := by decide +kernel
theorem dX4_init_4 : decode cX4_init 4 = .ok (.return_, 1) := by decide +kernel
theorem dX4_read_0 : decode cX4_read 0 = .ok (.aload_n 0, 1) := by decide +kernel
theorem dX4_read_1 : decode cX4_read 1 = .ok (.aload_n 1, 1) := by decide +kernel
theorem dX4_read_2 : decode cX4_read 2 = .ok (.putfield 9, 3) := by decide +kernel
theorem dX4_read_5 : decode cX4_read 5 = .ok (.aload_n 0, 1) := by decide +kernel
theorem dX4_read_6 : decode cX4_read 6 = .ok (.aload_n 2, 1) := by decide +kernel
theorem dX4_read_7 : decode cX4_read 7 = .ok (.putfield 15, 3) := by decide +kernel
theorem dX4_read_10 : decode cX4_read 10 = .ok (.aload_n 0, 1) := by decide +kernel
theorem dX4_read_11 : decode cX4_read 11 = .ok (.getfield 15, 3) := by decide +kernel
theorem dX4_read_14 : decode cX4_read 14 = .ok (.invokevirtual 19, 3) := by decide +kernel
theorem dX4_read_17 : decode cX4_read 17 = .ok (.aload_n 0, 1) := by decide +kernel
theorem dX4_read_18 : decode cX4_read 18 = .ok (.iconst 0, 1) := by decide +kernel
theorem dX4_read_19 : decode cX4_read 19 = .ok (.putfield 24, 3) := by decide +kernel
theorem dX4_read_22 : decode cX4_read 22 = .ok (.aload_n 0, 1) := by decide +kernel
theorem dX4_read_23 : decode cX4_read 23 = .ok (.iconst 0, 1) := by decide +kernel
theorem dX4_read_24 : decode cX4_read 24 = .ok (.putfield 28, 3) := by decide +kernel
theorem dX4_read_27 : decode cX4_read 27 = .ok (.aload_n 0, 1) := by decide +kernel
theorem dX4_read_28 : decode cX4_read 28 = .ok (.invokevirtual 31, 3) := by decide +kernel
theorem dX4_read_31 : decode cX4_read 31 = .ok (.iconst 0, 1) := by decide +kernel
theorem dX4_read_32 : decode cX4_read 32 = .ok (.istore_n 3, 1) := by decide +kernel
theorem dX4_read_33 : decode cX4_read 33 = .ok (.iload_n 3, 1) := by decide +kernel
theorem dX4_read_34 : decode cX4_read 34 = .ok (.bipush 24, 2) := by decide +kernel
theorem dX4_read_36 : decode cX4_read 36 = .ok (.if_icmp .gt 27, 3) := by decide +kernel
theorem dX4_read_39 : decode cX4_read 39 = .ok (.aload_n 0, 1) := by decide +kernel
theorem dX4_read_40 : decode cX4_read 40 = .ok (.getfield 24, 3) := by decide +kernel
theorem dX4_read_43 : decode cX4_read 43 = .ok (.ifCond .ne 20, 3) := by decide +kernel
theorem dX4_read_46 : decode cX4_read 46 = .ok (.aload_n 0, 1) := by decide +kernel
theorem dX4_read_47 : decode cX4_read 47 = .ok (.getfield 34, 3) := by decide +kernel
theorem dX4_read_50 : decode cX4_read 50 = .ok (.ifCond .eq 13, 3) := by decide +kernel
theorem dX4_read_53 : decode cX4_read 53 = .ok (.aload_n 0, 1) := by decide +kernel
theorem dX4_read_54 : decode cX4_read 54 = .ok (.invokevirtual 37, 3) := by decide +kernel
theorem dX4_read_57 : decode cX4_read 57 = .ok (.iinc 3 1, 3) := by decide +kernel
theorem dX4_read_60 : decode cX4_read 60 = .ok (.goto (-27), 3) := by decide +kernel
theorem dX4_read_63 : decode cX4_read 63 = .ok (.aload_n 0, 1) := by decide +kernel
theorem dX4_read_64 : decode cX4_read 64 = .ok (.getfield 24, 3) := by decide +kernel
theorem dX4_read_67 : decode cX4_read 67 = .ok (.ireturn, 1) := by decide +kernel
theorem dX4_refuse_0 : decode cX4_refuse 0 = .ok (.aload_n 0, 1) := by decide +kernel
theorem dX4_refuse_1 : decode cX4_refuse 1 = .ok (.getfield 24, 3) := by decide +kernel
theorem dX4_refuse_4 : decode cX4_refuse 4 = .ok (.ifCond .ne 16, 3) := by decide +kernel
theorem dX4_refuse_7 : decode cX4_refuse 7 = .ok (.aload_n 0, 1) := by decide +kernel
theorem dX4_refuse_8 : decode cX4_refuse 8 = .ok (.iload_n 1, 1) := by decide +kernel
theorem dX4_refuse_9 : decode cX4_refuse 9 = .ok (.bipush 16, 2) := by decide +kernel
theorem dX4_refuse_11 : decode cX4_refuse 11 = .ok (.aload_n 0, 1) := by decide +kernel
theorem dX4_refuse_12 : decode cX4_refuse 12 = .ok (.getfield 40, 3) := by decide +kernel
theorem dX4_refuse_15 : decode cX4_refuse 15 = .ok (.imul, 1) := by decide +kernel
theorem dX4_refuse_16 : decode cX4_refuse 16 = .ok (.iadd, 1) := by decide +kernel
theorem dX4_refuse_17 : decode cX4_refuse 17 = .ok (.putfield 24, 3) := by decide +kernel
theorem dX4_refuse_20 : decode cX4_refuse 20 = .ok (.return_, 1) := by decide +kernel
theorem dX4_isLetter_0 : decode cX4_isLetter 0 = .ok (.iload_n 0, 1) := by decide +kernel
theorem dX4_isLetter_1 : decode cX4_isLetter 1 = .ok (.bipush 97, 2) := by decide +kernel
theorem dX4_isLetter_3 : decode cX4_isLetter 3 = .ok (.bipush 122, 2) := by decide +kernel
theorem dX4_isLetter_5 : decode cX4_isLetter 5 = .ok (.invokestatic 43, 3) := by decide +kernel
theorem dX4_isLetter_8 : decode cX4_isLetter 8 = .ok (.ireturn, 1) := by decide +kernel
theorem dX4_isDigit_0 : decode cX4_isDigit 0 = .ok (.iload_n 0, 1) := by decide +kernel
theorem dX4_isDigit_1 : decode cX4_isDigit 1 = .ok (.bipush 48, 2) := by decide +kernel
theorem dX4_isDigit_3 : decode cX4_isDigit 3 = .ok (.bipush 57, 2) := by decide +kernel
theorem dX4_isDigit_5 : decode cX4_isDigit 5 = .ok (.invokestatic 43, 3) := by decide +kernel
theorem dX4_isDigit_8 : decode cX4_isDigit 8 = .ok (.ireturn, 1) := by decide +kernel
theorem dX4_advance_0 : decode cX4_advance 0 = .ok (.aload_n 0, 1) := by decide +kernel
theorem dX4_advance_1 : decode cX4_advance 1 = .ok (.aload_n 0, 1) := by decide +kernel
theorem dX4_advance_2 : decode cX4_advance 2 = .ok (.getfield 28, 3) := by decide +kernel
theorem dX4_advance_5 : decode cX4_advance 5 = .ok (.putfield 40, 3) := by decide +kernel
theorem dX4_advance_8 : decode cX4_advance 8 = .ok (.aload_n 0, 1) := by decide +kernel
theorem dX4_advance_9 : decode cX4_advance 9 = .ok (.getfield 40, 3) := by decide +kernel
theorem dX4_advance_12 : decode cX4_advance 12 = .ok (.aload_n 0, 1) := by decide +kernel
theorem dX4_advance_13 : decode cX4_advance 13 = .ok (.getfield 9, 3) := by decide +kernel
theorem dX4_advance_16 : decode cX4_advance 16 = .ok (.getfield 47, 3) := by decide +kernel
theorem dX4_advance_19 : decode cX4_advance 19 = .ok (.if_icmp .ge 48, 3) := by decide +kernel
theorem dX4_advance_22 : decode cX4_advance 22 = .ok (.aload_n 0, 1) := by decide +kernel
theorem dX4_advance_23 : decode cX4_advance 23 = .ok (.getfield 9, 3) := by decide +kernel
theorem dX4_advance_26 : decode cX4_advance 26 = .ok (.aload_n 0, 1) := by decide +kernel
theorem dX4_advance_27 : decode cX4_advance 27 = .ok (.getfield 40, 3) := by decide +kernel
theorem dX4_advance_30 : decode cX4_advance 30 = .ok (.invokevirtual 52, 3) := by decide +kernel
theorem dX4_advance_33 : decode cX4_advance 33 = .ok (.bipush 10, 2) := by decide +kernel
theorem dX4_advance_35 : decode cX4_advance 35 = .ok (.if_icmp .eq 19, 3) := by decide +kernel
theorem dX4_advance_38 : decode cX4_advance 38 = .ok (.aload_n 0, 1) := by decide +kernel
theorem dX4_advance_39 : decode cX4_advance 39 = .ok (.getfield 9, 3) := by decide +kernel
theorem dX4_advance_42 : decode cX4_advance 42 = .ok (.aload_n 0, 1) := by decide +kernel
theorem dX4_advance_43 : decode cX4_advance 43 = .ok (.getfield 40, 3) := by decide +kernel
theorem dX4_advance_46 : decode cX4_advance 46 = .ok (.invokevirtual 52, 3) := by decide +kernel
theorem dX4_advance_49 : decode cX4_advance 49 = .ok (.bipush 32, 2) := by decide +kernel
theorem dX4_advance_51 : decode cX4_advance 51 = .ok (.if_icmp .ne 16, 3) := by decide +kernel
theorem dX4_advance_54 : decode cX4_advance 54 = .ok (.aload_n 0, 1) := by decide +kernel
theorem dX4_advance_55 : decode cX4_advance 55 = .ok (.dup, 1) := by decide +kernel
theorem dX4_advance_56 : decode cX4_advance 56 = .ok (.getfield 40, 3) := by decide +kernel
theorem dX4_advance_59 : decode cX4_advance 59 = .ok (.iconst 1, 1) := by decide +kernel
theorem dX4_advance_60 : decode cX4_advance 60 = .ok (.iadd, 1) := by decide +kernel
theorem dX4_advance_61 : decode cX4_advance 61 = .ok (.putfield 40, 3) := by decide +kernel
theorem dX4_advance_64 : decode cX4_advance 64 = .ok (.goto (-56), 3) := by decide +kernel
theorem dX4_advance_67 : decode cX4_advance 67 = .ok (.aload_n 0, 1) := by decide +kernel
theorem dX4_advance_68 : decode cX4_advance 68 = .ok (.aload_n 0, 1) := by decide +kernel
theorem dX4_advance_69 : decode cX4_advance 69 = .ok (.getfield 40, 3) := by decide +kernel
theorem dX4_advance_72 : decode cX4_advance 72 = .ok (.putfield 28, 3) := by decide +kernel
theorem dX4_advance_75 : decode cX4_advance 75 = .ok (.aload_n 0, 1) := by decide +kernel
theorem dX4_advance_76 : decode cX4_advance 76 = .ok (.getfield 9, 3) := by decide +kernel
theorem dX4_advance_79 : decode cX4_advance 79 = .ok (.aload_n 0, 1) := by decide +kernel
theorem dX4_advance_80 : decode cX4_advance 80 = .ok (.getfield 40, 3) := by decide +kernel
theorem dX4_advance_83 : decode cX4_advance 83 = .ok (.invokevirtual 52, 3) := by decide +kernel
theorem dX4_advance_86 : decode cX4_advance 86 = .ok (.istore_n 1, 1) := by decide +kernel
theorem dX4_advance_87 : decode cX4_advance 87 = .ok (.aload_n 0, 1) := by decide +kernel
theorem dX4_advance_88 : decode cX4_advance 88 = .ok (.getfield 40, 3) := by decide +kernel
theorem dX4_advance_91 : decode cX4_advance 91 = .ok (.aload_n 0, 1) := by decide +kernel
theorem dX4_advance_92 : decode cX4_advance 92 = .ok (.getfield 9, 3) := by decide +kernel
theorem dX4_advance_95 : decode cX4_advance 95 = .ok (.getfield 47, 3) := by decide +kernel
theorem dX4_advance_98 : decode cX4_advance 98 = .ok (.if_icmp .lt 11, 3) := by decide +kernel
theorem dX4_advance_101 : decode cX4_advance 101 = .ok (.aload_n 0, 1) := by decide +kernel
theorem dX4_advance_102 : decode cX4_advance 102 = .ok (.iconst 0, 1) := by decide +kernel
theorem dX4_advance_103 : decode cX4_advance 103 = .ok (.putfield 34, 3) := by decide +kernel
theorem dX4_advance_106 : decode cX4_advance 106 = .ok (.goto 60, 3) := by decide +kernel
theorem dX4_advance_109 : decode cX4_advance 109 = .ok (.iload_n 1, 1) := by decide +kernel
theorem dX4_advance_110 : decode cX4_advance 110 = .ok (.invokestatic 56, 3) := by decide +kernel
theorem dX4_advance_113 : decode cX4_advance 113 = .ok (.ifCond .eq 10, 3) := by decide +kernel
theorem dX4_advance_116 : decode cX4_advance 116 = .ok (.aload_n 0, 1) := by decide +kernel
theorem dX4_advance_117 : decode cX4_advance 117 = .ok (.invokevirtual 60, 3) := by decide +kernel
theorem dX4_advance_120 : decode cX4_advance 120 = .ok (.goto 46, 3) := by decide +kernel
theorem dX4_advance_123 : decode cX4_advance 123 = .ok (.iload_n 1, 1) := by decide +kernel
theorem dX4_advance_124 : decode cX4_advance 124 = .ok (.invokestatic 63, 3) := by decide +kernel
theorem dX4_advance_127 : decode cX4_advance 127 = .ok (.ifCond .eq 10, 3) := by decide +kernel
theorem dX4_advance_130 : decode cX4_advance 130 = .ok (.aload_n 0, 1) := by decide +kernel
theorem dX4_advance_131 : decode cX4_advance 131 = .ok (.invokevirtual 66, 3) := by decide +kernel
theorem dX4_advance_134 : decode cX4_advance 134 = .ok (.goto 32, 3) := by decide +kernel
theorem dX4_advance_137 : decode cX4_advance 137 = .ok (.aload_n 0, 1) := by decide +kernel
theorem dX4_advance_138 : decode cX4_advance 138 = .ok (.aload_n 0, 1) := by decide +kernel
theorem dX4_advance_139 : decode cX4_advance 139 = .ok (.getfield 40, 3) := by decide +kernel
theorem dX4_advance_142 : decode cX4_advance 142 = .ok (.iconst 1, 1) := by decide +kernel
theorem dX4_advance_143 : decode cX4_advance 143 = .ok (.iadd, 1) := by decide +kernel
theorem dX4_advance_144 : decode cX4_advance 144 = .ok (.putfield 28, 3) := by decide +kernel
theorem dX4_advance_147 : decode cX4_advance 147 = .ok (.aload_n 0, 1) := by decide +kernel
theorem dX4_advance_148 : decode cX4_advance 148 = .ok (.ldc 69, 2) := by decide +kernel
theorem dX4_advance_150 : decode cX4_advance 150 = .ok (.iload_n 1, 1) := by decide +kernel
theorem dX4_advance_151 : decode cX4_advance 151 = .ok (.i2c, 1) := by decide +kernel
theorem dX4_advance_152 : decode cX4_advance 152 = .ok (.invokevirtual 71, 3) := by decide +kernel
theorem dX4_advance_155 : decode cX4_advance 155 = .ok (.ifCond .lt 7, 3) := by decide +kernel
theorem dX4_advance_158 : decode cX4_advance 158 = .ok (.iconst 3, 1) := by decide +kernel
theorem dX4_advance_159 : decode cX4_advance 159 = .ok (.goto 4, 3) := by decide +kernel
theorem dX4_advance_162 : decode cX4_advance 162 = .ok (.iconst 4, 1) := by decide +kernel
theorem dX4_advance_163 : decode cX4_advance 163 = .ok (.putfield 34, 3) := by decide +kernel
theorem dX4_advance_166 : decode cX4_advance 166 = .ok (.return_, 1) := by decide +kernel
theorem dX4_takeWord_0 : decode cX4_takeWord 0 = .ok (.aload_n 0, 1) := by decide +kernel
theorem dX4_takeWord_1 : decode cX4_takeWord 1 = .ok (.getfield 28, 3) := by decide +kernel
theorem dX4_takeWord_4 : decode cX4_takeWord 4 = .ok (.aload_n 0, 1) := by decide +kernel
theorem dX4_takeWord_5 : decode cX4_takeWord 5 = .ok (.getfield 9, 3) := by decide +kernel
theorem dX4_takeWord_8 : decode cX4_takeWord 8 = .ok (.getfield 47, 3) := by decide +kernel
theorem dX4_takeWord_11 : decode cX4_takeWord 11 = .ok (.if_icmp .ge 33, 3) := by decide +kernel
theorem dX4_takeWord_14 : decode cX4_takeWord 14 = .ok (.aload_n 0, 1) := by decide +kernel
theorem dX4_takeWord_15 : decode cX4_takeWord 15 = .ok (.getfield 9, 3) := by decide +kernel
theorem dX4_takeWord_18 : decode cX4_takeWord 18 = .ok (.aload_n 0, 1) := by decide +kernel
theorem dX4_takeWord_19 : decode cX4_takeWord 19 = .ok (.getfield 28, 3) := by decide +kernel
theorem dX4_takeWord_22 : decode cX4_takeWord 22 = .ok (.invokevirtual 52, 3) := by decide +kernel
theorem dX4_takeWord_25 : decode cX4_takeWord 25 = .ok (.invokestatic 56, 3) := by decide +kernel
theorem dX4_takeWord_28 : decode cX4_takeWord 28 = .ok (.ifCond .eq 16, 3) := by decide +kernel
theorem dX4_takeWord_31 : decode cX4_takeWord 31 = .ok (.aload_n 0, 1) := by decide +kernel
theorem dX4_takeWord_32 : decode cX4_takeWord 32 = .ok (.dup, 1) := by decide +kernel
theorem dX4_takeWord_33 : decode cX4_takeWord 33 = .ok (.getfield 28, 3) := by decide +kernel
theorem dX4_takeWord_36 : decode cX4_takeWord 36 = .ok (.iconst 1, 1) := by decide +kernel
theorem dX4_takeWord_37 : decode cX4_takeWord 37 = .ok (.iadd, 1) := by decide +kernel
theorem dX4_takeWord_38 : decode cX4_takeWord 38 = .ok (.putfield 28, 3) := by decide +kernel
theorem dX4_takeWord_41 : decode cX4_takeWord 41 = .ok (.goto (-41), 3) := by decide +kernel
theorem dX4_takeWord_44 : decode cX4_takeWord 44 = .ok (.aload_n 0, 1) := by decide +kernel
theorem dX4_takeWord_45 : decode cX4_takeWord 45 = .ok (.aload_n 0, 1) := by decide +kernel
theorem dX4_takeWord_46 : decode cX4_takeWord 46 = .ok (.getfield 28, 3) := by decide +kernel
theorem dX4_takeWord_49 : decode cX4_takeWord 49 = .ok (.aload_n 0, 1) := by decide +kernel
theorem dX4_takeWord_50 : decode cX4_takeWord 50 = .ok (.getfield 40, 3) := by decide +kernel
theorem dX4_takeWord_53 : decode cX4_takeWord 53 = .ok (.isub, 1) := by decide +kernel
theorem dX4_takeWord_54 : decode cX4_takeWord 54 = .ok (.bipush 8, 2) := by decide +kernel
theorem dX4_takeWord_56 : decode cX4_takeWord 56 = .ok (.if_icmp .gt 7, 3) := by decide +kernel
theorem dX4_takeWord_59 : decode cX4_takeWord 59 = .ok (.iconst 1, 1) := by decide +kernel
theorem dX4_takeWord_60 : decode cX4_takeWord 60 = .ok (.goto 4, 3) := by decide +kernel
theorem dX4_takeWord_63 : decode cX4_takeWord 63 = .ok (.iconst 4, 1) := by decide +kernel
theorem dX4_takeWord_64 : decode cX4_takeWord 64 = .ok (.putfield 34, 3) := by decide +kernel
theorem dX4_takeWord_67 : decode cX4_takeWord 67 = .ok (.return_, 1) := by decide +kernel
theorem dX4_takeNumber_0 : decode cX4_takeNumber 0 = .ok (.aload_n 0, 1) := by decide +kernel
theorem dX4_takeNumber_1 : decode cX4_takeNumber 1 = .ok (.iconst 0, 1) := by decide +kernel
theorem dX4_takeNumber_2 : decode cX4_takeNumber 2 = .ok (.putfield 76, 3) := by decide +kernel
theorem dX4_takeNumber_5 : decode cX4_takeNumber 5 = .ok (.aload_n 0, 1) := by decide +kernel
theorem dX4_takeNumber_6 : decode cX4_takeNumber 6 = .ok (.getfield 28, 3) := by decide +kernel
theorem dX4_takeNumber_9 : decode cX4_takeNumber 9 = .ok (.aload_n 0, 1) := by decide +kernel
theorem dX4_takeNumber_10 : decode cX4_takeNumber 10 = .ok (.getfield 9, 3) := by decide +kernel
theorem dX4_takeNumber_13 : decode cX4_takeNumber 13 = .ok (.getfield 47, 3) := by decide +kernel
theorem dX4_takeNumber_16 : decode cX4_takeNumber 16 = .ok (.if_icmp .ge 59, 3) := by decide +kernel
theorem dX4_takeNumber_19 : decode cX4_takeNumber 19 = .ok (.aload_n 0, 1) := by decide +kernel
theorem dX4_takeNumber_20 : decode cX4_takeNumber 20 = .ok (.getfield 9, 3) := by decide +kernel
theorem dX4_takeNumber_23 : decode cX4_takeNumber 23 = .ok (.aload_n 0, 1) := by decide +kernel
theorem dX4_takeNumber_24 : decode cX4_takeNumber 24 = .ok (.getfield 28, 3) := by decide +kernel
theorem dX4_takeNumber_27 : decode cX4_takeNumber 27 = .ok (.invokevirtual 52, 3) := by decide +kernel
theorem dX4_takeNumber_30 : decode cX4_takeNumber 30 = .ok (.invokestatic 63, 3) := by decide +kernel
theorem dX4_takeNumber_33 : decode cX4_takeNumber 33 = .ok (.ifCond .eq 42, 3) := by decide +kernel
theorem dX4_takeNumber_36 : decode cX4_takeNumber 36 = .ok (.aload_n 0, 1) := by decide +kernel
theorem dX4_takeNumber_37 : decode cX4_takeNumber 37 = .ok (.aload_n 0, 1) := by decide +kernel
theorem dX4_takeNumber_38 : decode cX4_takeNumber 38 = .ok (.getfield 76, 3) := by decide +kernel
theorem dX4_takeNumber_41 : decode cX4_takeNumber 41 = .ok (.bipush 10, 2) := by decide +kernel
theorem dX4_takeNumber_43 : decode cX4_takeNumber 43 = .ok (.imul, 1) := by decide +kernel
theorem dX4_takeNumber_44 : decode cX4_takeNumber 44 = .ok (.aload_n 0, 1) := by decide +kernel
theorem dX4_takeNumber_45 : decode cX4_takeNumber 45 = .ok (.getfield 9, 3) := by decide +kernel
theorem dX4_takeNumber_48 : decode cX4_takeNumber 48 = .ok (.aload_n 0, 1) := by decide +kernel
theorem dX4_takeNumber_49 : decode cX4_takeNumber 49 = .ok (.getfield 28, 3) := by decide +kernel
theorem dX4_takeNumber_52 : decode cX4_takeNumber 52 = .ok (.invokevirtual 52, 3) := by decide +kernel
theorem dX4_takeNumber_55 : decode cX4_takeNumber 55 = .ok (.iadd, 1) := by decide +kernel
theorem dX4_takeNumber_56 : decode cX4_takeNumber 56 = .ok (.bipush 48, 2) := by decide +kernel
theorem dX4_takeNumber_58 : decode cX4_takeNumber 58 = .ok (.isub, 1) := by decide +kernel
theorem dX4_takeNumber_59 : decode cX4_takeNumber 59 = .ok (.putfield 76, 3) := by decide +kernel
theorem dX4_takeNumber_62 : decode cX4_takeNumber 62 = .ok (.aload_n 0, 1) := by decide +kernel
theorem dX4_takeNumber_63 : decode cX4_takeNumber 63 = .ok (.dup, 1) := by decide +kernel
theorem dX4_takeNumber_64 : decode cX4_takeNumber 64 = .ok (.getfield 28, 3) := by decide +kernel
theorem dX4_takeNumber_67 : decode cX4_takeNumber 67 = .ok (.iconst 1, 1) := by decide +kernel
theorem dX4_takeNumber_68 : decode cX4_takeNumber 68 = .ok (.iadd, 1) := by decide +kernel
theorem dX4_takeNumber_69 : decode cX4_takeNumber 69 = .ok (.putfield 28, 3) := by decide +kernel
theorem dX4_takeNumber_72 : decode cX4_takeNumber 72 = .ok (.goto (-67), 3) := by decide +kernel
theorem dX4_takeNumber_75 : decode cX4_takeNumber 75 = .ok (.aload_n 0, 1) := by decide +kernel
theorem dX4_takeNumber_76 : decode cX4_takeNumber 76 = .ok (.aload_n 0, 1) := by decide +kernel
theorem dX4_takeNumber_77 : decode cX4_takeNumber 77 = .ok (.getfield 28, 3) := by decide +kernel
theorem dX4_takeNumber_80 : decode cX4_takeNumber 80 = .ok (.aload_n 0, 1) := by decide +kernel
theorem dX4_takeNumber_81 : decode cX4_takeNumber 81 = .ok (.getfield 40, 3) := by decide +kernel
theorem dX4_takeNumber_84 : decode cX4_takeNumber 84 = .ok (.isub, 1) := by decide +kernel
theorem dX4_takeNumber_85 : decode cX4_takeNumber 85 = .ok (.iconst 5, 1) := by decide +kernel
theorem dX4_takeNumber_86 : decode cX4_takeNumber 86 = .ok (.if_icmp .gt 7, 3) := by decide +kernel
theorem dX4_takeNumber_89 : decode cX4_takeNumber 89 = .ok (.iconst 2, 1) := by decide +kernel
theorem dX4_takeNumber_90 : decode cX4_takeNumber 90 = .ok (.goto 4, 3) := by decide +kernel
theorem dX4_takeNumber_93 : decode cX4_takeNumber 93 = .ok (.iconst 4, 1) := by decide +kernel
theorem dX4_takeNumber_94 : decode cX4_takeNumber 94 = .ok (.putfield 34, 3) := by decide +kernel
theorem dX4_takeNumber_97 : decode cX4_takeNumber 97 = .ok (.return_, 1) := by decide +kernel
theorem dX4_wordAmong_0 : decode cX4_wordAmong 0 = .ok (.aload_n 0, 1) := by decide +kernel
theorem dX4_wordAmong_1 : decode cX4_wordAmong 1 = .ok (.getfield 34, 3) := by decide +kernel
theorem dX4_wordAmong_4 : decode cX4_wordAmong 4 = .ok (.iconst 1, 1) := by decide +kernel
theorem dX4_wordAmong_5 : decode cX4_wordAmong 5 = .ok (.if_icmp .eq 5, 3) := by decide +kernel
theorem dX4_wordAmong_8 : decode cX4_wordAmong 8 = .ok (.iconst (-1), 1) := by decide +kernel
theorem dX4_wordAmong_9 : decode cX4_wordAmong 9 = .ok (.ireturn, 1) := by decide +kernel
theorem dX4_wordAmong_10 : decode cX4_wordAmong 10 = .ok (.iconst 0, 1) := by decide +kernel
theorem dX4_wordAmong_11 : decode cX4_wordAmong 11 = .ok (.istore_n 2, 1) := by decide +kernel
theorem dX4_wordAmong_12 : decode cX4_wordAmong 12 = .ok (.iconst 0, 1) := by decide +kernel
theorem dX4_wordAmong_13 : decode cX4_wordAmong 13 = .ok (.istore_n 3, 1) := by decide +kernel
theorem dX4_wordAmong_14 : decode cX4_wordAmong 14 = .ok (.iconst 0, 1) := by decide +kernel
theorem dX4_wordAmong_15 : decode cX4_wordAmong 15 = .ok (.istore 4, 2) := by decide +kernel
theorem dX4_wordAmong_17 : decode cX4_wordAmong 17 = .ok (.iload 4, 2) := by decide +kernel
theorem dX4_wordAmong_19 : decode cX4_wordAmong 19 = .ok (.aload_n 1, 1) := by decide +kernel
theorem dX4_wordAmong_20 : decode cX4_wordAmong 20 = .ok (.invokevirtual 79, 3) := by decide +kernel
theorem dX4_wordAmong_23 : decode cX4_wordAmong 23 = .ok (.if_icmp .gt 50, 3) := by decide +kernel
theorem dX4_wordAmong_26 : decode cX4_wordAmong 26 = .ok (.iload 4, 2) := by decide +kernel
theorem dX4_wordAmong_28 : decode cX4_wordAmong 28 = .ok (.aload_n 1, 1) := by decide +kernel
theorem dX4_wordAmong_29 : decode cX4_wordAmong 29 = .ok (.invokevirtual 79, 3) := by decide +kernel
theorem dX4_wordAmong_32 : decode cX4_wordAmong 32 = .ok (.if_icmp .eq 14, 3) := by decide +kernel
theorem dX4_wordAmong_35 : decode cX4_wordAmong 35 = .ok (.aload_n 1, 1) := by decide +kernel
theorem dX4_wordAmong_36 : decode cX4_wordAmong 36 = .ok (.iload 4, 2) := by decide +kernel
theorem dX4_wordAmong_38 : decode cX4_wordAmong 38 = .ok (.invokevirtual 82, 3) := by decide +kernel
theorem dX4_wordAmong_41 : decode cX4_wordAmong 41 = .ok (.bipush 32, 2) := by decide +kernel
theorem dX4_wordAmong_43 : decode cX4_wordAmong 43 = .ok (.if_icmp .ne 24, 3) := by decide +kernel
theorem dX4_wordAmong_46 : decode cX4_wordAmong 46 = .ok (.aload_n 0, 1) := by decide +kernel
theorem dX4_wordAmong_47 : decode cX4_wordAmong 47 = .ok (.aload_n 1, 1) := by decide +kernel
theorem dX4_wordAmong_48 : decode cX4_wordAmong 48 = .ok (.iload_n 3, 1) := by decide +kernel
theorem dX4_wordAmong_49 : decode cX4_wordAmong 49 = .ok (.iload 4, 2) := by decide +kernel
theorem dX4_wordAmong_51 : decode cX4_wordAmong 51 = .ok (.invokevirtual 86, 3) := by decide +kernel
theorem dX4_wordAmong_54 : decode cX4_wordAmong 54 = .ok (.ifCond .eq 5, 3) := by decide +kernel
theorem dX4_wordAmong_57 : decode cX4_wordAmong 57 = .ok (.iload_n 2, 1) := by decide +kernel
theorem dX4_wordAmong_58 : decode cX4_wordAmong 58 = .ok (.ireturn, 1) := by decide +kernel
theorem dX4_wordAmong_59 : decode cX4_wordAmong 59 = .ok (.iinc 2 1, 3) := by decide +kernel
theorem dX4_wordAmong_62 : decode cX4_wordAmong 62 = .ok (.iload 4, 2) := by decide +kernel
theorem dX4_wordAmong_64 : decode cX4_wordAmong 64 = .ok (.iconst 1, 1) := by decide +kernel
theorem dX4_wordAmong_65 : decode cX4_wordAmong 65 = .ok (.iadd, 1) := by decide +kernel
theorem dX4_wordAmong_66 : decode cX4_wordAmong 66 = .ok (.istore_n 3, 1) := by decide +kernel
theorem dX4_wordAmong_67 : decode cX4_wordAmong 67 = .ok (.iinc 4 1, 3) := by decide +kernel
theorem dX4_wordAmong_70 : decode cX4_wordAmong 70 = .ok (.goto (-53), 3) := by decide +kernel
theorem dX4_wordAmong_73 : decode cX4_wordAmong 73 = .ok (.iconst (-1), 1) := by decide +kernel
theorem dX4_wordAmong_74 : decode cX4_wordAmong 74 = .ok (.ireturn, 1) := by decide +kernel
theorem dX4_isPieceOf_0 : decode cX4_isPieceOf 0 = .ok (.iload_n 3, 1) := by decide +kernel
theorem dX4_isPieceOf_1 : decode cX4_isPieceOf 1 = .ok (.iload_n 2, 1) := by decide +kernel
theorem dX4_isPieceOf_2 : decode cX4_isPieceOf 2 = .ok (.isub, 1) := by decide +kernel
theorem dX4_isPieceOf_3 : decode cX4_isPieceOf 3 = .ok (.aload_n 0, 1) := by decide +kernel
theorem dX4_isPieceOf_4 : decode cX4_isPieceOf 4 = .ok (.getfield 28, 3) := by decide +kernel
theorem dX4_isPieceOf_7 : decode cX4_isPieceOf 7 = .ok (.aload_n 0, 1) := by decide +kernel
theorem dX4_isPieceOf_8 : decode cX4_isPieceOf 8 = .ok (.getfield 40, 3) := by decide +kernel
theorem dX4_isPieceOf_11 : decode cX4_isPieceOf 11 = .ok (.isub, 1) := by decide +kernel
theorem dX4_isPieceOf_12 : decode cX4_isPieceOf 12 = .ok (.if_icmp .eq 5, 3) := by decide +kernel
theorem dX4_isPieceOf_15 : decode cX4_isPieceOf 15 = .ok (.iconst 0, 1) := by decide +kernel
theorem dX4_isPieceOf_16 : decode cX4_isPieceOf 16 = .ok (.ireturn, 1) := by decide +kernel
theorem dX4_isPieceOf_17 : decode cX4_isPieceOf 17 = .ok (.iload_n 2, 1) := by decide +kernel
theorem dX4_isPieceOf_18 : decode cX4_isPieceOf 18 = .ok (.istore 4, 2) := by decide +kernel
theorem dX4_isPieceOf_20 : decode cX4_isPieceOf 20 = .ok (.iload 4, 2) := by decide +kernel
theorem dX4_isPieceOf_22 : decode cX4_isPieceOf 22 = .ok (.iload_n 3, 1) := by decide +kernel
theorem dX4_isPieceOf_23 : decode cX4_isPieceOf 23 = .ok (.if_icmp .ge 36, 3) := by decide +kernel
theorem dX4_isPieceOf_26 : decode cX4_isPieceOf 26 = .ok (.aload_n 1, 1) := by decide +kernel
theorem dX4_isPieceOf_27 : decode cX4_isPieceOf 27 = .ok (.iload 4, 2) := by decide +kernel
theorem dX4_isPieceOf_29 : decode cX4_isPieceOf 29 = .ok (.invokevirtual 82, 3) := by decide +kernel
theorem dX4_isPieceOf_32 : decode cX4_isPieceOf 32 = .ok (.aload_n 0, 1) := by decide +kernel
theorem dX4_isPieceOf_33 : decode cX4_isPieceOf 33 = .ok (.getfield 9, 3) := by decide +kernel
theorem dX4_isPieceOf_36 : decode cX4_isPieceOf 36 = .ok (.aload_n 0, 1) := by decide +kernel
theorem dX4_isPieceOf_37 : decode cX4_isPieceOf 37 = .ok (.getfield 40, 3) := by decide +kernel
theorem dX4_isPieceOf_40 : decode cX4_isPieceOf 40 = .ok (.iload 4, 2) := by decide +kernel
theorem dX4_isPieceOf_42 : decode cX4_isPieceOf 42 = .ok (.iadd, 1) := by decide +kernel
theorem dX4_isPieceOf_43 : decode cX4_isPieceOf 43 = .ok (.iload_n 2, 1) := by decide +kernel
theorem dX4_isPieceOf_44 : decode cX4_isPieceOf 44 = .ok (.isub, 1) := by decide +kernel
theorem dX4_isPieceOf_45 : decode cX4_isPieceOf 45 = .ok (.invokevirtual 52, 3) := by decide +kernel
theorem dX4_isPieceOf_48 : decode cX4_isPieceOf 48 = .ok (.if_icmp .eq 5, 3) := by decide +kernel
theorem dX4_isPieceOf_51 : decode cX4_isPieceOf 51 = .ok (.iconst 0, 1) := by decide +kernel
theorem dX4_isPieceOf_52 : decode cX4_isPieceOf 52 = .ok (.ireturn, 1) := by decide +kernel
theorem dX4_isPieceOf_53 : decode cX4_isPieceOf 53 = .ok (.iinc 4 1, 3) := by decide +kernel
theorem dX4_isPieceOf_56 : decode cX4_isPieceOf 56 = .ok (.goto (-36), 3) := by decide +kernel
theorem dX4_isPieceOf_59 : decode cX4_isPieceOf 59 = .ok (.iconst 1, 1) := by decide +kernel
theorem dX4_isPieceOf_60 : decode cX4_isPieceOf 60 = .ok (.ireturn, 1) := by decide +kernel
theorem dX4_signAmong_0 : decode cX4_signAmong 0 = .ok (.aload_n 0, 1) := by decide +kernel
theorem dX4_signAmong_1 : decode cX4_signAmong 1 = .ok (.getfield 34, 3) := by decide +kernel
theorem dX4_signAmong_4 : decode cX4_signAmong 4 = .ok (.iconst 3, 1) := by decide +kernel
theorem dX4_signAmong_5 : decode cX4_signAmong 5 = .ok (.if_icmp .ne 22, 3) := by decide +kernel
theorem dX4_signAmong_8 : decode cX4_signAmong 8 = .ok (.aload_n 1, 1) := by decide +kernel
theorem dX4_signAmong_9 : decode cX4_signAmong 9 = .ok (.aload_n 0, 1) := by decide +kernel
theorem dX4_signAmong_10 : decode cX4_signAmong 10 = .ok (.getfield 9, 3) := by decide +kernel
theorem dX4_signAmong_13 : decode cX4_signAmong 13 = .ok (.aload_n 0, 1) := by decide +kernel
theorem dX4_signAmong_14 : decode cX4_signAmong 14 = .ok (.getfield 40, 3) := by decide +kernel
theorem dX4_signAmong_17 : decode cX4_signAmong 17 = .ok (.invokevirtual 52, 3) := by decide +kernel
theorem dX4_signAmong_20 : decode cX4_signAmong 20 = .ok (.i2c, 1) := by decide +kernel
theorem dX4_signAmong_21 : decode cX4_signAmong 21 = .ok (.invokevirtual 71, 3) := by decide +kernel
theorem dX4_signAmong_24 : decode cX4_signAmong 24 = .ok (.goto 4, 3) := by decide +kernel
theorem dX4_signAmong_27 : decode cX4_signAmong 27 = .ok (.iconst (-1), 1) := by decide +kernel
theorem dX4_signAmong_28 : decode cX4_signAmong 28 = .ok (.ireturn, 1) := by decide +kernel
theorem dX4_expect_0 : decode cX4_expect 0 = .ok (.iload_n 1, 1) := by decide +kernel
theorem dX4_expect_1 : decode cX4_expect 1 = .ok (.ifCond .eq 10, 3) := by decide +kernel
theorem dX4_expect_4 : decode cX4_expect 4 = .ok (.aload_n 0, 1) := by decide +kernel
theorem dX4_expect_5 : decode cX4_expect 5 = .ok (.invokevirtual 31, 3) := by decide +kernel
theorem dX4_expect_8 : decode cX4_expect 8 = .ok (.goto 8, 3) := by decide +kernel
theorem dX4_expect_11 : decode cX4_expect 11 = .ok (.aload_n 0, 1) := by decide +kernel
theorem dX4_expect_12 : decode cX4_expect 12 = .ok (.iconst 1, 1) := by decide +kernel
theorem dX4_expect_13 : decode cX4_expect 13 = .ok (.invokevirtual 90, 3) := by decide +kernel
theorem dX4_expect_16 : decode cX4_expect 16 = .ok (.return_, 1) := by decide +kernel
theorem dX4_readLaw_0 : decode cX4_readLaw 0 = .ok (.aload_n 0, 1) := by decide +kernel
theorem dX4_readLaw_1 : decode cX4_readLaw 1 = .ok (.ldc 94, 2) := by decide +kernel
theorem dX4_readLaw_3 : decode cX4_readLaw 3 = .ok (.invokevirtual 96, 3) := by decide +kernel
theorem dX4_readLaw_6 : decode cX4_readLaw 6 = .ok (.istore_n 1, 1) := by decide +kernel
theorem dX4_readLaw_7 : decode cX4_readLaw 7 = .ok (.iload_n 1, 1) := by decide +kernel
theorem dX4_readLaw_8 : decode cX4_readLaw 8 = .ok (.iconst (-1), 1) := by decide +kernel
theorem dX4_readLaw_9 : decode cX4_readLaw 9 = .ok (.if_icmp .ne 9, 3) := by decide +kernel
theorem dX4_readLaw_12 : decode cX4_readLaw 12 = .ok (.aload_n 0, 1) := by decide +kernel
theorem dX4_readLaw_13 : decode cX4_readLaw 13 = .ok (.iconst 1, 1) := by decide +kernel
theorem dX4_readLaw_14 : decode cX4_readLaw 14 = .ok (.invokevirtual 90, 3) := by decide +kernel
theorem dX4_readLaw_17 : decode cX4_readLaw 17 = .ok (.return_, 1) := by decide +kernel
theorem dX4_readLaw_18 : decode cX4_readLaw 18 = .ok (.aload_n 0, 1) := by decide +kernel
theorem dX4_readLaw_19 : decode cX4_readLaw 19 = .ok (.getfield 15, 3) := by decide +kernel
theorem dX4_readLaw_22 : decode cX4_readLaw 22 = .ok (.invokevirtual 100, 3) := by decide +kernel
theorem dX4_readLaw_25 : decode cX4_readLaw 25 = .ok (.ifCond .eq 9, 3) := by decide +kernel
theorem dX4_readLaw_28 : decode cX4_readLaw 28 = .ok (.aload_n 0, 1) := by decide +kernel
theorem dX4_readLaw_29 : decode cX4_readLaw 29 = .ok (.iconst 5, 1) := by decide +kernel
theorem dX4_readLaw_30 : decode cX4_readLaw 30 = .ok (.invokevirtual 90, 3) := by decide +kernel
theorem dX4_readLaw_33 : decode cX4_readLaw 33 = .ok (.return_, 1) := by decide +kernel
theorem dX4_readLaw_34 : decode cX4_readLaw 34 = .ok (.aload_n 0, 1) := by decide +kernel
theorem dX4_readLaw_35 : decode cX4_readLaw 35 = .ok (.invokevirtual 31, 3) := by decide +kernel
theorem dX4_readLaw_38 : decode cX4_readLaw 38 = .ok (.aload_n 0, 1) := by decide +kernel
theorem dX4_readLaw_39 : decode cX4_readLaw 39 = .ok (.iload_n 1, 1) := by decide +kernel
theorem dX4_readLaw_40 : decode cX4_readLaw 40 = .ok (.invokevirtual 104, 3) := by decide +kernel
theorem dX4_readLaw_43 : decode cX4_readLaw 43 = .ok (.aload_n 0, 1) := by decide +kernel
theorem dX4_readLaw_44 : decode cX4_readLaw 44 = .ok (.getfield 24, 3) := by decide +kernel
theorem dX4_readLaw_47 : decode cX4_readLaw 47 = .ok (.ifCond .ne 21, 3) := by decide +kernel
theorem dX4_readLaw_50 : decode cX4_readLaw 50 = .ok (.aload_n 0, 1) := by decide +kernel
theorem dX4_readLaw_51 : decode cX4_readLaw 51 = .ok (.aload_n 0, 1) := by decide +kernel
theorem dX4_readLaw_52 : decode cX4_readLaw 52 = .ok (.ldc 107, 2) := by decide +kernel
theorem dX4_readLaw_54 : decode cX4_readLaw 54 = .ok (.invokevirtual 96, 3) := by decide +kernel
theorem dX4_readLaw_57 : decode cX4_readLaw 57 = .ok (.ifCond .ne 7, 3) := by decide +kernel
theorem dX4_readLaw_60 : decode cX4_readLaw 60 = .ok (.iconst 1, 1) := by decide +kernel
theorem dX4_readLaw_61 : decode cX4_readLaw 61 = .ok (.goto 4, 3) := by decide +kernel
theorem dX4_readLaw_64 : decode cX4_readLaw 64 = .ok (.iconst 0, 1) := by decide +kernel
theorem dX4_readLaw_65 : decode cX4_readLaw 65 = .ok (.invokevirtual 109, 3) := by decide +kernel
theorem dX4_readLaw_68 : decode cX4_readLaw 68 = .ok (.aload_n 0, 1) := by decide +kernel
theorem dX4_readLaw_69 : decode cX4_readLaw 69 = .ok (.getfield 24, 3) := by decide +kernel
theorem dX4_readLaw_72 : decode cX4_readLaw 72 = .ok (.ifCond .ne 8, 3) := by decide +kernel
theorem dX4_readLaw_75 : decode cX4_readLaw 75 = .ok (.aload_n 0, 1) := by decide +kernel
theorem dX4_readLaw_76 : decode cX4_readLaw 76 = .ok (.iconst 0, 1) := by decide +kernel
theorem dX4_readLaw_77 : decode cX4_readLaw 77 = .ok (.invokevirtual 113, 3) := by decide +kernel
theorem dX4_readLaw_80 : decode cX4_readLaw 80 = .ok (.aload_n 0, 1) := by decide +kernel
theorem dX4_readLaw_81 : decode cX4_readLaw 81 = .ok (.getfield 24, 3) := by decide +kernel
theorem dX4_readLaw_84 : decode cX4_readLaw 84 = .ok (.ifCond .ne 21, 3) := by decide +kernel
theorem dX4_readLaw_87 : decode cX4_readLaw 87 = .ok (.aload_n 0, 1) := by decide +kernel
theorem dX4_readLaw_88 : decode cX4_readLaw 88 = .ok (.aload_n 0, 1) := by decide +kernel
theorem dX4_readLaw_89 : decode cX4_readLaw 89 = .ok (.ldc 116, 2) := by decide +kernel
theorem dX4_readLaw_91 : decode cX4_readLaw 91 = .ok (.invokevirtual 118, 3) := by decide +kernel
theorem dX4_readLaw_94 : decode cX4_readLaw 94 = .ok (.ifCond .ne 7, 3) := by decide +kernel
theorem dX4_readLaw_97 : decode cX4_readLaw 97 = .ok (.iconst 1, 1) := by decide +kernel
theorem dX4_readLaw_98 : decode cX4_readLaw 98 = .ok (.goto 4, 3) := by decide +kernel
theorem dX4_readLaw_101 : decode cX4_readLaw 101 = .ok (.iconst 0, 1) := by decide +kernel
theorem dX4_readLaw_102 : decode cX4_readLaw 102 = .ok (.invokevirtual 109, 3) := by decide +kernel
theorem dX4_readLaw_105 : decode cX4_readLaw 105 = .ok (.return_, 1) := by decide +kernel
theorem dX4_readNumbers_0 : decode cX4_readNumbers 0 = .ok (.aload_n 0, 1) := by decide +kernel
theorem dX4_readNumbers_1 : decode cX4_readNumbers 1 = .ok (.getstatic 121, 3) := by decide +kernel
theorem dX4_readNumbers_4 : decode cX4_readNumbers 4 = .ok (.iload_n 1, 1) := by decide +kernel
theorem dX4_readNumbers_5 : decode cX4_readNumbers 5 = .ok (.iaload, 1) := by decide +kernel
theorem dX4_readNumbers_6 : decode cX4_readNumbers 6 = .ok (.getstatic 125, 3) := by decide +kernel
theorem dX4_readNumbers_9 : decode cX4_readNumbers 9 = .ok (.iload_n 1, 1) := by decide +kernel
theorem dX4_readNumbers_10 : decode cX4_readNumbers 10 = .ok (.iaload, 1) := by decide +kernel
theorem dX4_readNumbers_11 : decode cX4_readNumbers 11 = .ok (.invokevirtual 128, 3) := by decide +kernel
theorem dX4_readNumbers_14 : decode cX4_readNumbers 14 = .ok (.istore_n 2, 1) := by decide +kernel
theorem dX4_readNumbers_15 : decode cX4_readNumbers 15 = .ok (.iload_n 2, 1) := by decide +kernel
theorem dX4_readNumbers_16 : decode cX4_readNumbers 16 = .ok (.istore_n 3, 1) := by decide +kernel
theorem dX4_readNumbers_17 : decode cX4_readNumbers 17 = .ok (.aload_n 0, 1) := by decide +kernel
theorem dX4_readNumbers_18 : decode cX4_readNumbers 18 = .ok (.getfield 24, 3) := by decide +kernel
theorem dX4_readNumbers_21 : decode cX4_readNumbers 21 = .ok (.ifCond .ne 69, 3) := by decide +kernel
theorem dX4_readNumbers_24 : decode cX4_readNumbers 24 = .ok (.aload_n 0, 1) := by decide +kernel
theorem dX4_readNumbers_25 : decode cX4_readNumbers 25 = .ok (.ldc 132, 2) := by decide +kernel
theorem dX4_readNumbers_27 : decode cX4_readNumbers 27 = .ok (.invokevirtual 96, 3) := by decide +kernel
theorem dX4_readNumbers_30 : decode cX4_readNumbers 30 = .ok (.ifCond .ne 60, 3) := by decide +kernel
theorem dX4_readNumbers_33 : decode cX4_readNumbers 33 = .ok (.aload_n 0, 1) := by decide +kernel
theorem dX4_readNumbers_34 : decode cX4_readNumbers 34 = .ok (.invokevirtual 31, 3) := by decide +kernel
theorem dX4_readNumbers_37 : decode cX4_readNumbers 37 = .ok (.aload_n 0, 1) := by decide +kernel
theorem dX4_readNumbers_38 : decode cX4_readNumbers 38 = .ok (.getfield 34, 3) := by decide +kernel
theorem dX4_readNumbers_41 : decode cX4_readNumbers 41 = .ok (.iconst 2, 1) := by decide +kernel
theorem dX4_readNumbers_42 : decode cX4_readNumbers 42 = .ok (.if_icmp .ne 37, 3) := by decide +kernel
theorem dX4_readNumbers_45 : decode cX4_readNumbers 45 = .ok (.aload_n 0, 1) := by decide +kernel
theorem dX4_readNumbers_46 : decode cX4_readNumbers 46 = .ok (.getfield 76, 3) := by decide +kernel
theorem dX4_readNumbers_49 : decode cX4_readNumbers 49 = .ok (.iload_n 2, 1) := by decide +kernel
theorem dX4_readNumbers_50 : decode cX4_readNumbers 50 = .ok (.iconst 1, 1) := by decide +kernel
theorem dX4_readNumbers_51 : decode cX4_readNumbers 51 = .ok (.iadd, 1) := by decide +kernel
theorem dX4_readNumbers_52 : decode cX4_readNumbers 52 = .ok (.getstatic 125, 3) := by decide +kernel
theorem dX4_readNumbers_55 : decode cX4_readNumbers 55 = .ok (.iload_n 1, 1) := by decide +kernel
theorem dX4_readNumbers_56 : decode cX4_readNumbers 56 = .ok (.iaload, 1) := by decide +kernel
theorem dX4_readNumbers_57 : decode cX4_readNumbers 57 = .ok (.invokestatic 43, 3) := by decide +kernel
theorem dX4_readNumbers_60 : decode cX4_readNumbers 60 = .ok (.ifCond .eq 19, 3) := by decide +kernel
theorem dX4_readNumbers_63 : decode cX4_readNumbers 63 = .ok (.aload_n 0, 1) := by decide +kernel
theorem dX4_readNumbers_64 : decode cX4_readNumbers 64 = .ok (.getfield 15, 3) := by decide +kernel
theorem dX4_readNumbers_67 : decode cX4_readNumbers 67 = .ok (.getfield 134, 3) := by decide +kernel
theorem dX4_readNumbers_70 : decode cX4_readNumbers 70 = .ok (.iconst 4, 1) := by decide +kernel
theorem dX4_readNumbers_71 : decode cX4_readNumbers 71 = .ok (.if_icmp .lt 8, 3) := by decide +kernel
theorem dX4_readNumbers_74 : decode cX4_readNumbers 74 = .ok (.aload_n 0, 1) := by decide +kernel
theorem dX4_readNumbers_75 : decode cX4_readNumbers 75 = .ok (.iconst 5, 1) := by decide +kernel
theorem dX4_readNumbers_76 : decode cX4_readNumbers 76 = .ok (.invokevirtual 90, 3) := by decide +kernel
theorem dX4_readNumbers_79 : decode cX4_readNumbers 79 = .ok (.aload_n 0, 1) := by decide +kernel
theorem dX4_readNumbers_80 : decode cX4_readNumbers 80 = .ok (.iload_n 2, 1) := by decide +kernel
theorem dX4_readNumbers_81 : decode cX4_readNumbers 81 = .ok (.getstatic 125, 3) := by decide +kernel
theorem dX4_readNumbers_84 : decode cX4_readNumbers 84 = .ok (.iload_n 1, 1) := by decide +kernel
theorem dX4_readNumbers_85 : decode cX4_readNumbers 85 = .ok (.iaload, 1) := by decide +kernel
theorem dX4_readNumbers_86 : decode cX4_readNumbers 86 = .ok (.invokevirtual 128, 3) := by decide +kernel
theorem dX4_readNumbers_89 : decode cX4_readNumbers 89 = .ok (.istore_n 3, 1) := by decide +kernel
theorem dX4_readNumbers_90 : decode cX4_readNumbers 90 = .ok (.aload_n 0, 1) := by decide +kernel
theorem dX4_readNumbers_91 : decode cX4_readNumbers 91 = .ok (.getfield 24, 3) := by decide +kernel
theorem dX4_readNumbers_94 : decode cX4_readNumbers 94 = .ok (.ifCond .ne 13, 3) := by decide +kernel
theorem dX4_readNumbers_97 : decode cX4_readNumbers 97 = .ok (.aload_n 0, 1) := by decide +kernel
theorem dX4_readNumbers_98 : decode cX4_readNumbers 98 = .ok (.getfield 15, 3) := by decide +kernel
theorem dX4_readNumbers_101 : decode cX4_readNumbers 101 = .ok (.iload_n 1, 1) := by decide +kernel
theorem dX4_readNumbers_102 : decode cX4_readNumbers 102 = .ok (.iload_n 2, 1) := by decide +kernel
theorem dX4_readNumbers_103 : decode cX4_readNumbers 103 = .ok (.iload_n 3, 1) := by decide +kernel
theorem dX4_readNumbers_104 : decode cX4_readNumbers 104 = .ok (.invokevirtual 137, 3) := by decide +kernel
theorem dX4_readNumbers_107 : decode cX4_readNumbers 107 = .ok (.return_, 1) := by decide +kernel
theorem dX4_readN_0 : decode cX4_readN 0 = .ok (.aload_n 0, 1) := by decide +kernel
theorem dX4_readN_1 : decode cX4_readN 1 = .ok (.getfield 76, 3) := by decide +kernel
theorem dX4_readN_4 : decode cX4_readN 4 = .ok (.istore_n 3, 1) := by decide +kernel
theorem dX4_readN_5 : decode cX4_readN 5 = .ok (.aload_n 0, 1) := by decide +kernel
theorem dX4_readN_6 : decode cX4_readN 6 = .ok (.getfield 34, 3) := by decide +kernel
theorem dX4_readN_9 : decode cX4_readN 9 = .ok (.iconst 2, 1) := by decide +kernel
theorem dX4_readN_10 : decode cX4_readN 10 = .ok (.if_icmp .eq 11, 3) := by decide +kernel
theorem dX4_readN_13 : decode cX4_readN 13 = .ok (.aload_n 0, 1) := by decide +kernel
theorem dX4_readN_14 : decode cX4_readN 14 = .ok (.iconst 1, 1) := by decide +kernel
theorem dX4_readN_15 : decode cX4_readN 15 = .ok (.invokevirtual 90, 3) := by decide +kernel
theorem dX4_readN_18 : decode cX4_readN 18 = .ok (.goto 24, 3) := by decide +kernel
theorem dX4_readN_21 : decode cX4_readN 21 = .ok (.iload_n 3, 1) := by decide +kernel
theorem dX4_readN_22 : decode cX4_readN 22 = .ok (.iload_n 1, 1) := by decide +kernel
theorem dX4_readN_23 : decode cX4_readN 23 = .ok (.iload_n 2, 1) := by decide +kernel
theorem dX4_readN_24 : decode cX4_readN 24 = .ok (.invokestatic 43, 3) := by decide +kernel
theorem dX4_readN_27 : decode cX4_readN 27 = .ok (.ifCond .ne 11, 3) := by decide +kernel
theorem dX4_readN_30 : decode cX4_readN 30 = .ok (.aload_n 0, 1) := by decide +kernel
theorem dX4_readN_31 : decode cX4_readN 31 = .ok (.iconst 4, 1) := by decide +kernel
theorem dX4_readN_32 : decode cX4_readN 32 = .ok (.invokevirtual 90, 3) := by decide +kernel
theorem dX4_readN_35 : decode cX4_readN 35 = .ok (.goto 7, 3) := by decide +kernel
theorem dX4_readN_38 : decode cX4_readN 38 = .ok (.aload_n 0, 1) := by decide +kernel
theorem dX4_readN_39 : decode cX4_readN 39 = .ok (.invokevirtual 31, 3) := by decide +kernel
theorem dX4_readN_42 : decode cX4_readN 42 = .ok (.iload_n 3, 1) := by decide +kernel
theorem dX4_readN_43 : decode cX4_readN 43 = .ok (.ireturn, 1) := by decide +kernel
theorem dX4_readAny_0 : decode cX4_readAny 0 = .ok (.aload_n 0, 1) := by decide +kernel
theorem dX4_readAny_1 : decode cX4_readAny 1 = .ok (.iload_n 1, 1) := by decide +kernel
theorem dX4_readAny_2 : decode cX4_readAny 2 = .ok (.invokevirtual 141, 3) := by decide +kernel
theorem dX4_readAny_5 : decode cX4_readAny 5 = .ok (.iconst 0, 1) := by decide +kernel
theorem dX4_readAny_6 : decode cX4_readAny 6 = .ok (.istore_n 2, 1) := by decide +kernel
theorem dX4_readAny_7 : decode cX4_readAny 7 = .ok (.iload_n 2, 1) := by decide +kernel
theorem dX4_readAny_8 : decode cX4_readAny 8 = .ok (.sipush 1000, 3) := by decide +kernel
theorem dX4_readAny_11 : decode cX4_readAny 11 = .ok (.if_icmp .ge 57, 3) := by decide +kernel
theorem dX4_readAny_14 : decode cX4_readAny 14 = .ok (.aload_n 0, 1) := by decide +kernel
theorem dX4_readAny_15 : decode cX4_readAny 15 = .ok (.getfield 24, 3) := by decide +kernel
theorem dX4_readAny_18 : decode cX4_readAny 18 = .ok (.ifCond .ne 50, 3) := by decide +kernel
theorem dX4_readAny_21 : decode cX4_readAny 21 = .ok (.aload_n 0, 1) := by decide +kernel
theorem dX4_readAny_22 : decode cX4_readAny 22 = .ok (.ldc 144, 2) := by decide +kernel
theorem dX4_readAny_24 : decode cX4_readAny 24 = .ok (.invokevirtual 96, 3) := by decide +kernel
theorem dX4_readAny_27 : decode cX4_readAny 27 = .ok (.istore_n 3, 1) := by decide +kernel
theorem dX4_readAny_28 : decode cX4_readAny 28 = .ok (.iload_n 3, 1) := by decide +kernel
theorem dX4_readAny_29 : decode cX4_readAny 29 = .ok (.iconst (-1), 1) := by decide +kernel
theorem dX4_readAny_30 : decode cX4_readAny 30 = .ok (.if_icmp .ne 4, 3) := by decide +kernel
theorem dX4_readAny_33 : decode cX4_readAny 33 = .ok (.return_, 1) := by decide +kernel
theorem dX4_readAny_34 : decode cX4_readAny 34 = .ok (.aload_n 0, 1) := by decide +kernel
theorem dX4_readAny_35 : decode cX4_readAny 35 = .ok (.invokevirtual 31, 3) := by decide +kernel
theorem dX4_readAny_38 : decode cX4_readAny 38 = .ok (.aload_n 0, 1) := by decide +kernel
theorem dX4_readAny_39 : decode cX4_readAny 39 = .ok (.iload_n 1, 1) := by decide +kernel
theorem dX4_readAny_40 : decode cX4_readAny 40 = .ok (.invokevirtual 141, 3) := by decide +kernel
theorem dX4_readAny_43 : decode cX4_readAny 43 = .ok (.aload_n 0, 1) := by decide +kernel
theorem dX4_readAny_44 : decode cX4_readAny 44 = .ok (.getfield 15, 3) := by decide +kernel
theorem dX4_readAny_47 : decode cX4_readAny 47 = .ok (.iload_n 3, 1) := by decide +kernel
theorem dX4_readAny_48 : decode cX4_readAny 48 = .ok (.ifCond .ne 8, 3) := by decide +kernel
theorem dX4_readAny_51 : decode cX4_readAny 51 = .ok (.bipush 11, 2) := by decide +kernel
theorem dX4_readAny_53 : decode cX4_readAny 53 = .ok (.goto 5, 3) := by decide +kernel
theorem dX4_readAny_56 : decode cX4_readAny 56 = .ok (.bipush 12, 2) := by decide +kernel
theorem dX4_readAny_58 : decode cX4_readAny 58 = .ok (.iconst 0, 1) := by decide +kernel
theorem dX4_readAny_59 : decode cX4_readAny 59 = .ok (.invokevirtual 146, 3) := by decide +kernel
theorem dX4_readAny_62 : decode cX4_readAny 62 = .ok (.iinc 2 1, 3) := by decide +kernel
theorem dX4_readAny_65 : decode cX4_readAny 65 = .ok (.goto (-58), 3) := by decide +kernel
theorem dX4_readAny_68 : decode cX4_readAny 68 = .ok (.return_, 1) := by decide +kernel
theorem dX4_readTest_0 : decode cX4_readTest 0 = .ok (.aload_n 0, 1) := by decide +kernel
theorem dX4_readTest_1 : decode cX4_readTest 1 = .ok (.iload_n 1, 1) := by decide +kernel
theorem dX4_readTest_2 : decode cX4_readTest 2 = .ok (.invokevirtual 150, 3) := by decide +kernel
theorem dX4_readTest_5 : decode cX4_readTest 5 = .ok (.aload_n 0, 1) := by decide +kernel
theorem dX4_readTest_6 : decode cX4_readTest 6 = .ok (.getfield 24, 3) := by decide +kernel
theorem dX4_readTest_9 : decode cX4_readTest 9 = .ok (.ifCond .ne 12, 3) := by decide +kernel
theorem dX4_readTest_12 : decode cX4_readTest 12 = .ok (.aload_n 0, 1) := by decide +kernel
theorem dX4_readTest_13 : decode cX4_readTest 13 = .ok (.ldc 153, 2) := by decide +kernel
theorem dX4_readTest_15 : decode cX4_readTest 15 = .ok (.invokevirtual 118, 3) := by decide +kernel
theorem dX4_readTest_18 : decode cX4_readTest 18 = .ok (.goto 4, 3) := by decide +kernel
theorem dX4_readTest_21 : decode cX4_readTest 21 = .ok (.iconst (-1), 1) := by decide +kernel
theorem dX4_readTest_22 : decode cX4_readTest 22 = .ok (.istore_n 2, 1) := by decide +kernel
theorem dX4_readTest_23 : decode cX4_readTest 23 = .ok (.iload_n 2, 1) := by decide +kernel
theorem dX4_readTest_24 : decode cX4_readTest 24 = .ok (.iconst (-1), 1) := by decide +kernel
theorem dX4_readTest_25 : decode cX4_readTest 25 = .ok (.if_icmp .eq 31, 3) := by decide +kernel
theorem dX4_readTest_28 : decode cX4_readTest 28 = .ok (.aload_n 0, 1) := by decide +kernel
theorem dX4_readTest_29 : decode cX4_readTest 29 = .ok (.invokevirtual 31, 3) := by decide +kernel
theorem dX4_readTest_32 : decode cX4_readTest 32 = .ok (.aload_n 0, 1) := by decide +kernel
theorem dX4_readTest_33 : decode cX4_readTest 33 = .ok (.iload_n 1, 1) := by decide +kernel
theorem dX4_readTest_34 : decode cX4_readTest 34 = .ok (.invokevirtual 150, 3) := by decide +kernel
theorem dX4_readTest_37 : decode cX4_readTest 37 = .ok (.aload_n 0, 1) := by decide +kernel
theorem dX4_readTest_38 : decode cX4_readTest 38 = .ok (.getfield 15, 3) := by decide +kernel
theorem dX4_readTest_41 : decode cX4_readTest 41 = .ok (.iload_n 2, 1) := by decide +kernel
theorem dX4_readTest_42 : decode cX4_readTest 42 = .ok (.ifCond .ne 8, 3) := by decide +kernel
theorem dX4_readTest_45 : decode cX4_readTest 45 = .ok (.bipush 13, 2) := by decide +kernel
theorem dX4_readTest_47 : decode cX4_readTest 47 = .ok (.goto 5, 3) := by decide +kernel
theorem dX4_readTest_50 : decode cX4_readTest 50 = .ok (.bipush 14, 2) := by decide +kernel
theorem dX4_readTest_52 : decode cX4_readTest 52 = .ok (.iconst 0, 1) := by decide +kernel
theorem dX4_readTest_53 : decode cX4_readTest 53 = .ok (.invokevirtual 146, 3) := by decide +kernel
theorem dX4_readTest_56 : decode cX4_readTest 56 = .ok (.return_, 1) := by decide +kernel
theorem dX4_readSum_0 : decode cX4_readSum 0 = .ok (.aload_n 0, 1) := by decide +kernel
theorem dX4_readSum_1 : decode cX4_readSum 1 = .ok (.iload_n 1, 1) := by decide +kernel
theorem dX4_readSum_2 : decode cX4_readSum 2 = .ok (.invokevirtual 155, 3) := by decide +kernel
theorem dX4_readSum_5 : decode cX4_readSum 5 = .ok (.iconst 0, 1) := by decide +kernel
theorem dX4_readSum_6 : decode cX4_readSum 6 = .ok (.istore_n 2, 1) := by decide +kernel
theorem dX4_readSum_7 : decode cX4_readSum 7 = .ok (.iload_n 2, 1) := by decide +kernel
theorem dX4_readSum_8 : decode cX4_readSum 8 = .ok (.sipush 1000, 3) := by decide +kernel
theorem dX4_readSum_11 : decode cX4_readSum 11 = .ok (.if_icmp .ge 57, 3) := by decide +kernel
theorem dX4_readSum_14 : decode cX4_readSum 14 = .ok (.aload_n 0, 1) := by decide +kernel
theorem dX4_readSum_15 : decode cX4_readSum 15 = .ok (.getfield 24, 3) := by decide +kernel
theorem dX4_readSum_18 : decode cX4_readSum 18 = .ok (.ifCond .ne 50, 3) := by decide +kernel
theorem dX4_readSum_21 : decode cX4_readSum 21 = .ok (.aload_n 0, 1) := by decide +kernel
theorem dX4_readSum_22 : decode cX4_readSum 22 = .ok (.ldc 158, 2) := by decide +kernel
theorem dX4_readSum_24 : decode cX4_readSum 24 = .ok (.invokevirtual 118, 3) := by decide +kernel
theorem dX4_readSum_27 : decode cX4_readSum 27 = .ok (.istore_n 3, 1) := by decide +kernel
theorem dX4_readSum_28 : decode cX4_readSum 28 = .ok (.iload_n 3, 1) := by decide +kernel
theorem dX4_readSum_29 : decode cX4_readSum 29 = .ok (.iconst (-1), 1) := by decide +kernel
theorem dX4_readSum_30 : decode cX4_readSum 30 = .ok (.if_icmp .ne 4, 3) := by decide +kernel
theorem dX4_readSum_33 : decode cX4_readSum 33 = .ok (.return_, 1) := by decide +kernel
theorem dX4_readSum_34 : decode cX4_readSum 34 = .ok (.aload_n 0, 1) := by decide +kernel
theorem dX4_readSum_35 : decode cX4_readSum 35 = .ok (.invokevirtual 31, 3) := by decide +kernel
theorem dX4_readSum_38 : decode cX4_readSum 38 = .ok (.aload_n 0, 1) := by decide +kernel
theorem dX4_readSum_39 : decode cX4_readSum 39 = .ok (.iload_n 1, 1) := by decide +kernel
theorem dX4_readSum_40 : decode cX4_readSum 40 = .ok (.invokevirtual 155, 3) := by decide +kernel
theorem dX4_readSum_43 : decode cX4_readSum 43 = .ok (.aload_n 0, 1) := by decide +kernel
theorem dX4_readSum_44 : decode cX4_readSum 44 = .ok (.getfield 15, 3) := by decide +kernel
theorem dX4_readSum_47 : decode cX4_readSum 47 = .ok (.iload_n 3, 1) := by decide +kernel
theorem dX4_readSum_48 : decode cX4_readSum 48 = .ok (.ifCond .ne 8, 3) := by decide +kernel
theorem dX4_readSum_51 : decode cX4_readSum 51 = .ok (.bipush 15, 2) := by decide +kernel
theorem dX4_readSum_53 : decode cX4_readSum 53 = .ok (.goto 5, 3) := by decide +kernel
theorem dX4_readSum_56 : decode cX4_readSum 56 = .ok (.bipush 16, 2) := by decide +kernel
theorem dX4_readSum_58 : decode cX4_readSum 58 = .ok (.iconst 0, 1) := by decide +kernel
theorem dX4_readSum_59 : decode cX4_readSum 59 = .ok (.invokevirtual 146, 3) := by decide +kernel
theorem dX4_readSum_62 : decode cX4_readSum 62 = .ok (.iinc 2 1, 3) := by decide +kernel
theorem dX4_readSum_65 : decode cX4_readSum 65 = .ok (.goto (-58), 3) := by decide +kernel
theorem dX4_readSum_68 : decode cX4_readSum 68 = .ok (.return_, 1) := by decide +kernel
theorem dX4_readTerm_0 : decode cX4_readTerm 0 = .ok (.aload_n 0, 1) := by decide +kernel
theorem dX4_readTerm_1 : decode cX4_readTerm 1 = .ok (.iload_n 1, 1) := by decide +kernel
theorem dX4_readTerm_2 : decode cX4_readTerm 2 = .ok (.invokevirtual 160, 3) := by decide +kernel
theorem dX4_readTerm_5 : decode cX4_readTerm 5 = .ok (.iconst 0, 1) := by decide +kernel
theorem dX4_readTerm_6 : decode cX4_readTerm 6 = .ok (.istore_n 2, 1) := by decide +kernel
theorem dX4_readTerm_7 : decode cX4_readTerm 7 = .ok (.iload_n 2, 1) := by decide +kernel
theorem dX4_readTerm_8 : decode cX4_readTerm 8 = .ok (.sipush 1000, 3) := by decide +kernel
theorem dX4_readTerm_11 : decode cX4_readTerm 11 = .ok (.if_icmp .ge 57, 3) := by decide +kernel
theorem dX4_readTerm_14 : decode cX4_readTerm 14 = .ok (.aload_n 0, 1) := by decide +kernel
theorem dX4_readTerm_15 : decode cX4_readTerm 15 = .ok (.getfield 24, 3) := by decide +kernel
theorem dX4_readTerm_18 : decode cX4_readTerm 18 = .ok (.ifCond .ne 50, 3) := by decide +kernel
theorem dX4_readTerm_21 : decode cX4_readTerm 21 = .ok (.aload_n 0, 1) := by decide +kernel
theorem dX4_readTerm_22 : decode cX4_readTerm 22 = .ok (.ldc 163, 2) := by decide +kernel
theorem dX4_readTerm_24 : decode cX4_readTerm 24 = .ok (.invokevirtual 118, 3) := by decide +kernel
theorem dX4_readTerm_27 : decode cX4_readTerm 27 = .ok (.istore_n 3, 1) := by decide +kernel
theorem dX4_readTerm_28 : decode cX4_readTerm 28 = .ok (.iload_n 3, 1) := by decide +kernel
theorem dX4_readTerm_29 : decode cX4_readTerm 29 = .ok (.iconst (-1), 1) := by decide +kernel
theorem dX4_readTerm_30 : decode cX4_readTerm 30 = .ok (.if_icmp .ne 4, 3) := by decide +kernel
theorem dX4_readTerm_33 : decode cX4_readTerm 33 = .ok (.return_, 1) := by decide +kernel
theorem dX4_readTerm_34 : decode cX4_readTerm 34 = .ok (.aload_n 0, 1) := by decide +kernel
theorem dX4_readTerm_35 : decode cX4_readTerm 35 = .ok (.invokevirtual 31, 3) := by decide +kernel
theorem dX4_readTerm_38 : decode cX4_readTerm 38 = .ok (.aload_n 0, 1) := by decide +kernel
theorem dX4_readTerm_39 : decode cX4_readTerm 39 = .ok (.iload_n 1, 1) := by decide +kernel
theorem dX4_readTerm_40 : decode cX4_readTerm 40 = .ok (.invokevirtual 160, 3) := by decide +kernel
theorem dX4_readTerm_43 : decode cX4_readTerm 43 = .ok (.aload_n 0, 1) := by decide +kernel
theorem dX4_readTerm_44 : decode cX4_readTerm 44 = .ok (.getfield 15, 3) := by decide +kernel
theorem dX4_readTerm_47 : decode cX4_readTerm 47 = .ok (.iload_n 3, 1) := by decide +kernel
theorem dX4_readTerm_48 : decode cX4_readTerm 48 = .ok (.ifCond .ne 8, 3) := by decide +kernel
theorem dX4_readTerm_51 : decode cX4_readTerm 51 = .ok (.bipush 17, 2) := by decide +kernel
theorem dX4_readTerm_53 : decode cX4_readTerm 53 = .ok (.goto 5, 3) := by decide +kernel
theorem dX4_readTerm_56 : decode cX4_readTerm 56 = .ok (.bipush 18, 2) := by decide +kernel
theorem dX4_readTerm_58 : decode cX4_readTerm 58 = .ok (.iconst 0, 1) := by decide +kernel
theorem dX4_readTerm_59 : decode cX4_readTerm 59 = .ok (.invokevirtual 146, 3) := by decide +kernel
theorem dX4_readTerm_62 : decode cX4_readTerm 62 = .ok (.iinc 2 1, 3) := by decide +kernel
theorem dX4_readTerm_65 : decode cX4_readTerm 65 = .ok (.goto (-58), 3) := by decide +kernel
theorem dX4_readTerm_68 : decode cX4_readTerm 68 = .ok (.return_, 1) := by decide +kernel
theorem dX4_readPart_0 : decode cX4_readPart 0 = .ok (.aload_n 0, 1) := by decide +kernel
theorem dX4_readPart_1 : decode cX4_readPart 1 = .ok (.ldc 165, 2) := by decide +kernel
theorem dX4_readPart_3 : decode cX4_readPart 3 = .ok (.invokevirtual 96, 3) := by decide +kernel
theorem dX4_readPart_6 : decode cX4_readPart 6 = .ok (.istore_n 2, 1) := by decide +kernel
theorem dX4_readPart_7 : decode cX4_readPart 7 = .ok (.aload_n 0, 1) := by decide +kernel
theorem dX4_readPart_8 : decode cX4_readPart 8 = .ok (.ldc 167, 2) := by decide +kernel
theorem dX4_readPart_10 : decode cX4_readPart 10 = .ok (.invokevirtual 96, 3) := by decide +kernel
theorem dX4_readPart_13 : decode cX4_readPart 13 = .ok (.ifCond .ne 7, 3) := by decide +kernel
theorem dX4_readPart_16 : decode cX4_readPart 16 = .ok (.iconst 1, 1) := by decide +kernel
theorem dX4_readPart_17 : decode cX4_readPart 17 = .ok (.goto 4, 3) := by decide +kernel
theorem dX4_readPart_20 : decode cX4_readPart 20 = .ok (.iconst 0, 1) := by decide +kernel
theorem dX4_readPart_21 : decode cX4_readPart 21 = .ok (.istore_n 3, 1) := by decide +kernel
theorem dX4_readPart_22 : decode cX4_readPart 22 = .ok (.aload_n 0, 1) := by decide +kernel
theorem dX4_readPart_23 : decode cX4_readPart 23 = .ok (.ldc 169, 2) := by decide +kernel
theorem dX4_readPart_25 : decode cX4_readPart 25 = .ok (.invokevirtual 118, 3) := by decide +kernel
theorem dX4_readPart_28 : decode cX4_readPart 28 = .ok (.ifCond .ne 7, 3) := by decide +kernel
theorem dX4_readPart_31 : decode cX4_readPart 31 = .ok (.iconst 1, 1) := by decide +kernel
theorem dX4_readPart_32 : decode cX4_readPart 32 = .ok (.goto 4, 3) := by decide +kernel
theorem dX4_readPart_35 : decode cX4_readPart 35 = .ok (.iconst 0, 1) := by decide +kernel
theorem dX4_readPart_36 : decode cX4_readPart 36 = .ok (.istore 4, 2) := by decide +kernel
theorem dX4_readPart_38 : decode cX4_readPart 38 = .ok (.aload_n 0, 1) := by decide +kernel
theorem dX4_readPart_39 : decode cX4_readPart 39 = .ok (.getfield 34, 3) := by decide +kernel
theorem dX4_readPart_42 : decode cX4_readPart 42 = .ok (.iconst 2, 1) := by decide +kernel
theorem dX4_readPart_43 : decode cX4_readPart 43 = .ok (.if_icmp .eq 25, 3) := by decide +kernel
theorem dX4_readPart_46 : decode cX4_readPart 46 = .ok (.iload_n 2, 1) := by decide +kernel
theorem dX4_readPart_47 : decode cX4_readPart 47 = .ok (.iconst (-1), 1) := by decide +kernel
theorem dX4_readPart_48 : decode cX4_readPart 48 = .ok (.if_icmp .ne 20, 3) := by decide +kernel
theorem dX4_readPart_51 : decode cX4_readPart 51 = .ok (.iload_n 3, 1) := by decide +kernel
theorem dX4_readPart_52 : decode cX4_readPart 52 = .ok (.ifCond .ne 16, 3) := by decide +kernel
theorem dX4_readPart_55 : decode cX4_readPart 55 = .ok (.iload 4, 2) := by decide +kernel
theorem dX4_readPart_57 : decode cX4_readPart 57 = .ok (.ifCond .ne 11, 3) := by decide +kernel
theorem dX4_readPart_60 : decode cX4_readPart 60 = .ok (.aload_n 0, 1) := by decide +kernel
theorem dX4_readPart_61 : decode cX4_readPart 61 = .ok (.iconst 1, 1) := by decide +kernel
theorem dX4_readPart_62 : decode cX4_readPart 62 = .ok (.invokevirtual 90, 3) := by decide +kernel
theorem dX4_readPart_65 : decode cX4_readPart 65 = .ok (.goto 126, 3) := by decide +kernel
theorem dX4_readPart_68 : decode cX4_readPart 68 = .ok (.iload_n 1, 1) := by decide +kernel
theorem dX4_readPart_69 : decode cX4_readPart 69 = .ok (.iconst 4, 1) := by decide +kernel
theorem dX4_readPart_70 : decode cX4_readPart 70 = .ok (.if_icmp .lt 11, 3) := by decide +kernel
theorem dX4_readPart_73 : decode cX4_readPart 73 = .ok (.aload_n 0, 1) := by decide +kernel
theorem dX4_readPart_74 : decode cX4_readPart 74 = .ok (.iconst 5, 1) := by decide +kernel
theorem dX4_readPart_75 : decode cX4_readPart 75 = .ok (.invokevirtual 90, 3) := by decide +kernel
theorem dX4_readPart_78 : decode cX4_readPart 78 = .ok (.goto 113, 3) := by decide +kernel
theorem dX4_readPart_81 : decode cX4_readPart 81 = .ok (.iload_n 3, 1) := by decide +kernel
theorem dX4_readPart_82 : decode cX4_readPart 82 = .ok (.ifCond .eq 27, 3) := by decide +kernel
theorem dX4_readPart_85 : decode cX4_readPart 85 = .ok (.aload_n 0, 1) := by decide +kernel
theorem dX4_readPart_86 : decode cX4_readPart 86 = .ok (.invokevirtual 31, 3) := by decide +kernel
theorem dX4_readPart_89 : decode cX4_readPart 89 = .ok (.aload_n 0, 1) := by decide +kernel
theorem dX4_readPart_90 : decode cX4_readPart 90 = .ok (.iload_n 1, 1) := by decide +kernel
theorem dX4_readPart_91 : decode cX4_readPart 91 = .ok (.iconst 1, 1) := by decide +kernel
theorem dX4_readPart_92 : decode cX4_readPart 92 = .ok (.iadd, 1) := by decide +kernel
theorem dX4_readPart_93 : decode cX4_readPart 93 = .ok (.invokevirtual 160, 3) := by decide +kernel
theorem dX4_readPart_96 : decode cX4_readPart 96 = .ok (.aload_n 0, 1) := by decide +kernel
theorem dX4_readPart_97 : decode cX4_readPart 97 = .ok (.getfield 15, 3) := by decide +kernel
theorem dX4_readPart_100 : decode cX4_readPart 100 = .ok (.bipush 10, 2) := by decide +kernel
theorem dX4_readPart_102 : decode cX4_readPart 102 = .ok (.iconst 0, 1) := by decide +kernel
theorem dX4_readPart_103 : decode cX4_readPart 103 = .ok (.invokevirtual 146, 3) := by decide +kernel
theorem dX4_readPart_106 : decode cX4_readPart 106 = .ok (.goto 85, 3) := by decide +kernel
theorem dX4_readPart_109 : decode cX4_readPart 109 = .ok (.iload 4, 2) := by decide +kernel
theorem dX4_readPart_111 : decode cX4_readPart 111 = .ok (.ifCond .eq 42, 3) := by decide +kernel
theorem dX4_readPart_114 : decode cX4_readPart 114 = .ok (.aload_n 0, 1) := by decide +kernel
theorem dX4_readPart_115 : decode cX4_readPart 115 = .ok (.invokevirtual 31, 3) := by decide +kernel
theorem dX4_readPart_118 : decode cX4_readPart 118 = .ok (.aload_n 0, 1) := by decide +kernel
theorem dX4_readPart_119 : decode cX4_readPart 119 = .ok (.iload_n 1, 1) := by decide +kernel
theorem dX4_readPart_120 : decode cX4_readPart 120 = .ok (.iconst 1, 1) := by decide +kernel
theorem dX4_readPart_121 : decode cX4_readPart 121 = .ok (.iadd, 1) := by decide +kernel
theorem dX4_readPart_122 : decode cX4_readPart 122 = .ok (.invokevirtual 113, 3) := by decide +kernel
theorem dX4_readPart_125 : decode cX4_readPart 125 = .ok (.aload_n 0, 1) := by decide +kernel
theorem dX4_readPart_126 : decode cX4_readPart 126 = .ok (.getfield 24, 3) := by decide +kernel
theorem dX4_readPart_129 : decode cX4_readPart 129 = .ok (.ifCond .ne 62, 3) := by decide +kernel
theorem dX4_readPart_132 : decode cX4_readPart 132 = .ok (.aload_n 0, 1) := by decide +kernel
theorem dX4_readPart_133 : decode cX4_readPart 133 = .ok (.aload_n 0, 1) := by decide +kernel
theorem dX4_readPart_134 : decode cX4_readPart 134 = .ok (.ldc 171, 2) := by decide +kernel
theorem dX4_readPart_136 : decode cX4_readPart 136 = .ok (.invokevirtual 118, 3) := by decide +kernel
theorem dX4_readPart_139 : decode cX4_readPart 139 = .ok (.ifCond .ne 7, 3) := by decide +kernel
theorem dX4_readPart_142 : decode cX4_readPart 142 = .ok (.iconst 1, 1) := by decide +kernel
theorem dX4_readPart_143 : decode cX4_readPart 143 = .ok (.goto 4, 3) := by decide +kernel
theorem dX4_readPart_146 : decode cX4_readPart 146 = .ok (.iconst 0, 1) := by decide +kernel
theorem dX4_readPart_147 : decode cX4_readPart 147 = .ok (.invokevirtual 109, 3) := by decide +kernel
theorem dX4_readPart_150 : decode cX4_readPart 150 = .ok (.goto 41, 3) := by decide +kernel
theorem dX4_readPart_153 : decode cX4_readPart 153 = .ok (.iload_n 2, 1) := by decide +kernel
theorem dX4_readPart_154 : decode cX4_readPart 154 = .ok (.iconst (-1), 1) := by decide +kernel
theorem dX4_readPart_155 : decode cX4_readPart 155 = .ok (.if_icmp .eq 19, 3) := by decide +kernel
theorem dX4_readPart_158 : decode cX4_readPart 158 = .ok (.aload_n 0, 1) := by decide +kernel
theorem dX4_readPart_159 : decode cX4_readPart 159 = .ok (.getfield 15, 3) := by decide +kernel
theorem dX4_readPart_162 : decode cX4_readPart 162 = .ok (.iload_n 2, 1) := by decide +kernel
theorem dX4_readPart_163 : decode cX4_readPart 163 = .ok (.iconst 0, 1) := by decide +kernel
theorem dX4_readPart_164 : decode cX4_readPart 164 = .ok (.invokevirtual 146, 3) := by decide +kernel
theorem dX4_readPart_167 : decode cX4_readPart 167 = .ok (.aload_n 0, 1) := by decide +kernel
theorem dX4_readPart_168 : decode cX4_readPart 168 = .ok (.invokevirtual 31, 3) := by decide +kernel
theorem dX4_readPart_171 : decode cX4_readPart 171 = .ok (.goto 20, 3) := by decide +kernel
theorem dX4_readPart_174 : decode cX4_readPart 174 = .ok (.aload_n 0, 1) := by decide +kernel
theorem dX4_readPart_175 : decode cX4_readPart 175 = .ok (.getfield 15, 3) := by decide +kernel
theorem dX4_readPart_178 : decode cX4_readPart 178 = .ok (.bipush 9, 2) := by decide +kernel
theorem dX4_readPart_180 : decode cX4_readPart 180 = .ok (.aload_n 0, 1) := by decide +kernel
theorem dX4_readPart_181 : decode cX4_readPart 181 = .ok (.getfield 76, 3) := by decide +kernel
theorem dX4_readPart_184 : decode cX4_readPart 184 = .ok (.invokevirtual 146, 3) := by decide +kernel
theorem dX4_readPart_187 : decode cX4_readPart 187 = .ok (.aload_n 0, 1) := by decide +kernel
theorem dX4_readPart_188 : decode cX4_readPart 188 = .ok (.invokevirtual 31, 3) := by decide +kernel
theorem dX4_readPart_191 : decode cX4_readPart 191 = .ok (.return_, 1) := by decide +kernel
theorem dX5_init_0 : decode cX5_init 0 = .ok (.aload_n 0, 1) := by decide +kernel
theorem dX5_init_1 : decode cX5_init 1 = .ok (.invokespecial 3, 3) := by decide +kernel
theorem dX5_init_4 : decode cX5_init 4 = .ok (.aload_n 0, 1) := by decide +kernel
theorem dX5_init_5 : decode cX5_init 5 = .ok (.sipush 1000, 3) := by decide +kernel
theorem dX5_init_8 : decode cX5_init 8 = .ok (.newarray .char, 2) := by decide +kernel
theorem dX5_init_10 : decode cX5_init 10 = .ok (.putfield 9, 3) := by decide +kernel
theorem dX5_init_13 : decode cX5_init 13 = .ok (.return_, 1) := by decide +kernel
theorem dX5_signAt_0 : decode cX5_signAt 0 = .ok (.iload_n 1, 1) := by decide +kernel
theorem dX5_signAt_1 : decode cX5_signAt 1 = .ok (.iconst 0, 1) := by decide +kernel
theorem dX5_signAt_2 : decode cX5_signAt 2 = .ok (.aload_n 0, 1) := by decide +kernel
theorem dX5_signAt_3 : decode cX5_signAt 3 = .ok (.getfield 15, 3) := by decide +kernel
theorem dX5_signAt_6 : decode cX5_signAt 6 = .ok (.iconst 1, 1) := by decide +kernel
theorem dX5_signAt_7 : decode cX5_signAt 7 = .ok (.isub, 1) := by decide +kernel
theorem dX5_signAt_8 : decode cX5_signAt 8 = .ok (.invokestatic 19, 3) := by decide +kernel
theorem dX5_signAt_11 : decode cX5_signAt 11 = .ok (.ifCond .eq 12, 3) := by decide +kernel
theorem dX5_signAt_14 : decode cX5_signAt 14 = .ok (.aload_n 0, 1) := by decide +kernel
theorem dX5_signAt_15 : decode cX5_signAt 15 = .ok (.getfield 9, 3) := by decide +kernel
theorem dX5_signAt_18 : decode cX5_signAt 18 = .ok (.iload_n 1, 1) := by decide +kernel
theorem dX5_signAt_19 : decode cX5_signAt 19 = .ok (.caload, 1) := by decide +kernel
theorem dX5_signAt_20 : decode cX5_signAt 20 = .ok (.goto 4, 3) := by decide +kernel
theorem dX5_signAt_23 : decode cX5_signAt 23 = .ok (.iconst 0, 1) := by decide +kernel
theorem dX5_signAt_24 : decode cX5_signAt 24 = .ok (.ireturn, 1) := by decide +kernel
theorem dX5_addBytes_0 : decode cX5_addBytes 0 = .ok (.bipush 56, 2) := by decide +kernel
theorem dX5_addBytes_2 : decode cX5_addBytes 2 = .ok (.istore_n 3, 1) := by decide +kernel
theorem dX5_addBytes_3 : decode cX5_addBytes 3 = .ok (.iload_n 3, 1) := by decide +kernel
theorem dX5_addBytes_4 : decode cX5_addBytes 4 = .ok (.ifCond .lt 70, 3) := by decide +kernel
theorem dX5_addBytes_7 : decode cX5_addBytes 7 = .ok (.lload_n 1, 1) := by decide +kernel
theorem dX5_addBytes_8 : decode cX5_addBytes 8 = .ok (.iload_n 3, 1) := by decide +kernel
theorem dX5_addBytes_9 : decode cX5_addBytes 9 = .ok (.lshr, 1) := by decide +kernel
theorem dX5_addBytes_10 : decode cX5_addBytes 10 = .ok (.ldc2_w 23, 3) := by decide +kernel
theorem dX5_addBytes_13 : decode cX5_addBytes 13 = .ok (.land, 1) := by decide +kernel
theorem dX5_addBytes_14 : decode cX5_addBytes 14 = .ok (.l2i, 1) := by decide +kernel
theorem dX5_addBytes_15 : decode cX5_addBytes 15 = .ok (.istore 4, 2) := by decide +kernel
theorem dX5_addBytes_17 : decode cX5_addBytes 17 = .ok (.iload 4, 2) := by decide +kernel
theorem dX5_addBytes_19 : decode cX5_addBytes 19 = .ok (.bipush 10, 2) := by decide +kernel
theorem dX5_addBytes_21 : decode cX5_addBytes 21 = .ok (.if_icmp .eq 15, 3) := by decide +kernel
theorem dX5_addBytes_24 : decode cX5_addBytes 24 = .ok (.iload 4, 2) := by decide +kernel
theorem dX5_addBytes_26 : decode cX5_addBytes 26 = .ok (.bipush 32, 2) := by decide +kernel
theorem dX5_addBytes_28 : decode cX5_addBytes 28 = .ok (.bipush 126, 2) := by decide +kernel
theorem dX5_addBytes_30 : decode cX5_addBytes 30 = .ok (.invokestatic 19, 3) := by decide +kernel
theorem dX5_addBytes_33 : decode cX5_addBytes 33 = .ok (.ifCond .eq 35, 3) := by decide +kernel
theorem dX5_addBytes_36 : decode cX5_addBytes 36 = .ok (.aload_n 0, 1) := by decide +kernel
theorem dX5_addBytes_37 : decode cX5_addBytes 37 = .ok (.getfield 15, 3) := by decide +kernel
theorem dX5_addBytes_40 : decode cX5_addBytes 40 = .ok (.sipush 1000, 3) := by decide +kernel
theorem dX5_addBytes_43 : decode cX5_addBytes 43 = .ok (.if_icmp .ge 25, 3) := by decide +kernel
theorem dX5_addBytes_46 : decode cX5_addBytes 46 = .ok (.aload_n 0, 1) := by decide +kernel
theorem dX5_addBytes_47 : decode cX5_addBytes 47 = .ok (.getfield 9, 3) := by decide +kernel
theorem dX5_addBytes_50 : decode cX5_addBytes 50 = .ok (.aload_n 0, 1) := by decide +kernel
theorem dX5_addBytes_51 : decode cX5_addBytes 51 = .ok (.getfield 15, 3) := by decide +kernel
theorem dX5_addBytes_54 : decode cX5_addBytes 54 = .ok (.iload 4, 2) := by decide +kernel
theorem dX5_addBytes_56 : decode cX5_addBytes 56 = .ok (.i2c, 1) := by decide +kernel
theorem dX5_addBytes_57 : decode cX5_addBytes 57 = .ok (.castore, 1) := by decide +kernel
theorem dX5_addBytes_58 : decode cX5_addBytes 58 = .ok (.aload_n 0, 1) := by decide +kernel
theorem dX5_addBytes_59 : decode cX5_addBytes 59 = .ok (.dup, 1) := by decide +kernel
theorem dX5_addBytes_60 : decode cX5_addBytes 60 = .ok (.getfield 15, 3) := by decide +kernel
theorem dX5_addBytes_63 : decode cX5_addBytes 63 = .ok (.iconst 1, 1) := by decide +kernel
theorem dX5_addBytes_64 : decode cX5_addBytes 64 = .ok (.iadd, 1) := by decide +kernel
theorem dX5_addBytes_65 : decode cX5_addBytes 65 = .ok (.putfield 15, 3) := by decide +kernel
theorem dX5_addBytes_68 : decode cX5_addBytes 68 = .ok (.iinc 3 (-8), 3) := by decide +kernel
theorem dX5_addBytes_71 : decode cX5_addBytes 71 = .ok (.goto (-68), 3) := by decide +kernel
theorem dX5_addBytes_74 : decode cX5_addBytes 74 = .ok (.return_, 1) := by decide +kernel
theorem dX6_init_0 : decode cX6_init 0 = .ok (.aload_n 0, 1) := by decide +kernel
theorem dX6_init_1 : decode cX6_init 1 = .ok (.invokespecial 1, 3) := by decide +kernel
theorem dX6_init_4 : decode cX6_init 4 = .ok (.aload_n 0, 1) := by decide +kernel
theorem dX6_init_5 : decode cX6_init 5 = .ok (.new 7, 3) := by decide +kernel
theorem dX6_init_8 : decode cX6_init 8 = .ok (.dup, 1) := by decide +kernel
theorem dX6_init_9 : decode cX6_init 9 = .ok (.invokespecial 9, 3) := by decide +kernel
theorem dX6_init_12 : decode cX6_init 12 = .ok (.putfield 10, 3) := by decide +kernel
theorem dX6_init_15 : decode cX6_init 15 = .ok (.aload_n 0, 1) := by decide +kernel
theorem dX6_init_16 : decode cX6_init 16 = .ok (.bipush 6, 2) := by decide +kernel
theorem dX6_init_18 : decode cX6_init 18 = .ok (.anewarray 7, 3) := by decide +kernel
theorem dX6_init_21 : decode cX6_init 21 = .ok (.putfield 16, 3) := by decide +kernel
theorem dX6_init_24 : decode cX6_init 24 = .ok (.aload_n 0, 1) := by decide +kernel
theorem dX6_init_25 : decode cX6_init 25 = .ok (.new 20, 3) := by decide +kernel
theorem dX6_init_28 : decode cX6_init 28 = .ok (.dup, 1) := by decide +kernel
theorem dX6_init_29 : decode cX6_init 29 = .ok (.invokespecial 22, 3) := by decide +kernel
theorem dX6_init_32 : decode cX6_init 32 = .ok (.putfield 23, 3) := by decide +kernel
theorem dX6_init_35 : decode cX6_init 35 = .ok (.aload_n 0, 1) := by decide +kernel
theorem dX6_init_36 : decode cX6_init 36 = .ok (.new 27, 3) := by decide +kernel
theorem dX6_init_39 : decode cX6_init 39 = .ok (.dup, 1) := by decide +kernel
theorem dX6_init_40 : decode cX6_init 40 = .ok (.invokespecial 29, 3) := by decide +kernel
theorem dX6_init_43 : decode cX6_init 43 = .ok (.putfield 30, 3) := by decide +kernel
theorem dX6_init_46 : decode cX6_init 46 = .ok (.aload_n 0, 1) := by decide +kernel
theorem dX6_init_47 : decode cX6_init 47 = .ok (.new 34, 3) := by decide +kernel
theorem dX6_init_50 : decode cX6_init 50 = .ok (.dup, 1) := by decide +kernel
theorem dX6_init_51 : decode cX6_init 51 = .ok (.invokespecial 36, 3) := by decide +kernel
theorem dX6_init_54 : decode cX6_init 54 = .ok (.putfield 37, 3) := by decide +kernel
theorem dX6_init_57 : decode cX6_init 57 = .ok (.aload_n 0, 1) := by decide +kernel
theorem dX6_init_58 : decode cX6_init 58 = .ok (.aload_n 0, 1) := by decide +kernel
theorem dX6_init_59 : decode cX6_init 59 = .ok (.getfield 37, 3) := by decide +kernel
theorem dX6_init_62 : decode cX6_init 62 = .ok (.getfield 41, 3) := by decide +kernel
theorem dX6_init_65 : decode cX6_init 65 = .ok (.putfield 42, 3) := by decide +kernel
theorem dX6_init_68 : decode cX6_init 68 = .ok (.aload_n 0, 1) := by decide +kernel
theorem dX6_init_69 : decode cX6_init 69 = .ok (.aload_n 0, 1) := by decide +kernel
theorem dX6_init_70 : decode cX6_init 70 = .ok (.getfield 37, 3) := by decide +kernel
theorem dX6_init_73 : decode cX6_init 73 = .ok (.getfield 45, 3) := by decide +kernel
theorem dX6_init_76 : decode cX6_init 76 = .ok (.putfield 49, 3) := by decide +kernel
theorem dX6_init_79 : decode cX6_init 79 = .ok (.aload_n 0, 1) := by decide +kernel
theorem dX6_init_80 : decode cX6_init 80 = .ok (.new 52, 3) := by decide +kernel
theorem dX6_init_83 : decode cX6_init 83 = .ok (.dup, 1) := by decide +kernel
theorem dX6_init_84 : decode cX6_init 84 = .ok (.invokespecial 54, 3) := by decide +kernel
theorem dX6_init_87 : decode cX6_init 87 = .ok (.putfield 55, 3) := by decide +kernel
theorem dX6_init_90 : decode cX6_init 90 = .ok (.aload_n 0, 1) := by decide +kernel
theorem dX6_init_91 : decode cX6_init 91 = .ok (.bipush 10, 2) := by decide +kernel
theorem dX6_init_93 : decode cX6_init 93 = .ok (.newarray .int, 2) := by decide +kernel
theorem dX6_init_95 : decode cX6_init 95 = .ok (.putfield 58, 3) := by decide +kernel
theorem dX6_init_98 : decode cX6_init 98 = .ok (.aload_n 0, 1) := by decide +kernel
theorem dX6_init_99 : decode cX6_init 99 = .ok (.bipush 10, 2) := by decide +kernel
theorem dX6_init_101 : decode cX6_init 101 = .ok (.newarray .int, 2) := by decide +kernel
theorem dX6_init_103 : decode cX6_init 103 = .ok (.putfield 62, 3) := by decide +kernel
theorem dX6_init_106 : decode cX6_init 106 = .ok (.return_, 1) := by decide +kernel
theorem dX6_rings_0 : decode cX6_rings 0 = .ok (.aload_n 0, 1) := by decide +kernel
theorem dX6_rings_1 : decode cX6_rings 1 = .ok (.getfield 10, 3) := by decide +kernel
theorem dX6_rings_4 : decode cX6_rings 4 = .ok (.getfield 65, 3) := by decide +kernel
theorem dX6_rings_7 : decode cX6_rings 7 = .ok (.ifCond .ne 13, 3) := by decide +kernel
theorem dX6_rings_10 : decode cX6_rings 10 = .ok (.iload_n 1, 1) := by decide +kernel
theorem dX6_rings_11 : decode cX6_rings 11 = .ok (.iconst 2, 1) := by decide +kernel
theorem dX6_rings_12 : decode cX6_rings 12 = .ok (.bipush 12, 2) := by decide +kernel
theorem dX6_rings_14 : decode cX6_rings 14 = .ok (.invokestatic 69, 3) := by decide +kernel
theorem dX6_rings_17 : decode cX6_rings 17 = .ok (.ifCond .ne 5, 3) := by decide +kernel
theorem dX6_rings_20 : decode cX6_rings 20 = .ok (.iconst 0, 1) := by decide +kernel
theorem dX6_rings_21 : decode cX6_rings 21 = .ok (.ireturn, 1) := by decide +kernel
theorem dX6_rings_22 : decode cX6_rings 22 = .ok (.aload_n 0, 1) := by decide +kernel
theorem dX6_rings_23 : decode cX6_rings 23 = .ok (.getfield 10, 3) := by decide +kernel
theorem dX6_rings_26 : decode cX6_rings 26 = .ok (.iload_n 1, 1) := by decide +kernel
theorem dX6_rings_27 : decode cX6_rings 27 = .ok (.invokevirtual 73, 3) := by decide +kernel
theorem dX6_rings_30 : decode cX6_rings 30 = .ok (.iconst 1, 1) := by decide +kernel
theorem dX6_rings_31 : decode cX6_rings 31 = .ok (.ireturn, 1) := by decide +kernel
theorem dX6_ring_0 : decode cX6_ring 0 = .ok (.aload_n 0, 1) := by decide +kernel
theorem dX6_ring_1 : decode cX6_ring 1 = .ok (.getfield 10, 3) := by decide +kernel
theorem dX6_ring_4 : decode cX6_ring 4 = .ok (.getfield 65, 3) := by decide +kernel
theorem dX6_ring_7 : decode cX6_ring 7 = .ok (.ifCond .ne 47, 3) := by decide +kernel
theorem dX6_ring_10 : decode cX6_ring 10 = .ok (.aload_n 0, 1) := by decide +kernel
theorem dX6_ring_11 : decode cX6_ring 11 = .ok (.getfield 10, 3) := by decide +kernel
theorem dX6_ring_14 : decode cX6_ring 14 = .ok (.iload_n 1, 1) := by decide +kernel
theorem dX6_ring_15 : decode cX6_ring 15 = .ok (.invokevirtual 77, 3) := by decide +kernel
theorem dX6_ring_18 : decode cX6_ring 18 = .ok (.ifCond .eq 36, 3) := by decide +kernel
theorem dX6_ring_21 : decode cX6_ring 21 = .ok (.iload_n 2, 1) := by decide +kernel
theorem dX6_ring_22 : decode cX6_ring 22 = .ok (.iconst 0, 1) := by decide +kernel
theorem dX6_ring_23 : decode cX6_ring 23 = .ok (.ldc 81, 2) := by decide +kernel
theorem dX6_ring_25 : decode cX6_ring 25 = .ok (.invokestatic 69, 3) := by decide +kernel
theorem dX6_ring_28 : decode cX6_ring 28 = .ok (.ifCond .eq 26, 3) := by decide +kernel
theorem dX6_ring_31 : decode cX6_ring 31 = .ok (.iload_n 3, 1) := by decide +kernel
theorem dX6_ring_32 : decode cX6_ring 32 = .ok (.iconst 0, 1) := by decide +kernel
theorem dX6_ring_33 : decode cX6_ring 33 = .ok (.sipush 999, 3) := by decide +kernel
theorem dX6_ring_36 : decode cX6_ring 36 = .ok (.invokestatic 69, 3) := by decide +kernel
theorem dX6_ring_39 : decode cX6_ring 39 = .ok (.ifCond .eq 15, 3) := by decide +kernel
theorem dX6_ring_42 : decode cX6_ring 42 = .ok (.iload 4, 2) := by decide +kernel
theorem dX6_ring_44 : decode cX6_ring 44 = .ok (.iconst 1, 1) := by decide +kernel
theorem dX6_ring_45 : decode cX6_ring 45 = .ok (.sipush 9999, 3) := by decide +kernel
theorem dX6_ring_48 : decode cX6_ring 48 = .ok (.invokestatic 69, 3) := by decide +kernel
theorem dX6_ring_51 : decode cX6_ring 51 = .ok (.ifCond .ne 5, 3) := by decide +kernel
theorem dX6_ring_54 : decode cX6_ring 54 = .ok (.iconst 0, 1) := by decide +kernel
theorem dX6_ring_55 : decode cX6_ring 55 = .ok (.ireturn, 1) := by decide +kernel
theorem dX6_ring_56 : decode cX6_ring 56 = .ok (.aload_n 0, 1) := by decide +kernel
theorem dX6_ring_57 : decode cX6_ring 57 = .ok (.getfield 10, 3) := by decide +kernel
theorem dX6_ring_60 : decode cX6_ring 60 = .ok (.getfield 82, 3) := by decide +kernel
theorem dX6_ring_63 : decode cX6_ring 63 = .ok (.iload_n 1, 1) := by decide +kernel
theorem dX6_ring_64 : decode cX6_ring 64 = .ok (.iload_n 2, 1) := by decide +kernel
theorem dX6_ring_65 : decode cX6_ring 65 = .ok (.iastore, 1) := by decide +kernel
theorem dX6_ring_66 : decode cX6_ring 66 = .ok (.aload_n 0, 1) := by decide +kernel
theorem dX6_ring_67 : decode cX6_ring 67 = .ok (.getfield 10, 3) := by decide +kernel
theorem dX6_ring_70 : decode cX6_ring 70 = .ok (.getfield 85, 3) := by decide +kernel
theorem dX6_ring_73 : decode cX6_ring 73 = .ok (.iload_n 1, 1) := by decide +kernel
theorem dX6_ring_74 : decode cX6_ring 74 = .ok (.iload_n 3, 1) := by decide +kernel
theorem dX6_ring_75 : decode cX6_ring 75 = .ok (.iastore, 1) := by decide +kernel
theorem dX6_ring_76 : decode cX6_ring 76 = .ok (.aload_n 0, 1) := by decide +kernel
theorem dX6_ring_77 : decode cX6_ring 77 = .ok (.getfield 10, 3) := by decide +kernel
theorem dX6_ring_80 : decode cX6_ring 80 = .ok (.getfield 88, 3) := by decide +kernel
theorem dX6_ring_83 : decode cX6_ring 83 = .ok (.iload_n 1, 1) := by decide +kernel
theorem dX6_ring_84 : decode cX6_ring 84 = .ok (.iload 4, 2) := by decide +kernel
theorem dX6_ring_86 : decode cX6_ring 86 = .ok (.iastore, 1) := by decide +kernel
theorem dX6_ring_87 : decode cX6_ring 87 = .ok (.iconst 1, 1) := by decide +kernel
theorem dX6_ring_88 : decode cX6_ring 88 = .ok (.ireturn, 1) := by decide +kernel
theorem dX6_dust_0 : decode cX6_dust 0 = .ok (.aload_n 0, 1) := by decide +kernel
theorem dX6_dust_1 : decode cX6_dust 1 = .ok (.getfield 10, 3) := by decide +kernel
theorem dX6_dust_4 : decode cX6_dust 4 = .ok (.getfield 65, 3) := by decide +kernel
theorem dX6_dust_7 : decode cX6_dust 7 = .ok (.ifCond .ne 33, 3) := by decide +kernel
theorem dX6_dust_10 : decode cX6_dust 10 = .ok (.aload_n 0, 1) := by decide +kernel
theorem dX6_dust_11 : decode cX6_dust 11 = .ok (.getfield 10, 3) := by decide +kernel
theorem dX6_dust_14 : decode cX6_dust 14 = .ok (.iload_n 1, 1) := by decide +kernel
theorem dX6_dust_15 : decode cX6_dust 15 = .ok (.invokevirtual 77, 3) := by decide +kernel
theorem dX6_dust_18 : decode cX6_dust 18 = .ok (.ifCond .eq 22, 3) := by decide +kernel
theorem dX6_dust_21 : decode cX6_dust 21 = .ok (.iload_n 2, 1) := by decide +kernel
theorem dX6_dust_22 : decode cX6_dust 22 = .ok (.iconst 0, 1) := by decide +kernel
theorem dX6_dust_23 : decode cX6_dust 23 = .ok (.iconst 4, 1) := by decide +kernel
theorem dX6_dust_24 : decode cX6_dust 24 = .ok (.invokestatic 69, 3) := by decide +kernel
theorem dX6_dust_27 : decode cX6_dust 27 = .ok (.ifCond .eq 13, 3) := by decide +kernel
theorem dX6_dust_30 : decode cX6_dust 30 = .ok (.iload_n 3, 1) := by decide +kernel
theorem dX6_dust_31 : decode cX6_dust 31 = .ok (.iconst 0, 1) := by decide +kernel
theorem dX6_dust_32 : decode cX6_dust 32 = .ok (.ldc 81, 2) := by decide +kernel
theorem dX6_dust_34 : decode cX6_dust 34 = .ok (.invokestatic 69, 3) := by decide +kernel
theorem dX6_dust_37 : decode cX6_dust 37 = .ok (.ifCond .ne 5, 3) := by decide +kernel
theorem dX6_dust_40 : decode cX6_dust 40 = .ok (.iconst 0, 1) := by decide +kernel
theorem dX6_dust_41 : decode cX6_dust 41 = .ok (.ireturn, 1) := by decide +kernel
theorem dX6_dust_42 : decode cX6_dust 42 = .ok (.aload_n 0, 1) := by decide +kernel
theorem dX6_dust_43 : decode cX6_dust 43 = .ok (.getfield 10, 3) := by decide +kernel
theorem dX6_dust_46 : decode cX6_dust 46 = .ok (.getfield 91, 3) := by decide +kernel
theorem dX6_dust_49 : decode cX6_dust 49 = .ok (.iload_n 1, 1) := by decide +kernel
theorem dX6_dust_50 : decode cX6_dust 50 = .ok (.iconst 5, 1) := by decide +kernel
theorem dX6_dust_51 : decode cX6_dust 51 = .ok (.imul, 1) := by decide +kernel
theorem dX6_dust_52 : decode cX6_dust 52 = .ok (.iload_n 2, 1) := by decide +kernel
theorem dX6_dust_53 : decode cX6_dust 53 = .ok (.iadd, 1) := by decide +kernel
theorem dX6_dust_54 : decode cX6_dust 54 = .ok (.iload_n 3, 1) := by decide +kernel
end
section
theorem dX6_dust_55 : decode cX6_dust 55 = .ok (.iastore, 1) := by decide +kernel
theorem dX6_dust_56 : decode cX6_dust 56 = .ok (.iconst 1, 1) := by decide +kernel
theorem dX6_dust_57 : decode cX6_dust 57 = .ok (.ireturn, 1) := by decide +kernel
theorem dX6_star_0 : decode cX6_star 0 = .ok (.iload_n 1, 1) := by decide +kernel
theorem dX6_star_1 : decode cX6_star 1 = .ok (.iconst 0, 1) := by decide +kernel
theorem dX6_star_2 : decode cX6_star 2 = .ok (.ldc 81, 2) := by decide +kernel
theorem dX6_star_4 : decode cX6_star 4 = .ok (.invokestatic 69, 3) := by decide +kernel
theorem dX6_star_7 : decode cX6_star 7 = .ok (.ifCond .eq 23, 3) := by decide +kernel
theorem dX6_star_10 : decode cX6_star 10 = .ok (.iload_n 2, 1) := by decide +kernel
theorem dX6_star_11 : decode cX6_star 11 = .ok (.iconst 0, 1) := by decide +kernel
theorem dX6_star_12 : decode cX6_star 12 = .ok (.bipush 20, 2) := by decide +kernel
theorem dX6_star_14 : decode cX6_star 14 = .ok (.invokestatic 69, 3) := by decide +kernel
theorem dX6_star_17 : decode cX6_star 17 = .ok (.ifCond .eq 13, 3) := by decide +kernel
theorem dX6_star_20 : decode cX6_star 20 = .ok (.iload_n 3, 1) := by decide +kernel
theorem dX6_star_21 : decode cX6_star 21 = .ok (.iconst 1, 1) := by decide +kernel
theorem dX6_star_22 : decode cX6_star 22 = .ok (.bipush 101, 2) := by decide +kernel
theorem dX6_star_24 : decode cX6_star 24 = .ok (.invokestatic 69, 3) := by decide +kernel
theorem dX6_star_27 : decode cX6_star 27 = .ok (.ifCond .ne 5, 3) := by decide +kernel
theorem dX6_star_30 : decode cX6_star 30 = .ok (.iconst 0, 1) := by decide +kernel
theorem dX6_star_31 : decode cX6_star 31 = .ok (.ireturn, 1) := by decide +kernel
theorem dX6_star_32 : decode cX6_star 32 = .ok (.aload_n 0, 1) := by decide +kernel
theorem dX6_star_33 : decode cX6_star 33 = .ok (.getfield 10, 3) := by decide +kernel
theorem dX6_star_36 : decode cX6_star 36 = .ok (.iload_n 1, 1) := by decide +kernel
theorem dX6_star_37 : decode cX6_star 37 = .ok (.putfield 94, 3) := by decide +kernel
theorem dX6_star_40 : decode cX6_star 40 = .ok (.aload_n 0, 1) := by decide +kernel
theorem dX6_star_41 : decode cX6_star 41 = .ok (.getfield 37, 3) := by decide +kernel
theorem dX6_star_44 : decode cX6_star 44 = .ok (.iload_n 2, 1) := by decide +kernel
theorem dX6_star_45 : decode cX6_star 45 = .ok (.putfield 97, 3) := by decide +kernel
theorem dX6_star_48 : decode cX6_star 48 = .ok (.aload_n 0, 1) := by decide +kernel
theorem dX6_star_49 : decode cX6_star 49 = .ok (.getfield 37, 3) := by decide +kernel
theorem dX6_star_52 : decode cX6_star 52 = .ok (.iload_n 3, 1) := by decide +kernel
theorem dX6_star_53 : decode cX6_star 53 = .ok (.putfield 100, 3) := by decide +kernel
theorem dX6_star_56 : decode cX6_star 56 = .ok (.iconst 1, 1) := by decide +kernel
theorem dX6_star_57 : decode cX6_star 57 = .ok (.ireturn, 1) := by decide +kernel
theorem dX6_seed_0 : decode cX6_seed 0 = .ok (.iload_n 1, 1) := by decide +kernel
theorem dX6_seed_1 : decode cX6_seed 1 = .ok (.ifCond .ge 5, 3) := by decide +kernel
theorem dX6_seed_4 : decode cX6_seed 4 = .ok (.iconst 0, 1) := by decide +kernel
theorem dX6_seed_5 : decode cX6_seed 5 = .ok (.ireturn, 1) := by decide +kernel
theorem dX6_seed_6 : decode cX6_seed 6 = .ok (.aload_n 0, 1) := by decide +kernel
theorem dX6_seed_7 : decode cX6_seed 7 = .ok (.getfield 10, 3) := by decide +kernel
theorem dX6_seed_10 : decode cX6_seed 10 = .ok (.iload_n 1, 1) := by decide +kernel
theorem dX6_seed_11 : decode cX6_seed 11 = .ok (.i2l, 1) := by decide +kernel
theorem dX6_seed_12 : decode cX6_seed 12 = .ok (.putfield 103, 3) := by decide +kernel
theorem dX6_seed_15 : decode cX6_seed 15 = .ok (.iconst 1, 1) := by decide +kernel
theorem dX6_seed_16 : decode cX6_seed 16 = .ok (.ireturn, 1) := by decide +kernel
theorem dX6_feed_0 : decode cX6_feed 0 = .ok (.aload_n 0, 1) := by decide +kernel
theorem dX6_feed_1 : decode cX6_feed 1 = .ok (.getfield 23, 3) := by decide +kernel
theorem dX6_feed_4 : decode cX6_feed 4 = .ok (.lload_n 1, 1) := by decide +kernel
theorem dX6_feed_5 : decode cX6_feed 5 = .ok (.invokevirtual 107, 3) := by decide +kernel
theorem dX6_feed_8 : decode cX6_feed 8 = .ok (.aload_n 0, 1) := by decide +kernel
theorem dX6_feed_9 : decode cX6_feed 9 = .ok (.getfield 23, 3) := by decide +kernel
theorem dX6_feed_12 : decode cX6_feed 12 = .ok (.lload_n 3, 1) := by decide +kernel
theorem dX6_feed_13 : decode cX6_feed 13 = .ok (.invokevirtual 107, 3) := by decide +kernel
theorem dX6_feed_16 : decode cX6_feed 16 = .ok (.aload_n 0, 1) := by decide +kernel
theorem dX6_feed_17 : decode cX6_feed 17 = .ok (.getfield 23, 3) := by decide +kernel
theorem dX6_feed_20 : decode cX6_feed 20 = .ok (.lload 5, 2) := by decide +kernel
theorem dX6_feed_22 : decode cX6_feed 22 = .ok (.invokevirtual 107, 3) := by decide +kernel
theorem dX6_feed_25 : decode cX6_feed 25 = .ok (.aload_n 0, 1) := by decide +kernel
theorem dX6_feed_26 : decode cX6_feed 26 = .ok (.getfield 23, 3) := by decide +kernel
theorem dX6_feed_29 : decode cX6_feed 29 = .ok (.getfield 111, 3) := by decide +kernel
theorem dX6_feed_32 : decode cX6_feed 32 = .ok (.ireturn, 1) := by decide +kernel
theorem dX6_laws_0 : decode cX6_laws 0 = .ok (.aload_n 0, 1) := by decide +kernel
theorem dX6_laws_1 : decode cX6_laws 1 = .ok (.getfield 30, 3) := by decide +kernel
theorem dX6_laws_4 : decode cX6_laws 4 = .ok (.aload_n 0, 1) := by decide +kernel
theorem dX6_laws_5 : decode cX6_laws 5 = .ok (.getfield 23, 3) := by decide +kernel
theorem dX6_laws_8 : decode cX6_laws 8 = .ok (.aload_n 0, 1) := by decide +kernel
theorem dX6_laws_9 : decode cX6_laws 9 = .ok (.getfield 55, 3) := by decide +kernel
theorem dX6_laws_12 : decode cX6_laws 12 = .ok (.invokevirtual 114, 3) := by decide +kernel
theorem dX6_laws_15 : decode cX6_laws 15 = .ok (.istore_n 1, 1) := by decide +kernel
theorem dX6_laws_16 : decode cX6_laws 16 = .ok (.aload_n 0, 1) := by decide +kernel
theorem dX6_laws_17 : decode cX6_laws 17 = .ok (.getfield 23, 3) := by decide +kernel
theorem dX6_laws_20 : decode cX6_laws 20 = .ok (.iconst 0, 1) := by decide +kernel
theorem dX6_laws_21 : decode cX6_laws 21 = .ok (.putfield 111, 3) := by decide +kernel
theorem dX6_laws_24 : decode cX6_laws 24 = .ok (.iload_n 1, 1) := by decide +kernel
theorem dX6_laws_25 : decode cX6_laws 25 = .ok (.ifCond .ne 37, 3) := by decide +kernel
theorem dX6_laws_28 : decode cX6_laws 28 = .ok (.aload_n 0, 1) := by decide +kernel
theorem dX6_laws_29 : decode cX6_laws 29 = .ok (.getfield 49, 3) := by decide +kernel
theorem dX6_laws_32 : decode cX6_laws 32 = .ok (.astore_n 2, 1) := by decide +kernel
theorem dX6_laws_33 : decode cX6_laws 33 = .ok (.aload_n 0, 1) := by decide +kernel
theorem dX6_laws_34 : decode cX6_laws 34 = .ok (.aload_n 0, 1) := by decide +kernel
theorem dX6_laws_35 : decode cX6_laws 35 = .ok (.getfield 55, 3) := by decide +kernel
theorem dX6_laws_38 : decode cX6_laws 38 = .ok (.putfield 49, 3) := by decide +kernel
theorem dX6_laws_41 : decode cX6_laws 41 = .ok (.aload_n 0, 1) := by decide +kernel
theorem dX6_laws_42 : decode cX6_laws 42 = .ok (.aload_n 2, 1) := by decide +kernel
theorem dX6_laws_43 : decode cX6_laws 43 = .ok (.putfield 55, 3) := by decide +kernel
theorem dX6_laws_46 : decode cX6_laws 46 = .ok (.aload_n 0, 1) := by decide +kernel
theorem dX6_laws_47 : decode cX6_laws 47 = .ok (.getfield 37, 3) := by decide +kernel
theorem dX6_laws_50 : decode cX6_laws 50 = .ok (.aload_n 0, 1) := by decide +kernel
theorem dX6_laws_51 : decode cX6_laws 51 = .ok (.getfield 49, 3) := by decide +kernel
theorem dX6_laws_54 : decode cX6_laws 54 = .ok (.putfield 45, 3) := by decide +kernel
theorem dX6_laws_57 : decode cX6_laws 57 = .ok (.aload_n 0, 1) := by decide +kernel
theorem dX6_laws_58 : decode cX6_laws 58 = .ok (.iconst 0, 1) := by decide +kernel
theorem dX6_laws_59 : decode cX6_laws 59 = .ok (.putfield 118, 3) := by decide +kernel
theorem dX6_laws_62 : decode cX6_laws 62 = .ok (.iload_n 1, 1) := by decide +kernel
theorem dX6_laws_63 : decode cX6_laws 63 = .ok (.ireturn, 1) := by decide +kernel
theorem dX6_end_0 : decode cX6_end 0 = .ok (.aload_n 0, 1) := by decide +kernel
theorem dX6_end_1 : decode cX6_end 1 = .ok (.iload_n 1, 1) := by decide +kernel
theorem dX6_end_2 : decode cX6_end 2 = .ok (.invokevirtual 121, 3) := by decide +kernel
theorem dX6_end_5 : decode cX6_end 5 = .ok (.ifCond .ne 5, 3) := by decide +kernel
theorem dX6_end_8 : decode cX6_end 8 = .ok (.iconst 0, 1) := by decide +kernel
theorem dX6_end_9 : decode cX6_end 9 = .ok (.ireturn, 1) := by decide +kernel
theorem dX6_end_10 : decode cX6_end 10 = .ok (.aload_n 0, 1) := by decide +kernel
theorem dX6_end_11 : decode cX6_end 11 = .ok (.iload_n 1, 1) := by decide +kernel
theorem dX6_end_12 : decode cX6_end 12 = .ok (.putfield 118, 3) := by decide +kernel
theorem dX6_end_15 : decode cX6_end 15 = .ok (.iconst 1, 1) := by decide +kernel
theorem dX6_end_16 : decode cX6_end 16 = .ok (.ireturn, 1) := by decide +kernel
theorem dX6_steps_0 : decode cX6_steps 0 = .ok (.iload_n 1, 1) := by decide +kernel
theorem dX6_steps_1 : decode cX6_steps 1 = .ok (.iconst 1, 1) := by decide +kernel
theorem dX6_steps_2 : decode cX6_steps 2 = .ok (.bipush 100, 2) := by decide +kernel
theorem dX6_steps_4 : decode cX6_steps 4 = .ok (.invokestatic 69, 3) := by decide +kernel
theorem dX6_steps_7 : decode cX6_steps 7 = .ok (.ifCond .eq 18, 3) := by decide +kernel
theorem dX6_steps_10 : decode cX6_steps 10 = .ok (.aload_n 0, 1) := by decide +kernel
theorem dX6_steps_11 : decode cX6_steps 11 = .ok (.getfield 10, 3) := by decide +kernel
theorem dX6_steps_14 : decode cX6_steps 14 = .ok (.getfield 65, 3) := by decide +kernel
theorem dX6_steps_17 : decode cX6_steps 17 = .ok (.iload_n 1, 1) := by decide +kernel
theorem dX6_steps_18 : decode cX6_steps 18 = .ok (.iadd, 1) := by decide +kernel
theorem dX6_steps_19 : decode cX6_steps 19 = .ok (.sipush 9999, 3) := by decide +kernel
theorem dX6_steps_22 : decode cX6_steps 22 = .ok (.if_icmp .le 5, 3) := by decide +kernel
theorem dX6_steps_25 : decode cX6_steps 25 = .ok (.iconst (-1), 1) := by decide +kernel
theorem dX6_steps_26 : decode cX6_steps 26 = .ok (.ireturn, 1) := by decide +kernel
theorem dX6_steps_27 : decode cX6_steps 27 = .ok (.aload_n 0, 1) := by decide +kernel
theorem dX6_steps_28 : decode cX6_steps 28 = .ok (.getfield 37, 3) := by decide +kernel
theorem dX6_steps_31 : decode cX6_steps 31 = .ok (.aload_n 0, 1) := by decide +kernel
theorem dX6_steps_32 : decode cX6_steps 32 = .ok (.getfield 10, 3) := by decide +kernel
theorem dX6_steps_35 : decode cX6_steps 35 = .ok (.aload_n 0, 1) := by decide +kernel
theorem dX6_steps_36 : decode cX6_steps 36 = .ok (.getfield 118, 3) := by decide +kernel
theorem dX6_steps_39 : decode cX6_steps 39 = .ok (.invokevirtual 124, 3) := by decide +kernel
theorem dX6_steps_42 : decode cX6_steps 42 = .ok (.aload_n 0, 1) := by decide +kernel
theorem dX6_steps_43 : decode cX6_steps 43 = .ok (.getfield 37, 3) := by decide +kernel
theorem dX6_steps_46 : decode cX6_steps 46 = .ok (.iload_n 1, 1) := by decide +kernel
theorem dX6_steps_47 : decode cX6_steps 47 = .ok (.invokevirtual 128, 3) := by decide +kernel
theorem dX6_steps_50 : decode cX6_steps 50 = .ok (.aload_n 0, 1) := by decide +kernel
theorem dX6_steps_51 : decode cX6_steps 51 = .ok (.getfield 10, 3) := by decide +kernel
theorem dX6_steps_54 : decode cX6_steps 54 = .ok (.getfield 65, 3) := by decide +kernel
theorem dX6_steps_57 : decode cX6_steps 57 = .ok (.ireturn, 1) := by decide +kernel
theorem dX6_has_0 : decode cX6_has 0 = .ok (.aload_n 0, 1) := by decide +kernel
theorem dX6_has_1 : decode cX6_has 1 = .ok (.getfield 10, 3) := by decide +kernel
theorem dX6_has_4 : decode cX6_has 4 = .ok (.iload_n 1, 1) := by decide +kernel
theorem dX6_has_5 : decode cX6_has 5 = .ok (.invokevirtual 77, 3) := by decide +kernel
theorem dX6_has_8 : decode cX6_has 8 = .ok (.ifCond .eq 13, 3) := by decide +kernel
theorem dX6_has_11 : decode cX6_has 11 = .ok (.iload_n 2, 1) := by decide +kernel
theorem dX6_has_12 : decode cX6_has 12 = .ok (.iconst 0, 1) := by decide +kernel
theorem dX6_has_13 : decode cX6_has 13 = .ok (.bipush 7, 2) := by decide +kernel
theorem dX6_has_15 : decode cX6_has 15 = .ok (.invokestatic 69, 3) := by decide +kernel
theorem dX6_has_18 : decode cX6_has 18 = .ok (.ifCond .ne 11, 3) := by decide +kernel
theorem dX6_has_21 : decode cX6_has 21 = .ok (.new 131, 3) := by decide +kernel
theorem dX6_has_24 : decode cX6_has 24 = .ok (.dup, 1) := by decide +kernel
theorem dX6_has_25 : decode cX6_has 25 = .ok (.invokespecial 133, 3) := by decide +kernel
theorem dX6_has_28 : decode cX6_has 28 = .ok (.athrow, 1) := by decide +kernel
theorem dX6_has_29 : decode cX6_has 29 = .ok (.iload_n 2, 1) := by decide +kernel
theorem dX6_has_30 : decode cX6_has 30 = .ok (.tableswitch 62 5 7 #[26, 36, 45], 26) := by decide +kernel
theorem dX6_has_56 : decode cX6_has 56 = .ok (.aload_n 0, 1) := by decide +kernel
theorem dX6_has_57 : decode cX6_has 57 = .ok (.getfield 10, 3) := by decide +kernel
theorem dX6_has_60 : decode cX6_has 60 = .ok (.getfield 82, 3) := by decide +kernel
theorem dX6_has_63 : decode cX6_has 63 = .ok (.iload_n 1, 1) := by decide +kernel
theorem dX6_has_64 : decode cX6_has 64 = .ok (.iaload, 1) := by decide +kernel
theorem dX6_has_65 : decode cX6_has 65 = .ok (.ireturn, 1) := by decide +kernel
theorem dX6_has_66 : decode cX6_has 66 = .ok (.aload_n 0, 1) := by decide +kernel
theorem dX6_has_67 : decode cX6_has 67 = .ok (.getfield 10, 3) := by decide +kernel
theorem dX6_has_70 : decode cX6_has 70 = .ok (.iload_n 1, 1) := by decide +kernel
theorem dX6_has_71 : decode cX6_has 71 = .ok (.invokevirtual 134, 3) := by decide +kernel
theorem dX6_has_74 : decode cX6_has 74 = .ok (.ireturn, 1) := by decide +kernel
theorem dX6_has_75 : decode cX6_has 75 = .ok (.aload_n 0, 1) := by decide +kernel
theorem dX6_has_76 : decode cX6_has 76 = .ok (.getfield 10, 3) := by decide +kernel
theorem dX6_has_79 : decode cX6_has 79 = .ok (.iload_n 1, 1) := by decide +kernel
theorem dX6_has_80 : decode cX6_has 80 = .ok (.invokevirtual 138, 3) := by decide +kernel
theorem dX6_has_83 : decode cX6_has 83 = .ok (.ifCond .eq 7, 3) := by decide +kernel
theorem dX6_has_86 : decode cX6_has 86 = .ok (.iconst 1, 1) := by decide +kernel
theorem dX6_has_87 : decode cX6_has 87 = .ok (.goto 4, 3) := by decide +kernel
theorem dX6_has_90 : decode cX6_has 90 = .ok (.iconst 0, 1) := by decide +kernel
theorem dX6_has_91 : decode cX6_has 91 = .ok (.ireturn, 1) := by decide +kernel
theorem dX6_has_92 : decode cX6_has 92 = .ok (.aload_n 0, 1) := by decide +kernel
theorem dX6_has_93 : decode cX6_has 93 = .ok (.getfield 10, 3) := by decide +kernel
theorem dX6_has_96 : decode cX6_has 96 = .ok (.getfield 91, 3) := by decide +kernel
theorem dX6_has_99 : decode cX6_has 99 = .ok (.iload_n 1, 1) := by decide +kernel
theorem dX6_has_100 : decode cX6_has 100 = .ok (.iconst 5, 1) := by decide +kernel
theorem dX6_has_101 : decode cX6_has 101 = .ok (.imul, 1) := by decide +kernel
theorem dX6_has_102 : decode cX6_has 102 = .ok (.iload_n 2, 1) := by decide +kernel
theorem dX6_has_103 : decode cX6_has 103 = .ok (.iadd, 1) := by decide +kernel
theorem dX6_has_104 : decode cX6_has 104 = .ok (.iaload, 1) := by decide +kernel
theorem dX6_has_105 : decode cX6_has 105 = .ok (.ireturn, 1) := by decide +kernel
theorem dX6_look_0 : decode cX6_look 0 = .ok (.aload_n 0, 1) := by decide +kernel
theorem dX6_look_1 : decode cX6_look 1 = .ok (.getfield 10, 3) := by decide +kernel
theorem dX6_look_4 : decode cX6_look 4 = .ok (.iload_n 1, 1) := by decide +kernel
theorem dX6_look_5 : decode cX6_look 5 = .ok (.invokevirtual 141, 3) := by decide +kernel
theorem dX6_look_8 : decode cX6_look 8 = .ok (.ifCond .ne 5, 3) := by decide +kernel
theorem dX6_look_11 : decode cX6_look 11 = .ok (.iconst (-1), 1) := by decide +kernel
theorem dX6_look_12 : decode cX6_look 12 = .ok (.ireturn, 1) := by decide +kernel
theorem dX6_look_13 : decode cX6_look 13 = .ok (.aload_n 0, 1) := by decide +kernel
theorem dX6_look_14 : decode cX6_look 14 = .ok (.getfield 10, 3) := by decide +kernel
theorem dX6_look_17 : decode cX6_look 17 = .ok (.getfield 144, 3) := by decide +kernel
theorem dX6_look_20 : decode cX6_look 20 = .ok (.iload_n 1, 1) := by decide +kernel
theorem dX6_look_21 : decode cX6_look 21 = .ok (.aaload, 1) := by decide +kernel
theorem dX6_look_22 : decode cX6_look 22 = .ok (.astore_n 3, 1) := by decide +kernel
theorem dX6_look_23 : decode cX6_look 23 = .ok (.iload_n 2, 1) := by decide +kernel
theorem dX6_look_24 : decode cX6_look 24 = .ok (.tableswitch 148 0 9 #[56, 61, 66, 71, 76, 88, 116, 121, 138, 143], 56) := by decide +kernel
theorem dX6_look_80 : decode cX6_look 80 = .ok (.aload_n 3, 1) := by decide +kernel
theorem dX6_look_81 : decode cX6_look 81 = .ok (.getfield 148, 3) := by decide +kernel
theorem dX6_look_84 : decode cX6_look 84 = .ok (.ireturn, 1) := by decide +kernel
theorem dX6_look_85 : decode cX6_look 85 = .ok (.aload_n 3, 1) := by decide +kernel
theorem dX6_look_86 : decode cX6_look 86 = .ok (.getfield 153, 3) := by decide +kernel
theorem dX6_look_89 : decode cX6_look 89 = .ok (.ireturn, 1) := by decide +kernel
theorem dX6_look_90 : decode cX6_look 90 = .ok (.aload_n 3, 1) := by decide +kernel
theorem dX6_look_91 : decode cX6_look 91 = .ok (.getfield 156, 3) := by decide +kernel
theorem dX6_look_94 : decode cX6_look 94 = .ok (.ireturn, 1) := by decide +kernel
theorem dX6_look_95 : decode cX6_look 95 = .ok (.aload_n 3, 1) := by decide +kernel
theorem dX6_look_96 : decode cX6_look 96 = .ok (.getfield 159, 3) := by decide +kernel
theorem dX6_look_99 : decode cX6_look 99 = .ok (.ireturn, 1) := by decide +kernel
theorem dX6_look_100 : decode cX6_look 100 = .ok (.aload_n 3, 1) := by decide +kernel
theorem dX6_look_101 : decode cX6_look 101 = .ok (.aload_n 0, 1) := by decide +kernel
theorem dX6_look_102 : decode cX6_look 102 = .ok (.getfield 10, 3) := by decide +kernel
theorem dX6_look_105 : decode cX6_look 105 = .ok (.getfield 161, 3) := by decide +kernel
theorem dX6_look_108 : decode cX6_look 108 = .ok (.invokevirtual 164, 3) := by decide +kernel
theorem dX6_look_111 : decode cX6_look 111 = .ok (.ireturn, 1) := by decide +kernel
theorem dX6_look_112 : decode cX6_look 112 = .ok (.aload_n 3, 1) := by decide +kernel
theorem dX6_look_113 : decode cX6_look 113 = .ok (.getfield 148, 3) := by decide +kernel
theorem dX6_look_116 : decode cX6_look 116 = .ok (.ifCond .eq 7, 3) := by decide +kernel
theorem dX6_look_119 : decode cX6_look 119 = .ok (.iconst (-1), 1) := by decide +kernel
theorem dX6_look_120 : decode cX6_look 120 = .ok (.goto 19, 3) := by decide +kernel
theorem dX6_look_123 : decode cX6_look 123 = .ok (.aload_n 0, 1) := by decide +kernel
theorem dX6_look_124 : decode cX6_look 124 = .ok (.getfield 10, 3) := by decide +kernel
theorem dX6_look_127 : decode cX6_look 127 = .ok (.aload_n 3, 1) := by decide +kernel
theorem dX6_look_128 : decode cX6_look 128 = .ok (.invokevirtual 167, 3) := by decide +kernel
theorem dX6_look_131 : decode cX6_look 131 = .ok (.ifCond .eq 7, 3) := by decide +kernel
theorem dX6_look_134 : decode cX6_look 134 = .ok (.iconst 1, 1) := by decide +kernel
theorem dX6_look_135 : decode cX6_look 135 = .ok (.goto 4, 3) := by decide +kernel
theorem dX6_look_138 : decode cX6_look 138 = .ok (.iconst 0, 1) := by decide +kernel
theorem dX6_look_139 : decode cX6_look 139 = .ok (.ireturn, 1) := by decide +kernel
theorem dX6_look_140 : decode cX6_look 140 = .ok (.aload_n 3, 1) := by decide +kernel
theorem dX6_look_141 : decode cX6_look 141 = .ok (.getfield 171, 3) := by decide +kernel
theorem dX6_look_144 : decode cX6_look 144 = .ok (.ireturn, 1) := by decide +kernel
theorem dX6_look_145 : decode cX6_look 145 = .ok (.aload_n 3, 1) := by decide +kernel
theorem dX6_look_146 : decode cX6_look 146 = .ok (.getfield 148, 3) := by decide +kernel
theorem dX6_look_149 : decode cX6_look 149 = .ok (.ifCond .eq 7, 3) := by decide +kernel
theorem dX6_look_152 : decode cX6_look 152 = .ok (.iconst (-1), 1) := by decide +kernel
theorem dX6_look_153 : decode cX6_look 153 = .ok (.goto 8, 3) := by decide +kernel
theorem dX6_look_156 : decode cX6_look 156 = .ok (.aload_n 0, 1) := by decide +kernel
theorem dX6_look_157 : decode cX6_look 157 = .ok (.aload_n 3, 1) := by decide +kernel
theorem dX6_look_158 : decode cX6_look 158 = .ok (.invokevirtual 174, 3) := by decide +kernel
theorem dX6_look_161 : decode cX6_look 161 = .ok (.ireturn, 1) := by decide +kernel
theorem dX6_look_162 : decode cX6_look 162 = .ok (.aload_n 3, 1) := by decide +kernel
theorem dX6_look_163 : decode cX6_look 163 = .ok (.getfield 178, 3) := by decide +kernel
theorem dX6_look_166 : decode cX6_look 166 = .ok (.ireturn, 1) := by decide +kernel
theorem dX6_look_167 : decode cX6_look 167 = .ok (.aload_n 3, 1) := by decide +kernel
theorem dX6_look_168 : decode cX6_look 168 = .ok (.getfield 181, 3) := by decide +kernel
theorem dX6_look_171 : decode cX6_look 171 = .ok (.ireturn, 1) := by decide +kernel
theorem dX6_look_172 : decode cX6_look 172 = .ok (.iconst (-1), 1) := by decide +kernel
theorem dX6_look_173 : decode cX6_look 173 = .ok (.ireturn, 1) := by decide +kernel
theorem dX6_made_0 : decode cX6_made 0 = .ok (.aload_n 0, 1) := by decide +kernel
theorem dX6_made_1 : decode cX6_made 1 = .ok (.getfield 10, 3) := by decide +kernel
theorem dX6_made_4 : decode cX6_made 4 = .ok (.iload_n 1, 1) := by decide +kernel
theorem dX6_made_5 : decode cX6_made 5 = .ok (.invokevirtual 141, 3) := by decide +kernel
theorem dX6_made_8 : decode cX6_made 8 = .ok (.ifCond .eq 31, 3) := by decide +kernel
theorem dX6_made_11 : decode cX6_made 11 = .ok (.aload_n 0, 1) := by decide +kernel
theorem dX6_made_12 : decode cX6_made 12 = .ok (.getfield 10, 3) := by decide +kernel
theorem dX6_made_15 : decode cX6_made 15 = .ok (.iload_n 2, 1) := by decide +kernel
theorem dX6_made_16 : decode cX6_made 16 = .ok (.invokevirtual 77, 3) := by decide +kernel
theorem dX6_made_19 : decode cX6_made 19 = .ok (.ifCond .eq 20, 3) := by decide +kernel
theorem dX6_made_22 : decode cX6_made 22 = .ok (.aload_n 0, 1) := by decide +kernel
theorem dX6_made_23 : decode cX6_made 23 = .ok (.getfield 10, 3) := by decide +kernel
theorem dX6_made_26 : decode cX6_made 26 = .ok (.getfield 144, 3) := by decide +kernel
theorem dX6_made_29 : decode cX6_made 29 = .ok (.iload_n 1, 1) := by decide +kernel
theorem dX6_made_30 : decode cX6_made 30 = .ok (.aaload, 1) := by decide +kernel
theorem dX6_made_31 : decode cX6_made 31 = .ok (.getfield 184, 3) := by decide +kernel
theorem dX6_made_34 : decode cX6_made 34 = .ok (.iload_n 2, 1) := by decide +kernel
theorem dX6_made_35 : decode cX6_made 35 = .ok (.iaload, 1) := by decide +kernel
theorem dX6_made_36 : decode cX6_made 36 = .ok (.goto 4, 3) := by decide +kernel
theorem dX6_made_39 : decode cX6_made 39 = .ok (.iconst (-1), 1) := by decide +kernel
theorem dX6_made_40 : decode cX6_made 40 = .ok (.ireturn, 1) := by decide +kernel
theorem dX6_parts_0 : decode cX6_parts 0 = .ok (.iload_n 1, 1) := by decide +kernel
theorem dX6_parts_1 : decode cX6_parts 1 = .ok (.tableswitch 103 0 4 #[35, 43, 51, 60, 69], 35) := by decide +kernel
theorem dX6_parts_36 : decode cX6_parts 36 = .ok (.aload_n 0, 1) := by decide +kernel
theorem dX6_parts_37 : decode cX6_parts 37 = .ok (.getfield 10, 3) := by decide +kernel
theorem dX6_parts_40 : decode cX6_parts 40 = .ok (.invokevirtual 187, 3) := by decide +kernel
theorem dX6_parts_43 : decode cX6_parts 43 = .ok (.lreturn, 1) := by decide +kernel
theorem dX6_parts_44 : decode cX6_parts 44 = .ok (.aload_n 0, 1) := by decide +kernel
theorem dX6_parts_45 : decode cX6_parts 45 = .ok (.getfield 10, 3) := by decide +kernel
theorem dX6_parts_48 : decode cX6_parts 48 = .ok (.invokevirtual 191, 3) := by decide +kernel
theorem dX6_parts_51 : decode cX6_parts 51 = .ok (.lreturn, 1) := by decide +kernel
theorem dX6_parts_52 : decode cX6_parts 52 = .ok (.aload_n 0, 1) := by decide +kernel
theorem dX6_parts_53 : decode cX6_parts 53 = .ok (.getfield 10, 3) := by decide +kernel
theorem dX6_parts_56 : decode cX6_parts 56 = .ok (.getfield 194, 3) := by decide +kernel
theorem dX6_parts_59 : decode cX6_parts 59 = .ok (.i2l, 1) := by decide +kernel
theorem dX6_parts_60 : decode cX6_parts 60 = .ok (.lreturn, 1) := by decide +kernel
theorem dX6_parts_61 : decode cX6_parts 61 = .ok (.aload_n 0, 1) := by decide +kernel
theorem dX6_parts_62 : decode cX6_parts 62 = .ok (.getfield 10, 3) := by decide +kernel
theorem dX6_parts_65 : decode cX6_parts 65 = .ok (.getfield 197, 3) := by decide +kernel
theorem dX6_parts_68 : decode cX6_parts 68 = .ok (.i2l, 1) := by decide +kernel
theorem dX6_parts_69 : decode cX6_parts 69 = .ok (.lreturn, 1) := by decide +kernel
theorem dX6_parts_70 : decode cX6_parts 70 = .ok (.aload_n 0, 1) := by decide +kernel
theorem dX6_parts_71 : decode cX6_parts 71 = .ok (.getfield 10, 3) := by decide +kernel
theorem dX6_parts_74 : decode cX6_parts 74 = .ok (.invokevirtual 187, 3) := by decide +kernel
theorem dX6_parts_77 : decode cX6_parts 77 = .ok (.aload_n 0, 1) := by decide +kernel
theorem dX6_parts_78 : decode cX6_parts 78 = .ok (.getfield 10, 3) := by decide +kernel
theorem dX6_parts_81 : decode cX6_parts 81 = .ok (.invokevirtual 191, 3) := by decide +kernel
theorem dX6_parts_84 : decode cX6_parts 84 = .ok (.ladd, 1) := by decide +kernel
theorem dX6_parts_85 : decode cX6_parts 85 = .ok (.aload_n 0, 1) := by decide +kernel
theorem dX6_parts_86 : decode cX6_parts 86 = .ok (.getfield 10, 3) := by decide +kernel
theorem dX6_parts_89 : decode cX6_parts 89 = .ok (.getfield 194, 3) := by decide +kernel
theorem dX6_parts_92 : decode cX6_parts 92 = .ok (.i2l, 1) := by decide +kernel
theorem dX6_parts_93 : decode cX6_parts 93 = .ok (.ladd, 1) := by decide +kernel
theorem dX6_parts_94 : decode cX6_parts 94 = .ok (.aload_n 0, 1) := by decide +kernel
theorem dX6_parts_95 : decode cX6_parts 95 = .ok (.getfield 10, 3) := by decide +kernel
theorem dX6_parts_98 : decode cX6_parts 98 = .ok (.getfield 197, 3) := by decide +kernel
theorem dX6_parts_101 : decode cX6_parts 101 = .ok (.i2l, 1) := by decide +kernel
theorem dX6_parts_102 : decode cX6_parts 102 = .ok (.ladd, 1) := by decide +kernel
theorem dX6_parts_103 : decode cX6_parts 103 = .ok (.lreturn, 1) := by decide +kernel
theorem dX6_parts_104 : decode cX6_parts 104 = .ok (.ldc2_w 200, 3) := by decide +kernel
theorem dX6_parts_107 : decode cX6_parts 107 = .ok (.lreturn, 1) := by decide +kernel
theorem dX6_asked_0 : decode cX6_asked 0 = .ok (.aload_n 0, 1) := by decide +kernel
theorem dX6_asked_1 : decode cX6_asked 1 = .ok (.iload_n 1, 1) := by decide +kernel
theorem dX6_asked_2 : decode cX6_asked 2 = .ok (.invokevirtual 121, 3) := by decide +kernel
theorem dX6_asked_5 : decode cX6_asked 5 = .ok (.ifCond .eq 14, 3) := by decide +kernel
theorem dX6_asked_8 : decode cX6_asked 8 = .ok (.aload_n 0, 1) := by decide +kernel
theorem dX6_asked_9 : decode cX6_asked 9 = .ok (.iload_n 2, 1) := by decide +kernel
theorem dX6_asked_10 : decode cX6_asked 10 = .ok (.iload_n 3, 1) := by decide +kernel
theorem dX6_asked_11 : decode cX6_asked 11 = .ok (.iload 4, 2) := by decide +kernel
theorem dX6_asked_13 : decode cX6_asked 13 = .ok (.invokevirtual 202, 3) := by decide +kernel
theorem dX6_asked_16 : decode cX6_asked 16 = .ok (.ifCond .ne 5, 3) := by decide +kernel
theorem dX6_asked_19 : decode cX6_asked 19 = .ok (.iconst (-1), 1) := by decide +kernel
theorem dX6_asked_20 : decode cX6_asked 20 = .ok (.ireturn, 1) := by decide +kernel
theorem dX6_asked_21 : decode cX6_asked 21 = .ok (.aload_n 0, 1) := by decide +kernel
theorem dX6_asked_22 : decode cX6_asked 22 = .ok (.iload_n 1, 1) := by decide +kernel
theorem dX6_asked_23 : decode cX6_asked 23 = .ok (.iload_n 2, 1) := by decide +kernel
theorem dX6_asked_24 : decode cX6_asked 24 = .ok (.iload_n 3, 1) := by decide +kernel
theorem dX6_asked_25 : decode cX6_asked 25 = .ok (.iload 4, 2) := by decide +kernel
theorem dX6_asked_27 : decode cX6_asked 27 = .ok (.invokevirtual 205, 3) := by decide +kernel
theorem dX6_asked_30 : decode cX6_asked 30 = .ok (.ifCond .eq 7, 3) := by decide +kernel
theorem dX6_asked_33 : decode cX6_asked 33 = .ok (.iconst 1, 1) := by decide +kernel
theorem dX6_asked_34 : decode cX6_asked 34 = .ok (.goto 4, 3) := by decide +kernel
theorem dX6_asked_37 : decode cX6_asked 37 = .ok (.iconst 0, 1) := by decide +kernel
theorem dX6_asked_38 : decode cX6_asked 38 = .ok (.ireturn, 1) := by decide +kernel
theorem dX6_sure_0 : decode cX6_sure 0 = .ok (.aload_n 0, 1) := by decide +kernel
theorem dX6_sure_1 : decode cX6_sure 1 = .ok (.iload_n 1, 1) := by decide +kernel
theorem dX6_sure_2 : decode cX6_sure 2 = .ok (.iload_n 2, 1) := by decide +kernel
theorem dX6_sure_3 : decode cX6_sure 3 = .ok (.iload_n 3, 1) := by decide +kernel
theorem dX6_sure_4 : decode cX6_sure 4 = .ok (.invokevirtual 202, 3) := by decide +kernel
theorem dX6_sure_7 : decode cX6_sure 7 = .ok (.ifCond .ne 5, 3) := by decide +kernel
theorem dX6_sure_10 : decode cX6_sure 10 = .ok (.iconst (-1), 1) := by decide +kernel
theorem dX6_sure_11 : decode cX6_sure 11 = .ok (.ireturn, 1) := by decide +kernel
theorem dX6_sure_12 : decode cX6_sure 12 = .ok (.aload_n 0, 1) := by decide +kernel
theorem dX6_sure_13 : decode cX6_sure 13 = .ok (.getfield 49, 3) := by decide +kernel
theorem dX6_sure_16 : decode cX6_sure 16 = .ok (.invokevirtual 209, 3) := by decide +kernel
theorem dX6_sure_19 : decode cX6_sure 19 = .ok (.istore 4, 2) := by decide +kernel
theorem dX6_sure_21 : decode cX6_sure 21 = .ok (.iconst 0, 1) := by decide +kernel
theorem dX6_sure_22 : decode cX6_sure 22 = .ok (.istore 5, 2) := by decide +kernel
theorem dX6_sure_24 : decode cX6_sure 24 = .ok (.iconst 0, 1) := by decide +kernel
theorem dX6_sure_25 : decode cX6_sure 25 = .ok (.istore 6, 2) := by decide +kernel
theorem dX6_sure_27 : decode cX6_sure 27 = .ok (.iload 6, 2) := by decide +kernel
theorem dX6_sure_29 : decode cX6_sure 29 = .ok (.iload 4, 2) := by decide +kernel
theorem dX6_sure_31 : decode cX6_sure 31 = .ok (.if_icmp .ge 24, 3) := by decide +kernel
theorem dX6_sure_34 : decode cX6_sure 34 = .ok (.aload_n 0, 1) := by decide +kernel
theorem dX6_sure_35 : decode cX6_sure 35 = .ok (.iload 6, 2) := by decide +kernel
theorem dX6_sure_37 : decode cX6_sure 37 = .ok (.iload_n 1, 1) := by decide +kernel
theorem dX6_sure_38 : decode cX6_sure 38 = .ok (.iload_n 2, 1) := by decide +kernel
theorem dX6_sure_39 : decode cX6_sure 39 = .ok (.iload_n 3, 1) := by decide +kernel
theorem dX6_sure_40 : decode cX6_sure 40 = .ok (.invokevirtual 205, 3) := by decide +kernel
theorem dX6_sure_43 : decode cX6_sure 43 = .ok (.ifCond .eq 6, 3) := by decide +kernel
theorem dX6_sure_46 : decode cX6_sure 46 = .ok (.iinc 5 1, 3) := by decide +kernel
theorem dX6_sure_49 : decode cX6_sure 49 = .ok (.iinc 6 1, 3) := by decide +kernel
theorem dX6_sure_52 : decode cX6_sure 52 = .ok (.goto (-25), 3) := by decide +kernel
theorem dX6_sure_55 : decode cX6_sure 55 = .ok (.iload 5, 2) := by decide +kernel
theorem dX6_sure_57 : decode cX6_sure 57 = .ok (.iload 4, 2) := by decide +kernel
theorem dX6_sure_59 : decode cX6_sure 59 = .ok (.if_icmp .ne 7, 3) := by decide +kernel
theorem dX6_sure_62 : decode cX6_sure 62 = .ok (.iconst 2, 1) := by decide +kernel
theorem dX6_sure_63 : decode cX6_sure 63 = .ok (.goto 13, 3) := by decide +kernel
theorem dX6_sure_66 : decode cX6_sure 66 = .ok (.iload 5, 2) := by decide +kernel
theorem dX6_sure_68 : decode cX6_sure 68 = .ok (.ifCond .le 7, 3) := by decide +kernel
theorem dX6_sure_71 : decode cX6_sure 71 = .ok (.iconst 1, 1) := by decide +kernel
theorem dX6_sure_72 : decode cX6_sure 72 = .ok (.goto 4, 3) := by decide +kernel
theorem dX6_sure_75 : decode cX6_sure 75 = .ok (.iconst 0, 1) := by decide +kernel
theorem dX6_sure_76 : decode cX6_sure 76 = .ok (.ireturn, 1) := by decide +kernel
theorem dX6_empty_0 : decode cX6_empty 0 = .ok (.aload_n 0, 1) := by decide +kernel
theorem dX6_empty_1 : decode cX6_empty 1 = .ok (.getfield 10, 3) := by decide +kernel
theorem dX6_empty_4 : decode cX6_empty 4 = .ok (.iload_n 1, 1) := by decide +kernel
theorem dX6_empty_5 : decode cX6_empty 5 = .ok (.invokevirtual 77, 3) := by decide +kernel
theorem dX6_empty_8 : decode cX6_empty 8 = .ok (.ifCond .eq 11, 3) := by decide +kernel
theorem dX6_empty_11 : decode cX6_empty 11 = .ok (.aload_n 0, 1) := by decide +kernel
theorem dX6_empty_12 : decode cX6_empty 12 = .ok (.iload_n 2, 1) := by decide +kernel
theorem dX6_empty_13 : decode cX6_empty 13 = .ok (.invokevirtual 121, 3) := by decide +kernel
theorem dX6_empty_16 : decode cX6_empty 16 = .ok (.ifCond .ne 5, 3) := by decide +kernel
theorem dX6_empty_19 : decode cX6_empty 19 = .ok (.iconst (-1), 1) := by decide +kernel
theorem dX6_empty_20 : decode cX6_empty 20 = .ok (.ireturn, 1) := by decide +kernel
theorem dX6_empty_21 : decode cX6_empty 21 = .ok (.aload_n 0, 1) := by decide +kernel
theorem dX6_empty_22 : decode cX6_empty 22 = .ok (.iload_n 2, 1) := by decide +kernel
theorem dX6_empty_23 : decode cX6_empty 23 = .ok (.invokevirtual 213, 3) := by decide +kernel
theorem dX6_empty_26 : decode cX6_empty 26 = .ok (.iconst 0, 1) := by decide +kernel
theorem dX6_empty_27 : decode cX6_empty 27 = .ok (.istore_n 3, 1) := by decide +kernel
theorem dX6_empty_28 : decode cX6_empty 28 = .ok (.iload_n 3, 1) := by decide +kernel
theorem dX6_empty_29 : decode cX6_empty 29 = .ok (.sipush 200, 3) := by decide +kernel
theorem dX6_empty_32 : decode cX6_empty 32 = .ok (.if_icmp .ge 28, 3) := by decide +kernel
theorem dX6_empty_35 : decode cX6_empty 35 = .ok (.aload_n 0, 1) := by decide +kernel
theorem dX6_empty_36 : decode cX6_empty 36 = .ok (.getfield 42, 3) := by decide +kernel
theorem dX6_empty_39 : decode cX6_empty 39 = .ok (.iload_n 1, 1) := by decide +kernel
theorem dX6_empty_40 : decode cX6_empty 40 = .ok (.invokevirtual 134, 3) := by decide +kernel
theorem dX6_empty_43 : decode cX6_empty 43 = .ok (.ifCond .le 17, 3) := by decide +kernel
theorem dX6_empty_46 : decode cX6_empty 46 = .ok (.aload_n 0, 1) := by decide +kernel
theorem dX6_empty_47 : decode cX6_empty 47 = .ok (.getfield 37, 3) := by decide +kernel
theorem dX6_empty_50 : decode cX6_empty 50 = .ok (.iconst 1, 1) := by decide +kernel
theorem dX6_empty_51 : decode cX6_empty 51 = .ok (.invokevirtual 128, 3) := by decide +kernel
theorem dX6_empty_54 : decode cX6_empty 54 = .ok (.iinc 3 1, 3) := by decide +kernel
theorem dX6_empty_57 : decode cX6_empty 57 = .ok (.goto (-29), 3) := by decide +kernel
theorem dX6_empty_60 : decode cX6_empty 60 = .ok (.aload_n 0, 1) := by decide +kernel
theorem dX6_empty_61 : decode cX6_empty 61 = .ok (.getfield 42, 3) := by decide +kernel
theorem dX6_empty_64 : decode cX6_empty 64 = .ok (.iload_n 1, 1) := by decide +kernel
theorem dX6_empty_65 : decode cX6_empty 65 = .ok (.invokevirtual 134, 3) := by decide +kernel
theorem dX6_empty_68 : decode cX6_empty 68 = .ok (.ifCond .ne 13, 3) := by decide +kernel
theorem dX6_empty_71 : decode cX6_empty 71 = .ok (.aload_n 0, 1) := by decide +kernel
theorem dX6_empty_72 : decode cX6_empty 72 = .ok (.getfield 42, 3) := by decide +kernel
theorem dX6_empty_75 : decode cX6_empty 75 = .ok (.getfield 65, 3) := by decide +kernel
theorem dX6_empty_78 : decode cX6_empty 78 = .ok (.goto 4, 3) := by decide +kernel
theorem dX6_empty_81 : decode cX6_empty 81 = .ok (.iconst (-1), 1) := by decide +kernel
theorem dX6_empty_82 : decode cX6_empty 82 = .ok (.ireturn, 1) := by decide +kernel
theorem dX6_runs_0 : decode cX6_runs 0 = .ok (.iload_n 1, 1) := by decide +kernel
theorem dX6_runs_1 : decode cX6_runs 1 = .ok (.iconst 1, 1) := by decide +kernel
theorem dX6_runs_2 : decode cX6_runs 2 = .ok (.bipush 40, 2) := by decide +kernel
theorem dX6_runs_4 : decode cX6_runs 4 = .ok (.invokestatic 69, 3) := by decide +kernel
theorem dX6_runs_7 : decode cX6_runs 7 = .ok (.ifCond .eq 23, 3) := by decide +kernel
theorem dX6_runs_10 : decode cX6_runs 10 = .ok (.iload_n 2, 1) := by decide +kernel
theorem dX6_runs_11 : decode cX6_runs 11 = .ok (.iconst 0, 1) := by decide +kernel
theorem dX6_runs_12 : decode cX6_runs 12 = .ok (.bipush 60, 2) := by decide +kernel
theorem dX6_runs_14 : decode cX6_runs 14 = .ok (.invokestatic 69, 3) := by decide +kernel
theorem dX6_runs_17 : decode cX6_runs 17 = .ok (.ifCond .eq 13, 3) := by decide +kernel
theorem dX6_runs_20 : decode cX6_runs 20 = .ok (.iload_n 3, 1) := by decide +kernel
theorem dX6_runs_21 : decode cX6_runs 21 = .ok (.iconst (-1), 1) := by decide +kernel
theorem dX6_runs_22 : decode cX6_runs 22 = .ok (.bipush 30, 2) := by decide +kernel
theorem dX6_runs_24 : decode cX6_runs 24 = .ok (.invokestatic 69, 3) := by decide +kernel
theorem dX6_runs_27 : decode cX6_runs 27 = .ok (.ifCond .ne 5, 3) := by decide +kernel
theorem dX6_runs_30 : decode cX6_runs 30 = .ok (.iconst (-1), 1) := by decide +kernel
theorem dX6_runs_31 : decode cX6_runs 31 = .ok (.ireturn, 1) := by decide +kernel
theorem dX6_runs_32 : decode cX6_runs 32 = .ok (.iconst 0, 1) := by decide +kernel
theorem dX6_runs_33 : decode cX6_runs 33 = .ok (.istore 4, 2) := by decide +kernel
theorem dX6_runs_35 : decode cX6_runs 35 = .ok (.iconst 0, 1) := by decide +kernel
theorem dX6_runs_36 : decode cX6_runs 36 = .ok (.istore 5, 2) := by decide +kernel
theorem dX6_runs_38 : decode cX6_runs 38 = .ok (.iconst 0, 1) := by decide +kernel
theorem dX6_runs_39 : decode cX6_runs 39 = .ok (.istore 6, 2) := by decide +kernel
theorem dX6_runs_41 : decode cX6_runs 41 = .ok (.iload 6, 2) := by decide +kernel
theorem dX6_runs_43 : decode cX6_runs 43 = .ok (.iload_n 1, 1) := by decide +kernel
theorem dX6_runs_44 : decode cX6_runs 44 = .ok (.if_icmp .ge 61, 3) := by decide +kernel
theorem dX6_runs_47 : decode cX6_runs 47 = .ok (.aload_n 0, 1) := by decide +kernel
theorem dX6_runs_48 : decode cX6_runs 48 = .ok (.aload_n 0, 1) := by decide +kernel
theorem dX6_runs_49 : decode cX6_runs 49 = .ok (.getfield 118, 3) := by decide +kernel
theorem dX6_runs_52 : decode cX6_runs 52 = .ok (.invokevirtual 213, 3) := by decide +kernel
theorem dX6_runs_55 : decode cX6_runs 55 = .ok (.aload_n 0, 1) := by decide +kernel
theorem dX6_runs_56 : decode cX6_runs 56 = .ok (.getfield 42, 3) := by decide +kernel
theorem dX6_runs_59 : decode cX6_runs 59 = .ok (.iload 6, 2) := by decide +kernel
theorem dX6_runs_61 : decode cX6_runs 61 = .ok (.i2l, 1) := by decide +kernel
theorem dX6_runs_62 : decode cX6_runs 62 = .ok (.putfield 103, 3) := by decide +kernel
theorem dX6_runs_65 : decode cX6_runs 65 = .ok (.aload_n 0, 1) := by decide +kernel
theorem dX6_runs_66 : decode cX6_runs 66 = .ok (.getfield 37, 3) := by decide +kernel
theorem dX6_runs_69 : decode cX6_runs 69 = .ok (.iload_n 2, 1) := by decide +kernel
theorem dX6_runs_70 : decode cX6_runs 70 = .ok (.invokevirtual 128, 3) := by decide +kernel
theorem dX6_runs_73 : decode cX6_runs 73 = .ok (.iload 4, 2) := by decide +kernel
theorem dX6_runs_75 : decode cX6_runs 75 = .ok (.aload_n 0, 1) := by decide +kernel
theorem dX6_runs_76 : decode cX6_runs 76 = .ok (.getfield 42, 3) := by decide +kernel
theorem dX6_runs_79 : decode cX6_runs 79 = .ok (.getfield 216, 3) := by decide +kernel
theorem dX6_runs_82 : decode cX6_runs 82 = .ok (.iadd, 1) := by decide +kernel
theorem dX6_runs_83 : decode cX6_runs 83 = .ok (.istore 4, 2) := by decide +kernel
theorem dX6_runs_85 : decode cX6_runs 85 = .ok (.aload_n 0, 1) := by decide +kernel
theorem dX6_runs_86 : decode cX6_runs 86 = .ok (.getfield 42, 3) := by decide +kernel
theorem dX6_runs_89 : decode cX6_runs 89 = .ok (.getfield 216, 3) := by decide +kernel
theorem dX6_runs_92 : decode cX6_runs 92 = .ok (.iload_n 3, 1) := by decide +kernel
theorem dX6_runs_93 : decode cX6_runs 93 = .ok (.if_icmp .ne 6, 3) := by decide +kernel
theorem dX6_runs_96 : decode cX6_runs 96 = .ok (.iinc 5 1, 3) := by decide +kernel
theorem dX6_runs_99 : decode cX6_runs 99 = .ok (.iinc 6 1, 3) := by decide +kernel
theorem dX6_runs_102 : decode cX6_runs 102 = .ok (.goto (-61), 3) := by decide +kernel
theorem dX6_runs_105 : decode cX6_runs 105 = .ok (.iload_n 3, 1) := by decide +kernel
theorem dX6_runs_106 : decode cX6_runs 106 = .ok (.iconst (-1), 1) := by decide +kernel
theorem dX6_runs_107 : decode cX6_runs 107 = .ok (.if_icmp .ne 8, 3) := by decide +kernel
theorem dX6_runs_110 : decode cX6_runs 110 = .ok (.iload 4, 2) := by decide +kernel
theorem dX6_runs_112 : decode cX6_runs 112 = .ok (.goto 5, 3) := by decide +kernel
theorem dX6_runs_115 : decode cX6_runs 115 = .ok (.iload 5, 2) := by decide +kernel
theorem dX6_runs_117 : decode cX6_runs 117 = .ok (.ireturn, 1) := by decide +kernel
theorem dX6_back_0 : decode cX6_back 0 = .ok (.iconst 0, 1) := by decide +kernel
theorem dX6_back_1 : decode cX6_back 1 = .ok (.istore_n 1, 1) := by decide +kernel
theorem dX6_back_2 : decode cX6_back 2 = .ok (.iconst 0, 1) := by decide +kernel
theorem dX6_back_3 : decode cX6_back 3 = .ok (.istore_n 2, 1) := by decide +kernel
theorem dX6_back_4 : decode cX6_back 4 = .ok (.iload_n 2, 1) := by decide +kernel
theorem dX6_back_5 : decode cX6_back 5 = .ok (.aload_n 0, 1) := by decide +kernel
theorem dX6_back_6 : decode cX6_back 6 = .ok (.getfield 10, 3) := by decide +kernel
theorem dX6_back_9 : decode cX6_back 9 = .ok (.getfield 219, 3) := by decide +kernel
theorem dX6_back_12 : decode cX6_back 12 = .ok (.if_icmp .ge 51, 3) := by decide +kernel
theorem dX6_back_15 : decode cX6_back 15 = .ok (.aload_n 0, 1) := by decide +kernel
theorem dX6_back_16 : decode cX6_back 16 = .ok (.getfield 10, 3) := by decide +kernel
theorem dX6_back_19 : decode cX6_back 19 = .ok (.getfield 144, 3) := by decide +kernel
theorem dX6_back_22 : decode cX6_back 22 = .ok (.iload_n 2, 1) := by decide +kernel
theorem dX6_back_23 : decode cX6_back 23 = .ok (.aaload, 1) := by decide +kernel
theorem dX6_back_24 : decode cX6_back 24 = .ok (.astore_n 3, 1) := by decide +kernel
theorem dX6_back_25 : decode cX6_back 25 = .ok (.aload_n 3, 1) := by decide +kernel
theorem dX6_back_26 : decode cX6_back 26 = .ok (.getfield 148, 3) := by decide +kernel
theorem dX6_back_29 : decode cX6_back 29 = .ok (.ifCond .ne 11, 3) := by decide +kernel
theorem dX6_back_32 : decode cX6_back 32 = .ok (.aload_n 0, 1) := by decide +kernel
theorem dX6_back_33 : decode cX6_back 33 = .ok (.aload_n 3, 1) := by decide +kernel
theorem dX6_back_34 : decode cX6_back 34 = .ok (.invokevirtual 174, 3) := by decide +kernel
theorem dX6_back_37 : decode cX6_back 37 = .ok (.goto 4, 3) := by decide +kernel
theorem dX6_back_40 : decode cX6_back 40 = .ok (.iconst 0, 1) := by decide +kernel
theorem dX6_back_41 : decode cX6_back 41 = .ok (.istore 4, 2) := by decide +kernel
theorem dX6_back_43 : decode cX6_back 43 = .ok (.iload 4, 2) := by decide +kernel
theorem dX6_back_45 : decode cX6_back 45 = .ok (.ifCond .le 12, 3) := by decide +kernel
theorem dX6_back_48 : decode cX6_back 48 = .ok (.iload_n 1, 1) := by decide +kernel
theorem dX6_back_49 : decode cX6_back 49 = .ok (.sipush 10000, 3) := by decide +kernel
theorem dX6_back_52 : decode cX6_back 52 = .ok (.iload 4, 2) := by decide +kernel
theorem dX6_back_54 : decode cX6_back 54 = .ok (.idiv, 1) := by decide +kernel
theorem dX6_back_55 : decode cX6_back 55 = .ok (.iadd, 1) := by decide +kernel
theorem dX6_back_56 : decode cX6_back 56 = .ok (.istore_n 1, 1) := by decide +kernel
theorem dX6_back_57 : decode cX6_back 57 = .ok (.iinc 2 1, 3) := by decide +kernel
theorem dX6_back_60 : decode cX6_back 60 = .ok (.goto (-56), 3) := by decide +kernel
theorem dX6_back_63 : decode cX6_back 63 = .ok (.iload_n 1, 1) := by decide +kernel
theorem dX6_back_64 : decode cX6_back 64 = .ok (.ireturn, 1) := by decide +kernel
theorem dX6_told_0 : decode cX6_told 0 = .ok (.iload_n 1, 1) := by decide +kernel
theorem dX6_told_1 : decode cX6_told 1 = .ok (.iconst 0, 1) := by decide +kernel
theorem dX6_told_2 : decode cX6_told 2 = .ok (.bipush 30, 2) := by decide +kernel
theorem dX6_told_4 : decode cX6_told 4 = .ok (.invokestatic 69, 3) := by decide +kernel
theorem dX6_told_7 : decode cX6_told 7 = .ok (.ifCond .eq 22, 3) := by decide +kernel
theorem dX6_told_10 : decode cX6_told 10 = .ok (.iload_n 2, 1) := by decide +kernel
theorem dX6_told_11 : decode cX6_told 11 = .ok (.iconst 0, 1) := by decide +kernel
theorem dX6_told_12 : decode cX6_told 12 = .ok (.bipush 100, 2) := by decide +kernel
theorem dX6_told_14 : decode cX6_told 14 = .ok (.invokestatic 69, 3) := by decide +kernel
theorem dX6_told_17 : decode cX6_told 17 = .ok (.ifCond .eq 12, 3) := by decide +kernel
theorem dX6_told_20 : decode cX6_told 20 = .ok (.aload_n 0, 1) := by decide +kernel
theorem dX6_told_21 : decode cX6_told 21 = .ok (.getfield 222, 3) := by decide +kernel
theorem dX6_told_24 : decode cX6_told 24 = .ok (.bipush 10, 2) := by decide +kernel
theorem dX6_told_26 : decode cX6_told 26 = .ok (.if_icmp .lt 5, 3) := by decide +kernel
theorem dX6_told_29 : decode cX6_told 29 = .ok (.iconst (-1), 1) := by decide +kernel
theorem dX6_told_30 : decode cX6_told 30 = .ok (.ireturn, 1) := by decide +kernel
theorem dX6_told_31 : decode cX6_told 31 = .ok (.aload_n 0, 1) := by decide +kernel
theorem dX6_told_32 : decode cX6_told 32 = .ok (.getfield 58, 3) := by decide +kernel
theorem dX6_told_35 : decode cX6_told 35 = .ok (.aload_n 0, 1) := by decide +kernel
theorem dX6_told_36 : decode cX6_told 36 = .ok (.getfield 222, 3) := by decide +kernel
theorem dX6_told_39 : decode cX6_told 39 = .ok (.iload_n 1, 1) := by decide +kernel
theorem dX6_told_40 : decode cX6_told 40 = .ok (.iastore, 1) := by decide +kernel
theorem dX6_told_41 : decode cX6_told 41 = .ok (.aload_n 0, 1) := by decide +kernel
theorem dX6_told_42 : decode cX6_told 42 = .ok (.getfield 62, 3) := by decide +kernel
theorem dX6_told_45 : decode cX6_told 45 = .ok (.aload_n 0, 1) := by decide +kernel
theorem dX6_told_46 : decode cX6_told 46 = .ok (.getfield 222, 3) := by decide +kernel
theorem dX6_told_49 : decode cX6_told 49 = .ok (.iload_n 2, 1) := by decide +kernel
theorem dX6_told_50 : decode cX6_told 50 = .ok (.iastore, 1) := by decide +kernel
theorem dX6_told_51 : decode cX6_told 51 = .ok (.aload_n 0, 1) := by decide +kernel
theorem dX6_told_52 : decode cX6_told 52 = .ok (.dup, 1) := by decide +kernel
theorem dX6_told_53 : decode cX6_told 53 = .ok (.getfield 222, 3) := by decide +kernel
theorem dX6_told_56 : decode cX6_told 56 = .ok (.iconst 1, 1) := by decide +kernel
theorem dX6_told_57 : decode cX6_told 57 = .ok (.iadd, 1) := by decide +kernel
theorem dX6_told_58 : decode cX6_told 58 = .ok (.putfield 222, 3) := by decide +kernel
theorem dX6_told_61 : decode cX6_told 61 = .ok (.aload_n 0, 1) := by decide +kernel
theorem dX6_told_62 : decode cX6_told 62 = .ok (.getfield 222, 3) := by decide +kernel
theorem dX6_told_65 : decode cX6_told 65 = .ok (.iconst 1, 1) := by decide +kernel
theorem dX6_told_66 : decode cX6_told 66 = .ok (.isub, 1) := by decide +kernel
theorem dX6_told_67 : decode cX6_told 67 = .ok (.ireturn, 1) := by decide +kernel
theorem dX6_forget_0 : decode cX6_forget 0 = .ok (.aload_n 0, 1) := by decide +kernel
theorem dX6_forget_1 : decode cX6_forget 1 = .ok (.getfield 222, 3) := by decide +kernel
theorem dX6_forget_4 : decode cX6_forget 4 = .ok (.istore_n 1, 1) := by decide +kernel
theorem dX6_forget_5 : decode cX6_forget 5 = .ok (.aload_n 0, 1) := by decide +kernel
theorem dX6_forget_6 : decode cX6_forget 6 = .ok (.iconst 0, 1) := by decide +kernel
theorem dX6_forget_7 : decode cX6_forget 7 = .ok (.putfield 222, 3) := by decide +kernel
theorem dX6_forget_10 : decode cX6_forget 10 = .ok (.iload_n 1, 1) := by decide +kernel
theorem dX6_forget_11 : decode cX6_forget 11 = .ok (.ireturn, 1) := by decide +kernel
theorem dX6_fits_0 : decode cX6_fits 0 = .ok (.aload_n 0, 1) := by decide +kernel
theorem dX6_fits_1 : decode cX6_fits 1 = .ok (.iload_n 1, 1) := by decide +kernel
theorem dX6_fits_2 : decode cX6_fits 2 = .ok (.invokevirtual 121, 3) := by decide +kernel
theorem dX6_fits_5 : decode cX6_fits 5 = .ok (.ifCond .ne 5, 3) := by decide +kernel
theorem dX6_fits_8 : decode cX6_fits 8 = .ok (.iconst (-1), 1) := by decide +kernel
theorem dX6_fits_9 : decode cX6_fits 9 = .ok (.ireturn, 1) := by decide +kernel
theorem dX6_fits_10 : decode cX6_fits 10 = .ok (.aload_n 0, 1) := by decide +kernel
theorem dX6_fits_11 : decode cX6_fits 11 = .ok (.iload_n 1, 1) := by decide +kernel
theorem dX6_fits_12 : decode cX6_fits 12 = .ok (.invokevirtual 225, 3) := by decide +kernel
theorem dX6_fits_15 : decode cX6_fits 15 = .ok (.ifCond .eq 7, 3) := by decide +kernel
theorem dX6_fits_18 : decode cX6_fits 18 = .ok (.iconst 1, 1) := by decide +kernel
theorem dX6_fits_19 : decode cX6_fits 19 = .ok (.goto 4, 3) := by decide +kernel
theorem dX6_fits_22 : decode cX6_fits 22 = .ok (.iconst 0, 1) := by decide +kernel
theorem dX6_fits_23 : decode cX6_fits 23 = .ok (.ireturn, 1) := by decide +kernel
theorem dX6_barred_0 : decode cX6_barred 0 = .ok (.iload_n 1, 1) := by decide +kernel
theorem dX6_barred_1 : decode cX6_barred 1 = .ok (.iconst 0, 1) := by decide +kernel
theorem dX6_barred_2 : decode cX6_barred 2 = .ok (.aload_n 0, 1) := by decide +kernel
theorem dX6_barred_3 : decode cX6_barred 3 = .ok (.getfield 49, 3) := by decide +kernel
theorem dX6_barred_6 : decode cX6_barred 6 = .ok (.getfield 228, 3) := by decide +kernel
theorem dX6_barred_9 : decode cX6_barred 9 = .ok (.iconst 1, 1) := by decide +kernel
theorem dX6_barred_10 : decode cX6_barred 10 = .ok (.isub, 1) := by decide +kernel
theorem dX6_barred_11 : decode cX6_barred 11 = .ok (.invokestatic 69, 3) := by decide +kernel
theorem dX6_barred_14 : decode cX6_barred 14 = .ok (.ifCond .eq 12, 3) := by decide +kernel
theorem dX6_barred_17 : decode cX6_barred 17 = .ok (.iload_n 2, 1) := by decide +kernel
theorem dX6_barred_18 : decode cX6_barred 18 = .ok (.iconst 0, 1) := by decide +kernel
theorem dX6_barred_19 : decode cX6_barred 19 = .ok (.iconst 1, 1) := by decide +kernel
theorem dX6_barred_20 : decode cX6_barred 20 = .ok (.invokestatic 69, 3) := by decide +kernel
theorem dX6_barred_23 : decode cX6_barred 23 = .ok (.ifCond .ne 5, 3) := by decide +kernel
theorem dX6_barred_26 : decode cX6_barred 26 = .ok (.iconst (-1), 1) := by decide +kernel
theorem dX6_barred_27 : decode cX6_barred 27 = .ok (.ireturn, 1) := by decide +kernel
theorem dX6_barred_28 : decode cX6_barred 28 = .ok (.aload_n 0, 1) := by decide +kernel
theorem dX6_barred_29 : decode cX6_barred 29 = .ok (.getfield 49, 3) := by decide +kernel
theorem dX6_barred_32 : decode cX6_barred 32 = .ok (.invokevirtual 209, 3) := by decide +kernel
theorem dX6_barred_35 : decode cX6_barred 35 = .ok (.istore_n 3, 1) := by decide +kernel
theorem dX6_barred_36 : decode cX6_barred 36 = .ok (.iconst 0, 1) := by decide +kernel
theorem dX6_barred_37 : decode cX6_barred 37 = .ok (.istore 4, 2) := by decide +kernel
theorem dX6_barred_39 : decode cX6_barred 39 = .ok (.iload 4, 2) := by decide +kernel
theorem dX6_barred_41 : decode cX6_barred 41 = .ok (.iload_n 3, 1) := by decide +kernel
theorem dX6_barred_42 : decode cX6_barred 42 = .ok (.if_icmp .ge 30, 3) := by decide +kernel
theorem dX6_barred_45 : decode cX6_barred 45 = .ok (.iload 4, 2) := by decide +kernel
theorem dX6_barred_47 : decode cX6_barred 47 = .ok (.iload_n 1, 1) := by decide +kernel
theorem dX6_barred_48 : decode cX6_barred 48 = .ok (.ishr, 1) := by decide +kernel
theorem dX6_barred_49 : decode cX6_barred 49 = .ok (.iconst 1, 1) := by decide +kernel
theorem dX6_barred_50 : decode cX6_barred 50 = .ok (.iand, 1) := by decide +kernel
theorem dX6_barred_51 : decode cX6_barred 51 = .ok (.iload_n 2, 1) := by decide +kernel
theorem dX6_barred_52 : decode cX6_barred 52 = .ok (.if_icmp .ne 14, 3) := by decide +kernel
theorem dX6_barred_55 : decode cX6_barred 55 = .ok (.aload_n 0, 1) := by decide +kernel
theorem dX6_barred_56 : decode cX6_barred 56 = .ok (.iload 4, 2) := by decide +kernel
theorem dX6_barred_58 : decode cX6_barred 58 = .ok (.invokevirtual 225, 3) := by decide +kernel
theorem dX6_barred_61 : decode cX6_barred 61 = .ok (.ifCond .eq 5, 3) := by decide +kernel
theorem dX6_barred_64 : decode cX6_barred 64 = .ok (.iconst 0, 1) := by decide +kernel
theorem dX6_barred_65 : decode cX6_barred 65 = .ok (.ireturn, 1) := by decide +kernel
theorem dX6_barred_66 : decode cX6_barred 66 = .ok (.iinc 4 1, 3) := by decide +kernel
theorem dX6_barred_69 : decode cX6_barred 69 = .ok (.goto (-30), 3) := by decide +kernel
theorem dX6_barred_72 : decode cX6_barred 72 = .ok (.iconst 1, 1) := by decide +kernel
theorem dX6_barred_73 : decode cX6_barred 73 = .ok (.ireturn, 1) := by decide +kernel
theorem dX6_mark_0 : decode cX6_mark 0 = .ok (.iload_n 1, 1) := by decide +kernel
theorem dX6_mark_1 : decode cX6_mark 1 = .ok (.iconst 0, 1) := by decide +kernel
theorem dX6_mark_2 : decode cX6_mark 2 = .ok (.iconst 5, 1) := by decide +kernel
theorem dX6_mark_3 : decode cX6_mark 3 = .ok (.invokestatic 69, 3) := by decide +kernel
theorem dX6_mark_6 : decode cX6_mark 6 = .ok (.ifCond .ne 5, 3) := by decide +kernel
theorem dX6_mark_9 : decode cX6_mark 9 = .ok (.iconst 0, 1) := by decide +kernel
theorem dX6_mark_10 : decode cX6_mark 10 = .ok (.ireturn, 1) := by decide +kernel
theorem dX6_mark_11 : decode cX6_mark 11 = .ok (.aload_n 0, 1) := by decide +kernel
theorem dX6_mark_12 : decode cX6_mark 12 = .ok (.getfield 16, 3) := by decide +kernel
theorem dX6_mark_15 : decode cX6_mark 15 = .ok (.iload_n 1, 1) := by decide +kernel
theorem dX6_mark_16 : decode cX6_mark 16 = .ok (.aaload, 1) := by decide +kernel
theorem dX6_mark_17 : decode cX6_mark 17 = .ok (.astore_n 3, 1) := by decide +kernel
theorem dX6_mark_18 : decode cX6_mark 18 = .ok (.iload_n 2, 1) := by decide +kernel
theorem dX6_mark_19 : decode cX6_mark 19 = .ok (.ifCond .eq 19, 3) := by decide +kernel
theorem dX6_mark_22 : decode cX6_mark 22 = .ok (.aload_n 3, 1) := by decide +kernel
theorem dX6_mark_23 : decode cX6_mark 23 = .ok (.ifnonnull 5, 3) := by decide +kernel
theorem dX6_mark_26 : decode cX6_mark 26 = .ok (.iconst 0, 1) := by decide +kernel
theorem dX6_mark_27 : decode cX6_mark 27 = .ok (.ireturn, 1) := by decide +kernel
theorem dX6_mark_28 : decode cX6_mark 28 = .ok (.aload_n 0, 1) := by decide +kernel
theorem dX6_mark_29 : decode cX6_mark 29 = .ok (.getfield 10, 3) := by decide +kernel
theorem dX6_mark_32 : decode cX6_mark 32 = .ok (.aload_n 3, 1) := by decide +kernel
theorem dX6_mark_33 : decode cX6_mark 33 = .ok (.invokevirtual 231, 3) := by decide +kernel
theorem dX6_mark_36 : decode cX6_mark 36 = .ok (.iconst 1, 1) := by decide +kernel
theorem dX6_mark_37 : decode cX6_mark 37 = .ok (.ireturn, 1) := by decide +kernel
theorem dX6_mark_38 : decode cX6_mark 38 = .ok (.aload_n 3, 1) := by decide +kernel
theorem dX6_mark_39 : decode cX6_mark 39 = .ok (.ifnonnull 18, 3) := by decide +kernel
theorem dX6_mark_42 : decode cX6_mark 42 = .ok (.new 7, 3) := by decide +kernel
theorem dX6_mark_45 : decode cX6_mark 45 = .ok (.dup, 1) := by decide +kernel
theorem dX6_mark_46 : decode cX6_mark 46 = .ok (.invokespecial 9, 3) := by decide +kernel
theorem dX6_mark_49 : decode cX6_mark 49 = .ok (.astore_n 3, 1) := by decide +kernel
theorem dX6_mark_50 : decode cX6_mark 50 = .ok (.aload_n 0, 1) := by decide +kernel
theorem dX6_mark_51 : decode cX6_mark 51 = .ok (.getfield 16, 3) := by decide +kernel
theorem dX6_mark_54 : decode cX6_mark 54 = .ok (.iload_n 1, 1) := by decide +kernel
theorem dX6_mark_55 : decode cX6_mark 55 = .ok (.aload_n 3, 1) := by decide +kernel
theorem dX6_mark_56 : decode cX6_mark 56 = .ok (.aastore, 1) := by decide +kernel
theorem dX6_mark_57 : decode cX6_mark 57 = .ok (.aload_n 3, 1) := by decide +kernel
theorem dX6_mark_58 : decode cX6_mark 58 = .ok (.aload_n 0, 1) := by decide +kernel
theorem dX6_mark_59 : decode cX6_mark 59 = .ok (.getfield 10, 3) := by decide +kernel
theorem dX6_mark_62 : decode cX6_mark 62 = .ok (.invokevirtual 231, 3) := by decide +kernel
theorem dX6_mark_65 : decode cX6_mark 65 = .ok (.iconst 1, 1) := by decide +kernel
theorem dX6_mark_66 : decode cX6_mark 66 = .ok (.ireturn, 1) := by decide +kernel
theorem dX6_count_0 : decode cX6_count 0 = .ok (.iload_n 1, 1) := by decide +kernel
theorem dX6_count_1 : decode cX6_count 1 = .ok (.tableswitch 141 0 10 #[59, 67, 75, 83, 91, 99, 107, 112, 120, 125, 133], 59) := by decide +kernel
theorem dX6_count_60 : decode cX6_count 60 = .ok (.aload_n 0, 1) := by decide +kernel
theorem dX6_count_61 : decode cX6_count 61 = .ok (.getfield 10, 3) := by decide +kernel
theorem dX6_count_64 : decode cX6_count 64 = .ok (.getfield 65, 3) := by decide +kernel
theorem dX6_count_67 : decode cX6_count 67 = .ok (.ireturn, 1) := by decide +kernel
theorem dX6_count_68 : decode cX6_count 68 = .ok (.aload_n 0, 1) := by decide +kernel
theorem dX6_count_69 : decode cX6_count 69 = .ok (.getfield 10, 3) := by decide +kernel
theorem dX6_count_72 : decode cX6_count 72 = .ok (.getfield 161, 3) := by decide +kernel
theorem dX6_count_75 : decode cX6_count 75 = .ok (.ireturn, 1) := by decide +kernel
theorem dX6_count_76 : decode cX6_count 76 = .ok (.aload_n 0, 1) := by decide +kernel
theorem dX6_count_77 : decode cX6_count 77 = .ok (.getfield 10, 3) := by decide +kernel
theorem dX6_count_80 : decode cX6_count 80 = .ok (.getfield 219, 3) := by decide +kernel
theorem dX6_count_83 : decode cX6_count 83 = .ok (.ireturn, 1) := by decide +kernel
theorem dX6_count_84 : decode cX6_count 84 = .ok (.aload_n 0, 1) := by decide +kernel
theorem dX6_count_85 : decode cX6_count 85 = .ok (.getfield 10, 3) := by decide +kernel
theorem dX6_count_88 : decode cX6_count 88 = .ok (.getfield 216, 3) := by decide +kernel
theorem dX6_count_91 : decode cX6_count 91 = .ok (.ireturn, 1) := by decide +kernel
theorem dX6_count_92 : decode cX6_count 92 = .ok (.aload_n 0, 1) := by decide +kernel
theorem dX6_count_93 : decode cX6_count 93 = .ok (.getfield 49, 3) := by decide +kernel
theorem dX6_count_96 : decode cX6_count 96 = .ok (.getfield 235, 3) := by decide +kernel
theorem dX6_count_99 : decode cX6_count 99 = .ok (.ireturn, 1) := by decide +kernel
theorem dX6_count_100 : decode cX6_count 100 = .ok (.aload_n 0, 1) := by decide +kernel
theorem dX6_count_101 : decode cX6_count 101 = .ok (.getfield 49, 3) := by decide +kernel
theorem dX6_count_104 : decode cX6_count 104 = .ok (.getfield 228, 3) := by decide +kernel
theorem dX6_count_107 : decode cX6_count 107 = .ok (.ireturn, 1) := by decide +kernel
theorem dX6_count_108 : decode cX6_count 108 = .ok (.aload_n 0, 1) := by decide +kernel
theorem dX6_count_109 : decode cX6_count 109 = .ok (.getfield 118, 3) := by decide +kernel
theorem dX6_count_112 : decode cX6_count 112 = .ok (.ireturn, 1) := by decide +kernel
theorem dX6_count_113 : decode cX6_count 113 = .ok (.aload_n 0, 1) := by decide +kernel
theorem dX6_count_114 : decode cX6_count 114 = .ok (.getfield 23, 3) := by decide +kernel
theorem dX6_count_117 : decode cX6_count 117 = .ok (.getfield 111, 3) := by decide +kernel
theorem dX6_count_120 : decode cX6_count 120 = .ok (.ireturn, 1) := by decide +kernel
theorem dX6_count_121 : decode cX6_count 121 = .ok (.aload_n 0, 1) := by decide +kernel
theorem dX6_count_122 : decode cX6_count 122 = .ok (.getfield 222, 3) := by decide +kernel
theorem dX6_count_125 : decode cX6_count 125 = .ok (.ireturn, 1) := by decide +kernel
theorem dX6_count_126 : decode cX6_count 126 = .ok (.aload_n 0, 1) := by decide +kernel
theorem dX6_count_127 : decode cX6_count 127 = .ok (.getfield 10, 3) := by decide +kernel
theorem dX6_count_130 : decode cX6_count 130 = .ok (.invokevirtual 238, 3) := by decide +kernel
theorem dX6_count_133 : decode cX6_count 133 = .ok (.ireturn, 1) := by decide +kernel
theorem dX6_count_134 : decode cX6_count 134 = .ok (.aload_n 0, 1) := by decide +kernel
theorem dX6_count_135 : decode cX6_count 135 = .ok (.getfield 10, 3) := by decide +kernel
theorem dX6_count_138 : decode cX6_count 138 = .ok (.invokevirtual 241, 3) := by decide +kernel
theorem dX6_count_141 : decode cX6_count 141 = .ok (.ireturn, 1) := by decide +kernel
theorem dX6_count_142 : decode cX6_count 142 = .ok (.iconst (-1), 1) := by decide +kernel
theorem dX6_count_143 : decode cX6_count 143 = .ok (.ireturn, 1) := by decide +kernel
theorem dX6_isWithin_0 : decode cX6_isWithin 0 = .ok (.iload_n 1, 1) := by decide +kernel
theorem dX6_isWithin_1 : decode cX6_isWithin 1 = .ok (.iload_n 0, 1) := by decide +kernel
theorem dX6_isWithin_2 : decode cX6_isWithin 2 = .ok (.if_icmp .gt 12, 3) := by decide +kernel
theorem dX6_isWithin_5 : decode cX6_isWithin 5 = .ok (.iload_n 0, 1) := by decide +kernel
theorem dX6_isWithin_6 : decode cX6_isWithin 6 = .ok (.iload_n 2, 1) := by decide +kernel
theorem dX6_isWithin_7 : decode cX6_isWithin 7 = .ok (.if_icmp .gt 7, 3) := by decide +kernel
theorem dX6_isWithin_10 : decode cX6_isWithin 10 = .ok (.iconst 1, 1) := by decide +kernel
theorem dX6_isWithin_11 : decode cX6_isWithin 11 = .ok (.goto 4, 3) := by decide +kernel
theorem dX6_isWithin_14 : decode cX6_isWithin 14 = .ok (.iconst 0, 1) := by decide +kernel
theorem dX6_isWithin_15 : decode cX6_isWithin 15 = .ok (.ireturn, 1) := by decide +kernel
theorem dX6_isEnd_0 : decode cX6_isEnd 0 = .ok (.iload_n 1, 1) := by decide +kernel
theorem dX6_isEnd_1 : decode cX6_isEnd 1 = .ok (.iconst 0, 1) := by decide +kernel
theorem dX6_isEnd_2 : decode cX6_isEnd 2 = .ok (.aload_n 0, 1) := by decide +kernel
theorem dX6_isEnd_3 : decode cX6_isEnd 3 = .ok (.getfield 49, 3) := by decide +kernel
theorem dX6_isEnd_6 : decode cX6_isEnd 6 = .ok (.invokevirtual 209, 3) := by decide +kernel
theorem dX6_isEnd_9 : decode cX6_isEnd 9 = .ok (.iconst 1, 1) := by decide +kernel
theorem dX6_isEnd_10 : decode cX6_isEnd 10 = .ok (.isub, 1) := by decide +kernel
theorem dX6_isEnd_11 : decode cX6_isEnd 11 = .ok (.invokestatic 69, 3) := by decide +kernel
theorem dX6_isEnd_14 : decode cX6_isEnd 14 = .ok (.ireturn, 1) := by decide +kernel
theorem dX6_isQuestion_0 : decode cX6_isQuestion 0 = .ok (.iload_n 1, 1) := by decide +kernel
theorem dX6_isQuestion_1 : decode cX6_isQuestion 1 = .ok (.iconst 0, 1) := by decide +kernel
theorem dX6_isQuestion_2 : decode cX6_isQuestion 2 = .ok (.bipush 100, 2) := by decide +kernel
theorem dX6_isQuestion_4 : decode cX6_isQuestion 4 = .ok (.invokestatic 69, 3) := by decide +kernel
theorem dX6_isQuestion_7 : decode cX6_isQuestion 7 = .ok (.ifCond .ne 5, 3) := by decide +kernel
theorem dX6_isQuestion_10 : decode cX6_isQuestion 10 = .ok (.iconst 0, 1) := by decide +kernel
theorem dX6_isQuestion_11 : decode cX6_isQuestion 11 = .ok (.ireturn, 1) := by decide +kernel
theorem dX6_isQuestion_12 : decode cX6_isQuestion 12 = .ok (.iload_n 2, 1) := by decide +kernel
theorem dX6_isQuestion_13 : decode cX6_isQuestion 13 = .ok (.tableswitch 52 0 4 #[35, 35, 44, 35, 44], 35) := by decide +kernel
theorem dX6_isQuestion_48 : decode cX6_isQuestion 48 = .ok (.aload_n 0, 1) := by decide +kernel
theorem dX6_isQuestion_49 : decode cX6_isQuestion 49 = .ok (.getfield 10, 3) := by decide +kernel
theorem dX6_isQuestion_52 : decode cX6_isQuestion 52 = .ok (.iload_n 3, 1) := by decide +kernel
theorem dX6_isQuestion_53 : decode cX6_isQuestion 53 = .ok (.invokevirtual 77, 3) := by decide +kernel
theorem dX6_isQuestion_56 : decode cX6_isQuestion 56 = .ok (.ireturn, 1) := by decide +kernel
theorem dX6_isQuestion_57 : decode cX6_isQuestion 57 = .ok (.iload_n 3, 1) := by decide +kernel
theorem dX6_isQuestion_58 : decode cX6_isQuestion 58 = .ok (.iconst 0, 1) := by decide +kernel
theorem dX6_isQuestion_59 : decode cX6_isQuestion 59 = .ok (.ldc 244, 2) := by decide +kernel
theorem dX6_isQuestion_61 : decode cX6_isQuestion 61 = .ok (.invokestatic 69, 3) := by decide +kernel
theorem dX6_isQuestion_64 : decode cX6_isQuestion 64 = .ok (.ireturn, 1) := by decide +kernel
theorem dX6_isQuestion_65 : decode cX6_isQuestion 65 = .ok (.iconst 0, 1) := by decide +kernel
theorem dX6_isQuestion_66 : decode cX6_isQuestion 66 = .ok (.ireturn, 1) := by decide +kernel
theorem dX6_beginTry_0 : decode cX6_beginTry 0 = .ok (.aload_n 0, 1) := by decide +kernel
theorem dX6_beginTry_1 : decode cX6_beginTry 1 = .ok (.getfield 42, 3) := by decide +kernel
theorem dX6_beginTry_4 : decode cX6_beginTry 4 = .ok (.aload_n 0, 1) := by decide +kernel
theorem dX6_beginTry_5 : decode cX6_beginTry 5 = .ok (.getfield 10, 3) := by decide +kernel
theorem dX6_beginTry_8 : decode cX6_beginTry 8 = .ok (.invokevirtual 231, 3) := by decide +kernel
theorem dX6_beginTry_11 : decode cX6_beginTry 11 = .ok (.aload_n 0, 1) := by decide +kernel
theorem dX6_beginTry_12 : decode cX6_beginTry 12 = .ok (.getfield 37, 3) := by decide +kernel
theorem dX6_beginTry_15 : decode cX6_beginTry 15 = .ok (.aload_n 0, 1) := by decide +kernel
theorem dX6_beginTry_16 : decode cX6_beginTry 16 = .ok (.getfield 42, 3) := by decide +kernel
theorem dX6_beginTry_19 : decode cX6_beginTry 19 = .ok (.iload_n 1, 1) := by decide +kernel
theorem dX6_beginTry_20 : decode cX6_beginTry 20 = .ok (.invokevirtual 124, 3) := by decide +kernel
theorem dX6_beginTry_23 : decode cX6_beginTry 23 = .ok (.return_, 1) := by decide +kernel
theorem dX6_isSoBehind_0 : decode cX6_isSoBehind 0 = .ok (.aload_n 0, 1) := by decide +kernel
theorem dX6_isSoBehind_1 : decode cX6_isSoBehind 1 = .ok (.iload_n 1, 1) := by decide +kernel
theorem dX6_isSoBehind_2 : decode cX6_isSoBehind 2 = .ok (.invokevirtual 213, 3) := by decide +kernel
theorem dX6_isSoBehind_5 : decode cX6_isSoBehind 5 = .ok (.aload_n 0, 1) := by decide +kernel
theorem dX6_isSoBehind_6 : decode cX6_isSoBehind 6 = .ok (.getfield 37, 3) := by decide +kernel
theorem dX6_isSoBehind_9 : decode cX6_isSoBehind 9 = .ok (.iload_n 2, 1) := by decide +kernel
theorem dX6_isSoBehind_10 : decode cX6_isSoBehind 10 = .ok (.invokevirtual 128, 3) := by decide +kernel
theorem dX6_isSoBehind_13 : decode cX6_isSoBehind 13 = .ok (.iload_n 3, 1) := by decide +kernel
theorem dX6_isSoBehind_14 : decode cX6_isSoBehind 14 = .ok (.tableswitch 86 0 3 #[30, 48, 58, 76], 30) := by decide +kernel
theorem dX6_isSoBehind_44 : decode cX6_isSoBehind 44 = .ok (.aload_n 0, 1) := by decide +kernel
theorem dX6_isSoBehind_45 : decode cX6_isSoBehind 45 = .ok (.getfield 42, 3) := by decide +kernel
theorem dX6_isSoBehind_48 : decode cX6_isSoBehind 48 = .ok (.iload 4, 2) := by decide +kernel
theorem dX6_isSoBehind_50 : decode cX6_isSoBehind 50 = .ok (.invokevirtual 134, 3) := by decide +kernel
theorem dX6_isSoBehind_53 : decode cX6_isSoBehind 53 = .ok (.ifCond .ne 7, 3) := by decide +kernel
theorem dX6_isSoBehind_56 : decode cX6_isSoBehind 56 = .ok (.iconst 1, 1) := by decide +kernel
theorem dX6_isSoBehind_57 : decode cX6_isSoBehind 57 = .ok (.goto 4, 3) := by decide +kernel
theorem dX6_isSoBehind_60 : decode cX6_isSoBehind 60 = .ok (.iconst 0, 1) := by decide +kernel
theorem dX6_isSoBehind_61 : decode cX6_isSoBehind 61 = .ok (.ireturn, 1) := by decide +kernel
theorem dX6_isSoBehind_62 : decode cX6_isSoBehind 62 = .ok (.aload_n 0, 1) := by decide +kernel
theorem dX6_isSoBehind_63 : decode cX6_isSoBehind 63 = .ok (.getfield 42, 3) := by decide +kernel
theorem dX6_isSoBehind_66 : decode cX6_isSoBehind 66 = .ok (.iload 4, 2) := by decide +kernel
theorem dX6_isSoBehind_68 : decode cX6_isSoBehind 68 = .ok (.invokevirtual 245, 3) := by decide +kernel
theorem dX6_isSoBehind_71 : decode cX6_isSoBehind 71 = .ok (.ireturn, 1) := by decide +kernel
theorem dX6_isSoBehind_72 : decode cX6_isSoBehind 72 = .ok (.aload_n 0, 1) := by decide +kernel
theorem dX6_isSoBehind_73 : decode cX6_isSoBehind 73 = .ok (.getfield 42, 3) := by decide +kernel
theorem dX6_isSoBehind_76 : decode cX6_isSoBehind 76 = .ok (.getfield 216, 3) := by decide +kernel
theorem dX6_isSoBehind_79 : decode cX6_isSoBehind 79 = .ok (.iload 4, 2) := by decide +kernel
theorem dX6_isSoBehind_81 : decode cX6_isSoBehind 81 = .ok (.if_icmp .lt 7, 3) := by decide +kernel
theorem dX6_isSoBehind_84 : decode cX6_isSoBehind 84 = .ok (.iconst 1, 1) := by decide +kernel
theorem dX6_isSoBehind_85 : decode cX6_isSoBehind 85 = .ok (.goto 4, 3) := by decide +kernel
theorem dX6_isSoBehind_88 : decode cX6_isSoBehind 88 = .ok (.iconst 0, 1) := by decide +kernel
theorem dX6_isSoBehind_89 : decode cX6_isSoBehind 89 = .ok (.ireturn, 1) := by decide +kernel
theorem dX6_isSoBehind_90 : decode cX6_isSoBehind 90 = .ok (.aload_n 0, 1) := by decide +kernel
theorem dX6_isSoBehind_91 : decode cX6_isSoBehind 91 = .ok (.getfield 42, 3) := by decide +kernel
theorem dX6_isSoBehind_94 : decode cX6_isSoBehind 94 = .ok (.iload 4, 2) := by decide +kernel
theorem dX6_isSoBehind_96 : decode cX6_isSoBehind 96 = .ok (.invokevirtual 248, 3) := by decide +kernel
theorem dX6_isSoBehind_99 : decode cX6_isSoBehind 99 = .ok (.ireturn, 1) := by decide +kernel
theorem dX6_isSoBehind_100 : decode cX6_isSoBehind 100 = .ok (.aload_n 0, 1) := by decide +kernel
theorem dX6_isSoBehind_101 : decode cX6_isSoBehind 101 = .ok (.getfield 42, 3) := by decide +kernel
theorem dX6_isSoBehind_104 : decode cX6_isSoBehind 104 = .ok (.getfield 194, 3) := by decide +kernel
theorem dX6_isSoBehind_107 : decode cX6_isSoBehind 107 = .ok (.iload 4, 2) := by decide +kernel
theorem dX6_isSoBehind_109 : decode cX6_isSoBehind 109 = .ok (.if_icmp .lt 7, 3) := by decide +kernel
theorem dX6_isSoBehind_112 : decode cX6_isSoBehind 112 = .ok (.iconst 1, 1) := by decide +kernel
theorem dX6_isSoBehind_113 : decode cX6_isSoBehind 113 = .ok (.goto 4, 3) := by decide +kernel
theorem dX6_isSoBehind_116 : decode cX6_isSoBehind 116 = .ok (.iconst 0, 1) := by decide +kernel
theorem dX6_isSoBehind_117 : decode cX6_isSoBehind 117 = .ok (.ireturn, 1) := by decide +kernel
theorem dX6_seenOf_0 : decode cX6_seenOf 0 = .ok (.aload_n 0, 1) := by decide +kernel
theorem dX6_seenOf_1 : decode cX6_seenOf 1 = .ok (.getfield 37, 3) := by decide +kernel
theorem dX6_seenOf_4 : decode cX6_seenOf 4 = .ok (.aload_n 0, 1) := by decide +kernel
theorem dX6_seenOf_5 : decode cX6_seenOf 5 = .ok (.getfield 10, 3) := by decide +kernel
theorem dX6_seenOf_8 : decode cX6_seenOf 8 = .ok (.aload_n 0, 1) := by decide +kernel
theorem dX6_seenOf_9 : decode cX6_seenOf 9 = .ok (.getfield 118, 3) := by decide +kernel
theorem dX6_seenOf_12 : decode cX6_seenOf 12 = .ok (.invokevirtual 124, 3) := by decide +kernel
theorem dX6_seenOf_15 : decode cX6_seenOf 15 = .ok (.aload_n 0, 1) := by decide +kernel
theorem dX6_seenOf_16 : decode cX6_seenOf 16 = .ok (.getfield 37, 3) := by decide +kernel
theorem dX6_seenOf_19 : decode cX6_seenOf 19 = .ok (.bipush 8, 2) := by decide +kernel
theorem dX6_seenOf_21 : decode cX6_seenOf 21 = .ok (.aload_n 1, 1) := by decide +kernel
theorem dX6_seenOf_22 : decode cX6_seenOf 22 = .ok (.invokevirtual 251, 3) := by decide +kernel
theorem dX6_seenOf_25 : decode cX6_seenOf 25 = .ok (.istore_n 2, 1) := by decide +kernel
theorem dX6_seenOf_26 : decode cX6_seenOf 26 = .ok (.iload_n 2, 1) := by decide +kernel
theorem dX6_seenOf_27 : decode cX6_seenOf 27 = .ok (.iconst (-1), 1) := by decide +kernel
theorem dX6_seenOf_28 : decode cX6_seenOf 28 = .ok (.if_icmp .ne 7, 3) := by decide +kernel
theorem dX6_seenOf_31 : decode cX6_seenOf 31 = .ok (.iconst 0, 1) := by decide +kernel
theorem dX6_seenOf_32 : decode cX6_seenOf 32 = .ok (.goto 4, 3) := by decide +kernel
theorem dX6_seenOf_35 : decode cX6_seenOf 35 = .ok (.iload_n 2, 1) := by decide +kernel
theorem dX6_seenOf_36 : decode cX6_seenOf 36 = .ok (.ireturn, 1) := by decide +kernel
theorem dX6_isFit_0 : decode cX6_isFit 0 = .ok (.iconst 0, 1) := by decide +kernel
theorem dX6_isFit_1 : decode cX6_isFit 1 = .ok (.istore_n 2, 1) := by decide +kernel
theorem dX6_isFit_2 : decode cX6_isFit 2 = .ok (.iconst 0, 1) := by decide +kernel
theorem dX6_isFit_3 : decode cX6_isFit 3 = .ok (.istore_n 3, 1) := by decide +kernel
theorem dX6_isFit_4 : decode cX6_isFit 4 = .ok (.iload_n 3, 1) := by decide +kernel
theorem dX6_isFit_5 : decode cX6_isFit 5 = .ok (.aload_n 0, 1) := by decide +kernel
theorem dX6_isFit_6 : decode cX6_isFit 6 = .ok (.getfield 222, 3) := by decide +kernel
theorem dX6_isFit_9 : decode cX6_isFit 9 = .ok (.if_icmp .ge 20, 3) := by decide +kernel
theorem dX6_isFit_12 : decode cX6_isFit 12 = .ok (.iload_n 2, 1) := by decide +kernel
theorem dX6_isFit_13 : decode cX6_isFit 13 = .ok (.aload_n 0, 1) := by decide +kernel
theorem dX6_isFit_14 : decode cX6_isFit 14 = .ok (.getfield 62, 3) := by decide +kernel
theorem dX6_isFit_17 : decode cX6_isFit 17 = .ok (.iload_n 3, 1) := by decide +kernel
theorem dX6_isFit_18 : decode cX6_isFit 18 = .ok (.iaload, 1) := by decide +kernel
theorem dX6_isFit_19 : decode cX6_isFit 19 = .ok (.invokestatic 255, 3) := by decide +kernel
theorem dX6_isFit_22 : decode cX6_isFit 22 = .ok (.istore_n 2, 1) := by decide +kernel
theorem dX6_isFit_23 : decode cX6_isFit 23 = .ok (.iinc 3 1, 3) := by decide +kernel
theorem dX6_isFit_26 : decode cX6_isFit 26 = .ok (.goto (-22), 3) := by decide +kernel
theorem dX6_isFit_29 : decode cX6_isFit 29 = .ok (.aload_n 0, 1) := by decide +kernel
theorem dX6_isFit_30 : decode cX6_isFit 30 = .ok (.iload_n 1, 1) := by decide +kernel
theorem dX6_isFit_31 : decode cX6_isFit 31 = .ok (.invokevirtual 213, 3) := by decide +kernel
theorem dX6_isFit_34 : decode cX6_isFit 34 = .ok (.iconst 0, 1) := by decide +kernel
theorem dX6_isFit_35 : decode cX6_isFit 35 = .ok (.istore_n 3, 1) := by decide +kernel
theorem dX6_isFit_36 : decode cX6_isFit 36 = .ok (.iload_n 3, 1) := by decide +kernel
theorem dX6_isFit_37 : decode cX6_isFit 37 = .ok (.iload_n 2, 1) := by decide +kernel
theorem dX6_isFit_38 : decode cX6_isFit 38 = .ok (.if_icmp .gt 69, 3) := by decide +kernel
theorem dX6_isFit_41 : decode cX6_isFit 41 = .ok (.iload_n 3, 1) := by decide +kernel
theorem dX6_isFit_42 : decode cX6_isFit 42 = .ok (.ifCond .le 11, 3) := by decide +kernel
theorem dX6_isFit_45 : decode cX6_isFit 45 = .ok (.aload_n 0, 1) := by decide +kernel
theorem dX6_isFit_46 : decode cX6_isFit 46 = .ok (.getfield 37, 3) := by decide +kernel
theorem dX6_isFit_49 : decode cX6_isFit 49 = .ok (.iconst 1, 1) := by decide +kernel
theorem dX6_isFit_50 : decode cX6_isFit 50 = .ok (.invokevirtual 128, 3) := by decide +kernel
theorem dX6_isFit_53 : decode cX6_isFit 53 = .ok (.iconst 0, 1) := by decide +kernel
theorem dX6_isFit_54 : decode cX6_isFit 54 = .ok (.istore 4, 2) := by decide +kernel
theorem dX6_isFit_56 : decode cX6_isFit 56 = .ok (.iload 4, 2) := by decide +kernel
theorem dX6_isFit_58 : decode cX6_isFit 58 = .ok (.aload_n 0, 1) := by decide +kernel
theorem dX6_isFit_59 : decode cX6_isFit 59 = .ok (.getfield 222, 3) := by decide +kernel
theorem dX6_isFit_62 : decode cX6_isFit 62 = .ok (.if_icmp .ge 39, 3) := by decide +kernel
theorem dX6_isFit_65 : decode cX6_isFit 65 = .ok (.aload_n 0, 1) := by decide +kernel
theorem dX6_isFit_66 : decode cX6_isFit 66 = .ok (.getfield 62, 3) := by decide +kernel
theorem dX6_isFit_69 : decode cX6_isFit 69 = .ok (.iload 4, 2) := by decide +kernel
theorem dX6_isFit_71 : decode cX6_isFit 71 = .ok (.iaload, 1) := by decide +kernel
theorem dX6_isFit_72 : decode cX6_isFit 72 = .ok (.iload_n 3, 1) := by decide +kernel
theorem dX6_isFit_73 : decode cX6_isFit 73 = .ok (.if_icmp .ne 22, 3) := by decide +kernel
theorem dX6_isFit_76 : decode cX6_isFit 76 = .ok (.aload_n 0, 1) := by decide +kernel
theorem dX6_isFit_77 : decode cX6_isFit 77 = .ok (.getfield 58, 3) := by decide +kernel
theorem dX6_isFit_80 : decode cX6_isFit 80 = .ok (.iload 4, 2) := by decide +kernel
theorem dX6_isFit_82 : decode cX6_isFit 82 = .ok (.iaload, 1) := by decide +kernel
theorem dX6_isFit_83 : decode cX6_isFit 83 = .ok (.aload_n 0, 1) := by decide +kernel
theorem dX6_isFit_84 : decode cX6_isFit 84 = .ok (.getfield 42, 3) := by decide +kernel
theorem dX6_isFit_87 : decode cX6_isFit 87 = .ok (.getfield 216, 3) := by decide +kernel
theorem dX6_isFit_90 : decode cX6_isFit 90 = .ok (.if_icmp .eq 5, 3) := by decide +kernel
theorem dX6_isFit_93 : decode cX6_isFit 93 = .ok (.iconst 0, 1) := by decide +kernel
theorem dX6_isFit_94 : decode cX6_isFit 94 = .ok (.ireturn, 1) := by decide +kernel
theorem dX6_isFit_95 : decode cX6_isFit 95 = .ok (.iinc 4 1, 3) := by decide +kernel
theorem dX6_isFit_98 : decode cX6_isFit 98 = .ok (.goto (-42), 3) := by decide +kernel
theorem dX6_isFit_101 : decode cX6_isFit 101 = .ok (.iinc 3 1, 3) := by decide +kernel
theorem dX6_isFit_104 : decode cX6_isFit 104 = .ok (.goto (-68), 3) := by decide +kernel
theorem dX6_isFit_107 : decode cX6_isFit 107 = .ok (.iconst 1, 1) := by decide +kernel
theorem dX6_isFit_108 : decode cX6_isFit 108 = .ok (.ireturn, 1) := by decide +kernel
theorem dL_has_0 : decode cL_has 0 = .ok (.aload_n 3, 1) := by decide +kernel
theorem dL_has_1 : decode cL_has 1 = .ok (.iconst 0, 1) := by decide +kernel
theorem dL_has_2 : decode cL_has 2 = .ok (.aload_n 0, 1) := by decide +kernel
theorem dL_has_3 : decode cL_has 3 = .ok (.iload_n 1, 1) := by decide +kernel
theorem dL_has_4 : decode cL_has 4 = .ok (.iload_n 2, 1) := by decide +kernel
theorem dL_has_5 : decode cL_has 5 = .ok (.invokevirtual 7, 3) := by decide +kernel
theorem dL_has_8 : decode cL_has 8 = .ok (.i2l, 1) := by decide +kernel
theorem dL_has_9 : decode cL_has 9 = .ok (.lastore, 1) := by decide +kernel
theorem dL_has_10 : decode cL_has 10 = .ok (.goto 7, 3) := by decide +kernel
theorem dL_has_13 : decode cL_has 13 = .ok (.astore 4, 2) := by decide +kernel
theorem dL_has_15 : decode cL_has 15 = .ok (.iconst 1, 1) := by decide +kernel
theorem dL_has_16 : decode cL_has 16 = .ok (.ireturn, 1) := by decide +kernel
theorem dL_has_17 : decode cL_has 17 = .ok (.iconst 0, 1) := by decide +kernel
theorem dL_has_18 : decode cL_has 18 = .ok (.ireturn, 1) := by decide +kernel
theorem dL_law_0 : decode cL_law 0 = .ok (.new 8, 3) := by decide +kernel
theorem dL_law_3 : decode cL_law 3 = .ok (.dup, 1) := by decide +kernel
theorem dL_law_4 : decode cL_law 4 = .ok (.invokespecial 15, 3) := by decide +kernel
theorem dL_law_7 : decode cL_law 7 = .ok (.astore_n 1, 1) := by decide +kernel
theorem dL_law_8 : decode cL_law 8 = .ok (.new 16, 3) := by decide +kernel
theorem dL_law_11 : decode cL_law 11 = .ok (.dup, 1) := by decide +kernel
theorem dL_law_12 : decode cL_law 12 = .ok (.invokespecial 18, 3) := by decide +kernel
theorem dL_law_15 : decode cL_law 15 = .ok (.astore_n 2, 1) := by decide +kernel
theorem dL_law_16 : decode cL_law 16 = .ok (.iconst 1, 1) := by decide +kernel
theorem dL_law_17 : decode cL_law 17 = .ok (.newarray .long, 2) := by decide +kernel
theorem dL_law_19 : decode cL_law 19 = .ok (.astore_n 3, 1) := by decide +kernel
theorem dL_law_20 : decode cL_law 20 = .ok (.iconst 0, 1) := by decide +kernel
theorem dL_law_21 : decode cL_law 21 = .ok (.istore 4, 2) := by decide +kernel
theorem dL_law_23 : decode cL_law 23 = .ok (.iload 4, 2) := by decide +kernel
theorem dL_law_25 : decode cL_law 25 = .ok (.aload_n 0, 1) := by decide +kernel
theorem dL_law_26 : decode cL_law 26 = .ok (.arraylength, 1) := by decide +kernel
theorem dL_law_27 : decode cL_law 27 = .ok (.bipush 7, 2) := by decide +kernel
theorem dL_law_29 : decode cL_law 29 = .ok (.isub, 1) := by decide +kernel
theorem dL_law_30 : decode cL_law 30 = .ok (.if_icmp .gt 1114, 3) := by decide +kernel
theorem dL_law_33 : decode cL_law 33 = .ok (.aload_n 0, 1) := by decide +kernel
theorem dL_law_34 : decode cL_law 34 = .ok (.iload 4, 2) := by decide +kernel
theorem dL_law_36 : decode cL_law 36 = .ok (.iaload, 1) := by decide +kernel
theorem dL_law_37 : decode cL_law 37 = .ok (.bipush 31, 2) := by decide +kernel
theorem dL_law_39 : decode cL_law 39 = .ok (.iand, 1) := by decide +kernel
theorem dL_law_40 : decode cL_law 40 = .ok (.tableswitch 1098 0 23 #[112, 137, 198, 247, 296, 321, 468, 481, 506, 531, 599, 636, 673, 699, 760, 809, 846, 895, 908, 945, 958, 983, 1020, 1073], 112) := by decide +kernel
theorem dL_law_152 : decode cL_law 152 = .ok (.aload_n 1, 1) := by decide +kernel
theorem dL_law_153 : decode cL_law 153 = .ok (.aload_n 0, 1) := by decide +kernel
theorem dL_law_154 : decode cL_law 154 = .ok (.iload 4, 2) := by decide +kernel
theorem dL_law_156 : decode cL_law 156 = .ok (.iconst 1, 1) := by decide +kernel
theorem dL_law_157 : decode cL_law 157 = .ok (.iadd, 1) := by decide +kernel
theorem dL_law_158 : decode cL_law 158 = .ok (.iaload, 1) := by decide +kernel
theorem dL_law_159 : decode cL_law 159 = .ok (.invokevirtual 19, 3) := by decide +kernel
theorem dL_law_162 : decode cL_law 162 = .ok (.aload_n 2, 1) := by decide +kernel
theorem dL_law_163 : decode cL_law 163 = .ok (.aload_n 0, 1) := by decide +kernel
theorem dL_law_164 : decode cL_law 164 = .ok (.iload 4, 2) := by decide +kernel
theorem dL_law_166 : decode cL_law 166 = .ok (.iconst 1, 1) := by decide +kernel
theorem dL_law_167 : decode cL_law 167 = .ok (.iadd, 1) := by decide +kernel
theorem dL_law_168 : decode cL_law 168 = .ok (.iaload, 1) := by decide +kernel
theorem dL_law_169 : decode cL_law 169 = .ok (.invokevirtual 23, 3) := by decide +kernel
theorem dL_law_172 : decode cL_law 172 = .ok (.if_icmp .eq 966, 3) := by decide +kernel
theorem dL_law_175 : decode cL_law 175 = .ok (.iconst 0, 1) := by decide +kernel
theorem dL_law_176 : decode cL_law 176 = .ok (.ireturn, 1) := by decide +kernel
theorem dL_law_177 : decode cL_law 177 = .ok (.aload_n 1, 1) := by decide +kernel
theorem dL_law_178 : decode cL_law 178 = .ok (.aload_n 0, 1) := by decide +kernel
theorem dL_law_179 : decode cL_law 179 = .ok (.iload 4, 2) := by decide +kernel
theorem dL_law_181 : decode cL_law 181 = .ok (.iconst 1, 1) := by decide +kernel
theorem dL_law_182 : decode cL_law 182 = .ok (.iadd, 1) := by decide +kernel
theorem dL_law_183 : decode cL_law 183 = .ok (.iaload, 1) := by decide +kernel
theorem dL_law_184 : decode cL_law 184 = .ok (.aload_n 0, 1) := by decide +kernel
theorem dL_law_185 : decode cL_law 185 = .ok (.iload 4, 2) := by decide +kernel
theorem dL_law_187 : decode cL_law 187 = .ok (.iconst 2, 1) := by decide +kernel
theorem dL_law_188 : decode cL_law 188 = .ok (.iadd, 1) := by decide +kernel
theorem dL_law_189 : decode cL_law 189 = .ok (.iaload, 1) := by decide +kernel
theorem dL_law_190 : decode cL_law 190 = .ok (.aload_n 0, 1) := by decide +kernel
theorem dL_law_191 : decode cL_law 191 = .ok (.iload 4, 2) := by decide +kernel
theorem dL_law_193 : decode cL_law 193 = .ok (.iconst 3, 1) := by decide +kernel
theorem dL_law_194 : decode cL_law 194 = .ok (.iadd, 1) := by decide +kernel
theorem dL_law_195 : decode cL_law 195 = .ok (.iaload, 1) := by decide +kernel
theorem dL_law_196 : decode cL_law 196 = .ok (.aload_n 0, 1) := by decide +kernel
theorem dL_law_197 : decode cL_law 197 = .ok (.iload 4, 2) := by decide +kernel
theorem dL_law_199 : decode cL_law 199 = .ok (.iconst 4, 1) := by decide +kernel
theorem dL_law_200 : decode cL_law 200 = .ok (.iadd, 1) := by decide +kernel
theorem dL_law_201 : decode cL_law 201 = .ok (.iaload, 1) := by decide +kernel
theorem dL_law_202 : decode cL_law 202 = .ok (.invokevirtual 24, 3) := by decide +kernel
theorem dL_law_205 : decode cL_law 205 = .ok (.aload_n 2, 1) := by decide +kernel
theorem dL_law_206 : decode cL_law 206 = .ok (.aload_n 0, 1) := by decide +kernel
theorem dL_law_207 : decode cL_law 207 = .ok (.iload 4, 2) := by decide +kernel
theorem dL_law_209 : decode cL_law 209 = .ok (.iconst 1, 1) := by decide +kernel
theorem dL_law_210 : decode cL_law 210 = .ok (.iadd, 1) := by decide +kernel
theorem dL_law_211 : decode cL_law 211 = .ok (.iaload, 1) := by decide +kernel
theorem dL_law_212 : decode cL_law 212 = .ok (.aload_n 0, 1) := by decide +kernel
theorem dL_law_213 : decode cL_law 213 = .ok (.iload 4, 2) := by decide +kernel
theorem dL_law_215 : decode cL_law 215 = .ok (.iconst 2, 1) := by decide +kernel
theorem dL_law_216 : decode cL_law 216 = .ok (.iadd, 1) := by decide +kernel
theorem dL_law_217 : decode cL_law 217 = .ok (.iaload, 1) := by decide +kernel
theorem dL_law_218 : decode cL_law 218 = .ok (.aload_n 0, 1) := by decide +kernel
theorem dL_law_219 : decode cL_law 219 = .ok (.iload 4, 2) := by decide +kernel
theorem dL_law_221 : decode cL_law 221 = .ok (.iconst 3, 1) := by decide +kernel
theorem dL_law_222 : decode cL_law 222 = .ok (.iadd, 1) := by decide +kernel
theorem dL_law_223 : decode cL_law 223 = .ok (.iaload, 1) := by decide +kernel
theorem dL_law_224 : decode cL_law 224 = .ok (.aload_n 0, 1) := by decide +kernel
theorem dL_law_225 : decode cL_law 225 = .ok (.iload 4, 2) := by decide +kernel
theorem dL_law_227 : decode cL_law 227 = .ok (.iconst 4, 1) := by decide +kernel
theorem dL_law_228 : decode cL_law 228 = .ok (.iadd, 1) := by decide +kernel
theorem dL_law_229 : decode cL_law 229 = .ok (.iaload, 1) := by decide +kernel
theorem dL_law_230 : decode cL_law 230 = .ok (.invokevirtual 28, 3) := by decide +kernel
theorem dL_law_233 : decode cL_law 233 = .ok (.if_icmp .eq 905, 3) := by decide +kernel
theorem dL_law_236 : decode cL_law 236 = .ok (.iconst 0, 1) := by decide +kernel
theorem dL_law_237 : decode cL_law 237 = .ok (.ireturn, 1) := by decide +kernel
theorem dL_law_238 : decode cL_law 238 = .ok (.aload_n 1, 1) := by decide +kernel
theorem dL_law_239 : decode cL_law 239 = .ok (.aload_n 0, 1) := by decide +kernel
theorem dL_law_240 : decode cL_law 240 = .ok (.iload 4, 2) := by decide +kernel
theorem dL_law_242 : decode cL_law 242 = .ok (.iconst 1, 1) := by decide +kernel
theorem dL_law_243 : decode cL_law 243 = .ok (.iadd, 1) := by decide +kernel
theorem dL_law_244 : decode cL_law 244 = .ok (.iaload, 1) := by decide +kernel
theorem dL_law_245 : decode cL_law 245 = .ok (.aload_n 0, 1) := by decide +kernel
theorem dL_law_246 : decode cL_law 246 = .ok (.iload 4, 2) := by decide +kernel
theorem dL_law_248 : decode cL_law 248 = .ok (.iconst 2, 1) := by decide +kernel
theorem dL_law_249 : decode cL_law 249 = .ok (.iadd, 1) := by decide +kernel
theorem dL_law_250 : decode cL_law 250 = .ok (.iaload, 1) := by decide +kernel
theorem dL_law_251 : decode cL_law 251 = .ok (.aload_n 0, 1) := by decide +kernel
theorem dL_law_252 : decode cL_law 252 = .ok (.iload 4, 2) := by decide +kernel
theorem dL_law_254 : decode cL_law 254 = .ok (.iconst 3, 1) := by decide +kernel
theorem dL_law_255 : decode cL_law 255 = .ok (.iadd, 1) := by decide +kernel
theorem dL_law_256 : decode cL_law 256 = .ok (.iaload, 1) := by decide +kernel
theorem dL_law_257 : decode cL_law 257 = .ok (.invokevirtual 29, 3) := by decide +kernel
theorem dL_law_260 : decode cL_law 260 = .ok (.aload_n 2, 1) := by decide +kernel
theorem dL_law_261 : decode cL_law 261 = .ok (.aload_n 0, 1) := by decide +kernel
theorem dL_law_262 : decode cL_law 262 = .ok (.iload 4, 2) := by decide +kernel
theorem dL_law_264 : decode cL_law 264 = .ok (.iconst 1, 1) := by decide +kernel
end
section
theorem dL_law_265 : decode cL_law 265 = .ok (.iadd, 1) := by decide +kernel
theorem dL_law_266 : decode cL_law 266 = .ok (.iaload, 1) := by decide +kernel
theorem dL_law_267 : decode cL_law 267 = .ok (.aload_n 0, 1) := by decide +kernel
theorem dL_law_268 : decode cL_law 268 = .ok (.iload 4, 2) := by decide +kernel
theorem dL_law_270 : decode cL_law 270 = .ok (.iconst 2, 1) := by decide +kernel
theorem dL_law_271 : decode cL_law 271 = .ok (.iadd, 1) := by decide +kernel
theorem dL_law_272 : decode cL_law 272 = .ok (.iaload, 1) := by decide +kernel
theorem dL_law_273 : decode cL_law 273 = .ok (.aload_n 0, 1) := by decide +kernel
theorem dL_law_274 : decode cL_law 274 = .ok (.iload 4, 2) := by decide +kernel
theorem dL_law_276 : decode cL_law 276 = .ok (.iconst 3, 1) := by decide +kernel
theorem dL_law_277 : decode cL_law 277 = .ok (.iadd, 1) := by decide +kernel
theorem dL_law_278 : decode cL_law 278 = .ok (.iaload, 1) := by decide +kernel
theorem dL_law_279 : decode cL_law 279 = .ok (.invokevirtual 33, 3) := by decide +kernel
theorem dL_law_282 : decode cL_law 282 = .ok (.if_icmp .eq 856, 3) := by decide +kernel
theorem dL_law_285 : decode cL_law 285 = .ok (.iconst 0, 1) := by decide +kernel
theorem dL_law_286 : decode cL_law 286 = .ok (.ireturn, 1) := by decide +kernel
theorem dL_law_287 : decode cL_law 287 = .ok (.aload_n 1, 1) := by decide +kernel
theorem dL_law_288 : decode cL_law 288 = .ok (.aload_n 0, 1) := by decide +kernel
theorem dL_law_289 : decode cL_law 289 = .ok (.iload 4, 2) := by decide +kernel
theorem dL_law_291 : decode cL_law 291 = .ok (.iconst 1, 1) := by decide +kernel
theorem dL_law_292 : decode cL_law 292 = .ok (.iadd, 1) := by decide +kernel
theorem dL_law_293 : decode cL_law 293 = .ok (.iaload, 1) := by decide +kernel
theorem dL_law_294 : decode cL_law 294 = .ok (.aload_n 0, 1) := by decide +kernel
theorem dL_law_295 : decode cL_law 295 = .ok (.iload 4, 2) := by decide +kernel
theorem dL_law_297 : decode cL_law 297 = .ok (.iconst 2, 1) := by decide +kernel
theorem dL_law_298 : decode cL_law 298 = .ok (.iadd, 1) := by decide +kernel
theorem dL_law_299 : decode cL_law 299 = .ok (.iaload, 1) := by decide +kernel
theorem dL_law_300 : decode cL_law 300 = .ok (.aload_n 0, 1) := by decide +kernel
theorem dL_law_301 : decode cL_law 301 = .ok (.iload 4, 2) := by decide +kernel
theorem dL_law_303 : decode cL_law 303 = .ok (.iconst 3, 1) := by decide +kernel
theorem dL_law_304 : decode cL_law 304 = .ok (.iadd, 1) := by decide +kernel
theorem dL_law_305 : decode cL_law 305 = .ok (.iaload, 1) := by decide +kernel
theorem dL_law_306 : decode cL_law 306 = .ok (.invokevirtual 34, 3) := by decide +kernel
theorem dL_law_309 : decode cL_law 309 = .ok (.aload_n 2, 1) := by decide +kernel
theorem dL_law_310 : decode cL_law 310 = .ok (.aload_n 0, 1) := by decide +kernel
theorem dL_law_311 : decode cL_law 311 = .ok (.iload 4, 2) := by decide +kernel
theorem dL_law_313 : decode cL_law 313 = .ok (.iconst 1, 1) := by decide +kernel
theorem dL_law_314 : decode cL_law 314 = .ok (.iadd, 1) := by decide +kernel
theorem dL_law_315 : decode cL_law 315 = .ok (.iaload, 1) := by decide +kernel
theorem dL_law_316 : decode cL_law 316 = .ok (.aload_n 0, 1) := by decide +kernel
theorem dL_law_317 : decode cL_law 317 = .ok (.iload 4, 2) := by decide +kernel
theorem dL_law_319 : decode cL_law 319 = .ok (.iconst 2, 1) := by decide +kernel
theorem dL_law_320 : decode cL_law 320 = .ok (.iadd, 1) := by decide +kernel
theorem dL_law_321 : decode cL_law 321 = .ok (.iaload, 1) := by decide +kernel
theorem dL_law_322 : decode cL_law 322 = .ok (.aload_n 0, 1) := by decide +kernel
theorem dL_law_323 : decode cL_law 323 = .ok (.iload 4, 2) := by decide +kernel
theorem dL_law_325 : decode cL_law 325 = .ok (.iconst 3, 1) := by decide +kernel
theorem dL_law_326 : decode cL_law 326 = .ok (.iadd, 1) := by decide +kernel
theorem dL_law_327 : decode cL_law 327 = .ok (.iaload, 1) := by decide +kernel
theorem dL_law_328 : decode cL_law 328 = .ok (.invokevirtual 37, 3) := by decide +kernel
theorem dL_law_331 : decode cL_law 331 = .ok (.if_icmp .eq 807, 3) := by decide +kernel
theorem dL_law_334 : decode cL_law 334 = .ok (.iconst 0, 1) := by decide +kernel
theorem dL_law_335 : decode cL_law 335 = .ok (.ireturn, 1) := by decide +kernel
theorem dL_law_336 : decode cL_law 336 = .ok (.aload_n 1, 1) := by decide +kernel
theorem dL_law_337 : decode cL_law 337 = .ok (.aload_n 0, 1) := by decide +kernel
theorem dL_law_338 : decode cL_law 338 = .ok (.iload 4, 2) := by decide +kernel
theorem dL_law_340 : decode cL_law 340 = .ok (.iconst 1, 1) := by decide +kernel
theorem dL_law_341 : decode cL_law 341 = .ok (.iadd, 1) := by decide +kernel
theorem dL_law_342 : decode cL_law 342 = .ok (.iaload, 1) := by decide +kernel
theorem dL_law_343 : decode cL_law 343 = .ok (.invokevirtual 38, 3) := by decide +kernel
theorem dL_law_346 : decode cL_law 346 = .ok (.aload_n 2, 1) := by decide +kernel
theorem dL_law_347 : decode cL_law 347 = .ok (.aload_n 0, 1) := by decide +kernel
theorem dL_law_348 : decode cL_law 348 = .ok (.iload 4, 2) := by decide +kernel
theorem dL_law_350 : decode cL_law 350 = .ok (.iconst 1, 1) := by decide +kernel
theorem dL_law_351 : decode cL_law 351 = .ok (.iadd, 1) := by decide +kernel
theorem dL_law_352 : decode cL_law 352 = .ok (.iaload, 1) := by decide +kernel
theorem dL_law_353 : decode cL_law 353 = .ok (.invokevirtual 41, 3) := by decide +kernel
theorem dL_law_356 : decode cL_law 356 = .ok (.if_icmp .eq 782, 3) := by decide +kernel
theorem dL_law_359 : decode cL_law 359 = .ok (.iconst 0, 1) := by decide +kernel
theorem dL_law_360 : decode cL_law 360 = .ok (.ireturn, 1) := by decide +kernel
theorem dL_law_361 : decode cL_law 361 = .ok (.aload_n 1, 1) := by decide +kernel
theorem dL_law_362 : decode cL_law 362 = .ok (.aload_n 0, 1) := by decide +kernel
theorem dL_law_363 : decode cL_law 363 = .ok (.iload 4, 2) := by decide +kernel
theorem dL_law_365 : decode cL_law 365 = .ok (.iconst 1, 1) := by decide +kernel
theorem dL_law_366 : decode cL_law 366 = .ok (.iadd, 1) := by decide +kernel
theorem dL_law_367 : decode cL_law 367 = .ok (.iaload, 1) := by decide +kernel
theorem dL_law_368 : decode cL_law 368 = .ok (.i2l, 1) := by decide +kernel
theorem dL_law_369 : decode cL_law 369 = .ok (.bipush 32, 2) := by decide +kernel
theorem dL_law_371 : decode cL_law 371 = .ok (.lshl, 1) := by decide +kernel
theorem dL_law_372 : decode cL_law 372 = .ok (.aload_n 0, 1) := by decide +kernel
theorem dL_law_373 : decode cL_law 373 = .ok (.iload 4, 2) := by decide +kernel
theorem dL_law_375 : decode cL_law 375 = .ok (.iconst 2, 1) := by decide +kernel
theorem dL_law_376 : decode cL_law 376 = .ok (.iadd, 1) := by decide +kernel
theorem dL_law_377 : decode cL_law 377 = .ok (.iaload, 1) := by decide +kernel
theorem dL_law_378 : decode cL_law 378 = .ok (.i2l, 1) := by decide +kernel
theorem dL_law_379 : decode cL_law 379 = .ok (.ldc2_w 42, 3) := by decide +kernel
theorem dL_law_382 : decode cL_law 382 = .ok (.land, 1) := by decide +kernel
theorem dL_law_383 : decode cL_law 383 = .ok (.lor, 1) := by decide +kernel
theorem dL_law_384 : decode cL_law 384 = .ok (.aload_n 0, 1) := by decide +kernel
theorem dL_law_385 : decode cL_law 385 = .ok (.iload 4, 2) := by decide +kernel
theorem dL_law_387 : decode cL_law 387 = .ok (.iconst 3, 1) := by decide +kernel
theorem dL_law_388 : decode cL_law 388 = .ok (.iadd, 1) := by decide +kernel
theorem dL_law_389 : decode cL_law 389 = .ok (.iaload, 1) := by decide +kernel
theorem dL_law_390 : decode cL_law 390 = .ok (.i2l, 1) := by decide +kernel
theorem dL_law_391 : decode cL_law 391 = .ok (.bipush 32, 2) := by decide +kernel
theorem dL_law_393 : decode cL_law 393 = .ok (.lshl, 1) := by decide +kernel
theorem dL_law_394 : decode cL_law 394 = .ok (.aload_n 0, 1) := by decide +kernel
theorem dL_law_395 : decode cL_law 395 = .ok (.iload 4, 2) := by decide +kernel
theorem dL_law_397 : decode cL_law 397 = .ok (.iconst 4, 1) := by decide +kernel
theorem dL_law_398 : decode cL_law 398 = .ok (.iadd, 1) := by decide +kernel
theorem dL_law_399 : decode cL_law 399 = .ok (.iaload, 1) := by decide +kernel
theorem dL_law_400 : decode cL_law 400 = .ok (.i2l, 1) := by decide +kernel
theorem dL_law_401 : decode cL_law 401 = .ok (.ldc2_w 42, 3) := by decide +kernel
theorem dL_law_404 : decode cL_law 404 = .ok (.land, 1) := by decide +kernel
theorem dL_law_405 : decode cL_law 405 = .ok (.lor, 1) := by decide +kernel
theorem dL_law_406 : decode cL_law 406 = .ok (.aload_n 0, 1) := by decide +kernel
theorem dL_law_407 : decode cL_law 407 = .ok (.iload 4, 2) := by decide +kernel
theorem dL_law_409 : decode cL_law 409 = .ok (.iconst 5, 1) := by decide +kernel
theorem dL_law_410 : decode cL_law 410 = .ok (.iadd, 1) := by decide +kernel
theorem dL_law_411 : decode cL_law 411 = .ok (.iaload, 1) := by decide +kernel
theorem dL_law_412 : decode cL_law 412 = .ok (.i2l, 1) := by decide +kernel
theorem dL_law_413 : decode cL_law 413 = .ok (.bipush 32, 2) := by decide +kernel
theorem dL_law_415 : decode cL_law 415 = .ok (.lshl, 1) := by decide +kernel
theorem dL_law_416 : decode cL_law 416 = .ok (.aload_n 0, 1) := by decide +kernel
theorem dL_law_417 : decode cL_law 417 = .ok (.iload 4, 2) := by decide +kernel
theorem dL_law_419 : decode cL_law 419 = .ok (.bipush 6, 2) := by decide +kernel
theorem dL_law_421 : decode cL_law 421 = .ok (.iadd, 1) := by decide +kernel
theorem dL_law_422 : decode cL_law 422 = .ok (.iaload, 1) := by decide +kernel
theorem dL_law_423 : decode cL_law 423 = .ok (.i2l, 1) := by decide +kernel
theorem dL_law_424 : decode cL_law 424 = .ok (.ldc2_w 42, 3) := by decide +kernel
theorem dL_law_427 : decode cL_law 427 = .ok (.land, 1) := by decide +kernel
theorem dL_law_428 : decode cL_law 428 = .ok (.lor, 1) := by decide +kernel
theorem dL_law_429 : decode cL_law 429 = .ok (.invokevirtual 44, 3) := by decide +kernel
theorem dL_law_432 : decode cL_law 432 = .ok (.aload_n 2, 1) := by decide +kernel
theorem dL_law_433 : decode cL_law 433 = .ok (.aload_n 0, 1) := by decide +kernel
theorem dL_law_434 : decode cL_law 434 = .ok (.iload 4, 2) := by decide +kernel
theorem dL_law_436 : decode cL_law 436 = .ok (.iconst 1, 1) := by decide +kernel
theorem dL_law_437 : decode cL_law 437 = .ok (.iadd, 1) := by decide +kernel
theorem dL_law_438 : decode cL_law 438 = .ok (.iaload, 1) := by decide +kernel
theorem dL_law_439 : decode cL_law 439 = .ok (.i2l, 1) := by decide +kernel
theorem dL_law_440 : decode cL_law 440 = .ok (.bipush 32, 2) := by decide +kernel
theorem dL_law_442 : decode cL_law 442 = .ok (.lshl, 1) := by decide +kernel
theorem dL_law_443 : decode cL_law 443 = .ok (.aload_n 0, 1) := by decide +kernel
theorem dL_law_444 : decode cL_law 444 = .ok (.iload 4, 2) := by decide +kernel
theorem dL_law_446 : decode cL_law 446 = .ok (.iconst 2, 1) := by decide +kernel
theorem dL_law_447 : decode cL_law 447 = .ok (.iadd, 1) := by decide +kernel
theorem dL_law_448 : decode cL_law 448 = .ok (.iaload, 1) := by decide +kernel
theorem dL_law_449 : decode cL_law 449 = .ok (.i2l, 1) := by decide +kernel
theorem dL_law_450 : decode cL_law 450 = .ok (.ldc2_w 42, 3) := by decide +kernel
theorem dL_law_453 : decode cL_law 453 = .ok (.land, 1) := by decide +kernel
theorem dL_law_454 : decode cL_law 454 = .ok (.lor, 1) := by decide +kernel
theorem dL_law_455 : decode cL_law 455 = .ok (.aload_n 0, 1) := by decide +kernel
theorem dL_law_456 : decode cL_law 456 = .ok (.iload 4, 2) := by decide +kernel
theorem dL_law_458 : decode cL_law 458 = .ok (.iconst 3, 1) := by decide +kernel
theorem dL_law_459 : decode cL_law 459 = .ok (.iadd, 1) := by decide +kernel
theorem dL_law_460 : decode cL_law 460 = .ok (.iaload, 1) := by decide +kernel
theorem dL_law_461 : decode cL_law 461 = .ok (.i2l, 1) := by decide +kernel
theorem dL_law_462 : decode cL_law 462 = .ok (.bipush 32, 2) := by decide +kernel
theorem dL_law_464 : decode cL_law 464 = .ok (.lshl, 1) := by decide +kernel
theorem dL_law_465 : decode cL_law 465 = .ok (.aload_n 0, 1) := by decide +kernel
theorem dL_law_466 : decode cL_law 466 = .ok (.iload 4, 2) := by decide +kernel
theorem dL_law_468 : decode cL_law 468 = .ok (.iconst 4, 1) := by decide +kernel
theorem dL_law_469 : decode cL_law 469 = .ok (.iadd, 1) := by decide +kernel
theorem dL_law_470 : decode cL_law 470 = .ok (.iaload, 1) := by decide +kernel
theorem dL_law_471 : decode cL_law 471 = .ok (.i2l, 1) := by decide +kernel
theorem dL_law_472 : decode cL_law 472 = .ok (.ldc2_w 42, 3) := by decide +kernel
theorem dL_law_475 : decode cL_law 475 = .ok (.land, 1) := by decide +kernel
theorem dL_law_476 : decode cL_law 476 = .ok (.lor, 1) := by decide +kernel
theorem dL_law_477 : decode cL_law 477 = .ok (.aload_n 0, 1) := by decide +kernel
theorem dL_law_478 : decode cL_law 478 = .ok (.iload 4, 2) := by decide +kernel
theorem dL_law_480 : decode cL_law 480 = .ok (.iconst 5, 1) := by decide +kernel
theorem dL_law_481 : decode cL_law 481 = .ok (.iadd, 1) := by decide +kernel
theorem dL_law_482 : decode cL_law 482 = .ok (.iaload, 1) := by decide +kernel
theorem dL_law_483 : decode cL_law 483 = .ok (.i2l, 1) := by decide +kernel
theorem dL_law_484 : decode cL_law 484 = .ok (.bipush 32, 2) := by decide +kernel
theorem dL_law_486 : decode cL_law 486 = .ok (.lshl, 1) := by decide +kernel
theorem dL_law_487 : decode cL_law 487 = .ok (.aload_n 0, 1) := by decide +kernel
theorem dL_law_488 : decode cL_law 488 = .ok (.iload 4, 2) := by decide +kernel
theorem dL_law_490 : decode cL_law 490 = .ok (.bipush 6, 2) := by decide +kernel
theorem dL_law_492 : decode cL_law 492 = .ok (.iadd, 1) := by decide +kernel
theorem dL_law_493 : decode cL_law 493 = .ok (.iaload, 1) := by decide +kernel
theorem dL_law_494 : decode cL_law 494 = .ok (.i2l, 1) := by decide +kernel
theorem dL_law_495 : decode cL_law 495 = .ok (.ldc2_w 42, 3) := by decide +kernel
theorem dL_law_498 : decode cL_law 498 = .ok (.land, 1) := by decide +kernel
theorem dL_law_499 : decode cL_law 499 = .ok (.lor, 1) := by decide +kernel
theorem dL_law_500 : decode cL_law 500 = .ok (.invokevirtual 48, 3) := by decide +kernel
theorem dL_law_503 : decode cL_law 503 = .ok (.if_icmp .eq 635, 3) := by decide +kernel
theorem dL_law_506 : decode cL_law 506 = .ok (.iconst 0, 1) := by decide +kernel
theorem dL_law_507 : decode cL_law 507 = .ok (.ireturn, 1) := by decide +kernel
theorem dL_law_508 : decode cL_law 508 = .ok (.aload_n 1, 1) := by decide +kernel
theorem dL_law_509 : decode cL_law 509 = .ok (.invokevirtual 49, 3) := by decide +kernel
theorem dL_law_512 : decode cL_law 512 = .ok (.aload_n 2, 1) := by decide +kernel
theorem dL_law_513 : decode cL_law 513 = .ok (.invokevirtual 53, 3) := by decide +kernel
theorem dL_law_516 : decode cL_law 516 = .ok (.if_icmp .eq 622, 3) := by decide +kernel
theorem dL_law_519 : decode cL_law 519 = .ok (.iconst 0, 1) := by decide +kernel
theorem dL_law_520 : decode cL_law 520 = .ok (.ireturn, 1) := by decide +kernel
theorem dL_law_521 : decode cL_law 521 = .ok (.aload_n 1, 1) := by decide +kernel
theorem dL_law_522 : decode cL_law 522 = .ok (.aload_n 0, 1) := by decide +kernel
theorem dL_law_523 : decode cL_law 523 = .ok (.iload 4, 2) := by decide +kernel
theorem dL_law_525 : decode cL_law 525 = .ok (.iconst 1, 1) := by decide +kernel
theorem dL_law_526 : decode cL_law 526 = .ok (.iadd, 1) := by decide +kernel
theorem dL_law_527 : decode cL_law 527 = .ok (.iaload, 1) := by decide +kernel
theorem dL_law_528 : decode cL_law 528 = .ok (.invokevirtual 54, 3) := by decide +kernel
theorem dL_law_531 : decode cL_law 531 = .ok (.aload_n 2, 1) := by decide +kernel
theorem dL_law_532 : decode cL_law 532 = .ok (.aload_n 0, 1) := by decide +kernel
theorem dL_law_533 : decode cL_law 533 = .ok (.iload 4, 2) := by decide +kernel
theorem dL_law_535 : decode cL_law 535 = .ok (.iconst 1, 1) := by decide +kernel
theorem dL_law_536 : decode cL_law 536 = .ok (.iadd, 1) := by decide +kernel
theorem dL_law_537 : decode cL_law 537 = .ok (.iaload, 1) := by decide +kernel
theorem dL_law_538 : decode cL_law 538 = .ok (.invokevirtual 57, 3) := by decide +kernel
theorem dL_law_541 : decode cL_law 541 = .ok (.if_icmp .eq 597, 3) := by decide +kernel
theorem dL_law_544 : decode cL_law 544 = .ok (.iconst 0, 1) := by decide +kernel
theorem dL_law_545 : decode cL_law 545 = .ok (.ireturn, 1) := by decide +kernel
theorem dL_law_546 : decode cL_law 546 = .ok (.aload_n 1, 1) := by decide +kernel
theorem dL_law_547 : decode cL_law 547 = .ok (.aload_n 0, 1) := by decide +kernel
theorem dL_law_548 : decode cL_law 548 = .ok (.iload 4, 2) := by decide +kernel
theorem dL_law_550 : decode cL_law 550 = .ok (.iconst 1, 1) := by decide +kernel
theorem dL_law_551 : decode cL_law 551 = .ok (.iadd, 1) := by decide +kernel
theorem dL_law_552 : decode cL_law 552 = .ok (.iaload, 1) := by decide +kernel
theorem dL_law_553 : decode cL_law 553 = .ok (.invokevirtual 58, 3) := by decide +kernel
theorem dL_law_556 : decode cL_law 556 = .ok (.aload_n 2, 1) := by decide +kernel
theorem dL_law_557 : decode cL_law 557 = .ok (.aload_n 0, 1) := by decide +kernel
theorem dL_law_558 : decode cL_law 558 = .ok (.iload 4, 2) := by decide +kernel
theorem dL_law_560 : decode cL_law 560 = .ok (.iconst 1, 1) := by decide +kernel
theorem dL_law_561 : decode cL_law 561 = .ok (.iadd, 1) := by decide +kernel
theorem dL_law_562 : decode cL_law 562 = .ok (.iaload, 1) := by decide +kernel
theorem dL_law_563 : decode cL_law 563 = .ok (.invokevirtual 62, 3) := by decide +kernel
theorem dL_law_566 : decode cL_law 566 = .ok (.if_icmp .eq 572, 3) := by decide +kernel
theorem dL_law_569 : decode cL_law 569 = .ok (.iconst 0, 1) := by decide +kernel
theorem dL_law_570 : decode cL_law 570 = .ok (.ireturn, 1) := by decide +kernel
theorem dL_law_571 : decode cL_law 571 = .ok (.aload_n 1, 1) := by decide +kernel
theorem dL_law_572 : decode cL_law 572 = .ok (.aload_n 0, 1) := by decide +kernel
theorem dL_law_573 : decode cL_law 573 = .ok (.iload 4, 2) := by decide +kernel
theorem dL_law_575 : decode cL_law 575 = .ok (.iconst 1, 1) := by decide +kernel
theorem dL_law_576 : decode cL_law 576 = .ok (.iadd, 1) := by decide +kernel
theorem dL_law_577 : decode cL_law 577 = .ok (.iaload, 1) := by decide +kernel
theorem dL_law_578 : decode cL_law 578 = .ok (.aload_n 0, 1) := by decide +kernel
theorem dL_law_579 : decode cL_law 579 = .ok (.iload 4, 2) := by decide +kernel
theorem dL_law_581 : decode cL_law 581 = .ok (.iconst 2, 1) := by decide +kernel
theorem dL_law_582 : decode cL_law 582 = .ok (.iadd, 1) := by decide +kernel
theorem dL_law_583 : decode cL_law 583 = .ok (.iaload, 1) := by decide +kernel
theorem dL_law_584 : decode cL_law 584 = .ok (.aload_n 3, 1) := by decide +kernel
theorem dL_law_585 : decode cL_law 585 = .ok (.invokestatic 63, 3) := by decide +kernel
theorem dL_law_588 : decode cL_law 588 = .ok (.istore 5, 2) := by decide +kernel
theorem dL_law_590 : decode cL_law 590 = .ok (.aload_n 2, 1) := by decide +kernel
theorem dL_law_591 : decode cL_law 591 = .ok (.aload_n 0, 1) := by decide +kernel
theorem dL_law_592 : decode cL_law 592 = .ok (.iload 4, 2) := by decide +kernel
theorem dL_law_594 : decode cL_law 594 = .ok (.iconst 1, 1) := by decide +kernel
theorem dL_law_595 : decode cL_law 595 = .ok (.iadd, 1) := by decide +kernel
theorem dL_law_596 : decode cL_law 596 = .ok (.iaload, 1) := by decide +kernel
theorem dL_law_597 : decode cL_law 597 = .ok (.aload_n 0, 1) := by decide +kernel
theorem dL_law_598 : decode cL_law 598 = .ok (.iload 4, 2) := by decide +kernel
theorem dL_law_600 : decode cL_law 600 = .ok (.iconst 2, 1) := by decide +kernel
theorem dL_law_601 : decode cL_law 601 = .ok (.iadd, 1) := by decide +kernel
theorem dL_law_602 : decode cL_law 602 = .ok (.iaload, 1) := by decide +kernel
theorem dL_law_603 : decode cL_law 603 = .ok (.invokevirtual 68, 3) := by decide +kernel
theorem dL_law_606 : decode cL_law 606 = .ok (.istore 6, 2) := by decide +kernel
theorem dL_law_608 : decode cL_law 608 = .ok (.aload_n 2, 1) := by decide +kernel
theorem dL_law_609 : decode cL_law 609 = .ok (.invokevirtual 69, 3) := by decide +kernel
theorem dL_law_612 : decode cL_law 612 = .ok (.iload 5, 2) := by decide +kernel
theorem dL_law_614 : decode cL_law 614 = .ok (.if_icmp .eq 5, 3) := by decide +kernel
theorem dL_law_617 : decode cL_law 617 = .ok (.iconst 0, 1) := by decide +kernel
theorem dL_law_618 : decode cL_law 618 = .ok (.ireturn, 1) := by decide +kernel
theorem dL_law_619 : decode cL_law 619 = .ok (.iload 5, 2) := by decide +kernel
theorem dL_law_621 : decode cL_law 621 = .ok (.ifCond .ne 15, 3) := by decide +kernel
theorem dL_law_624 : decode cL_law 624 = .ok (.aload_n 3, 1) := by decide +kernel
theorem dL_law_625 : decode cL_law 625 = .ok (.iconst 0, 1) := by decide +kernel
theorem dL_law_626 : decode cL_law 626 = .ok (.laload, 1) := by decide +kernel
theorem dL_law_627 : decode cL_law 627 = .ok (.iload 6, 2) := by decide +kernel
theorem dL_law_629 : decode cL_law 629 = .ok (.i2l, 1) := by decide +kernel
theorem dL_law_630 : decode cL_law 630 = .ok (.lcmp, 1) := by decide +kernel
theorem dL_law_631 : decode cL_law 631 = .ok (.ifCond .eq 5, 3) := by decide +kernel
theorem dL_law_634 : decode cL_law 634 = .ok (.iconst 0, 1) := by decide +kernel
theorem dL_law_635 : decode cL_law 635 = .ok (.ireturn, 1) := by decide +kernel
theorem dL_law_636 : decode cL_law 636 = .ok (.goto 502, 3) := by decide +kernel
theorem dL_law_639 : decode cL_law 639 = .ok (.aload_n 1, 1) := by decide +kernel
theorem dL_law_640 : decode cL_law 640 = .ok (.aload_n 0, 1) := by decide +kernel
theorem dL_law_641 : decode cL_law 641 = .ok (.iload 4, 2) := by decide +kernel
theorem dL_law_643 : decode cL_law 643 = .ok (.iconst 1, 1) := by decide +kernel
theorem dL_law_644 : decode cL_law 644 = .ok (.iadd, 1) := by decide +kernel
theorem dL_law_645 : decode cL_law 645 = .ok (.iaload, 1) := by decide +kernel
theorem dL_law_646 : decode cL_law 646 = .ok (.aload_n 0, 1) := by decide +kernel
theorem dL_law_647 : decode cL_law 647 = .ok (.iload 4, 2) := by decide +kernel
theorem dL_law_649 : decode cL_law 649 = .ok (.iconst 2, 1) := by decide +kernel
theorem dL_law_650 : decode cL_law 650 = .ok (.iadd, 1) := by decide +kernel
theorem dL_law_651 : decode cL_law 651 = .ok (.iaload, 1) := by decide +kernel
theorem dL_law_652 : decode cL_law 652 = .ok (.invokevirtual 72, 3) := by decide +kernel
theorem dL_law_655 : decode cL_law 655 = .ok (.aload_n 2, 1) := by decide +kernel
theorem dL_law_656 : decode cL_law 656 = .ok (.aload_n 0, 1) := by decide +kernel
theorem dL_law_657 : decode cL_law 657 = .ok (.iload 4, 2) := by decide +kernel
theorem dL_law_659 : decode cL_law 659 = .ok (.iconst 1, 1) := by decide +kernel
theorem dL_law_660 : decode cL_law 660 = .ok (.iadd, 1) := by decide +kernel
theorem dL_law_661 : decode cL_law 661 = .ok (.iaload, 1) := by decide +kernel
theorem dL_law_662 : decode cL_law 662 = .ok (.aload_n 0, 1) := by decide +kernel
theorem dL_law_663 : decode cL_law 663 = .ok (.iload 4, 2) := by decide +kernel
theorem dL_law_665 : decode cL_law 665 = .ok (.iconst 2, 1) := by decide +kernel
theorem dL_law_666 : decode cL_law 666 = .ok (.iadd, 1) := by decide +kernel
theorem dL_law_667 : decode cL_law 667 = .ok (.iaload, 1) := by decide +kernel
theorem dL_law_668 : decode cL_law 668 = .ok (.invokevirtual 75, 3) := by decide +kernel
theorem dL_law_671 : decode cL_law 671 = .ok (.if_icmp .eq 467, 3) := by decide +kernel
theorem dL_law_674 : decode cL_law 674 = .ok (.iconst 0, 1) := by decide +kernel
theorem dL_law_675 : decode cL_law 675 = .ok (.ireturn, 1) := by decide +kernel
theorem dL_law_676 : decode cL_law 676 = .ok (.aload_n 1, 1) := by decide +kernel
theorem dL_law_677 : decode cL_law 677 = .ok (.aload_n 0, 1) := by decide +kernel
theorem dL_law_678 : decode cL_law 678 = .ok (.iload 4, 2) := by decide +kernel
theorem dL_law_680 : decode cL_law 680 = .ok (.iconst 1, 1) := by decide +kernel
theorem dL_law_681 : decode cL_law 681 = .ok (.iadd, 1) := by decide +kernel
theorem dL_law_682 : decode cL_law 682 = .ok (.iaload, 1) := by decide +kernel
theorem dL_law_683 : decode cL_law 683 = .ok (.aload_n 0, 1) := by decide +kernel
theorem dL_law_684 : decode cL_law 684 = .ok (.iload 4, 2) := by decide +kernel
theorem dL_law_686 : decode cL_law 686 = .ok (.iconst 2, 1) := by decide +kernel
theorem dL_law_687 : decode cL_law 687 = .ok (.iadd, 1) := by decide +kernel
theorem dL_law_688 : decode cL_law 688 = .ok (.iaload, 1) := by decide +kernel
theorem dL_law_689 : decode cL_law 689 = .ok (.invokevirtual 76, 3) := by decide +kernel
theorem dL_law_692 : decode cL_law 692 = .ok (.aload_n 2, 1) := by decide +kernel
theorem dL_law_693 : decode cL_law 693 = .ok (.aload_n 0, 1) := by decide +kernel
theorem dL_law_694 : decode cL_law 694 = .ok (.iload 4, 2) := by decide +kernel
theorem dL_law_696 : decode cL_law 696 = .ok (.iconst 1, 1) := by decide +kernel
theorem dL_law_697 : decode cL_law 697 = .ok (.iadd, 1) := by decide +kernel
theorem dL_law_698 : decode cL_law 698 = .ok (.iaload, 1) := by decide +kernel
theorem dL_law_699 : decode cL_law 699 = .ok (.aload_n 0, 1) := by decide +kernel
theorem dL_law_700 : decode cL_law 700 = .ok (.iload 4, 2) := by decide +kernel
theorem dL_law_702 : decode cL_law 702 = .ok (.iconst 2, 1) := by decide +kernel
theorem dL_law_703 : decode cL_law 703 = .ok (.iadd, 1) := by decide +kernel
theorem dL_law_704 : decode cL_law 704 = .ok (.iaload, 1) := by decide +kernel
theorem dL_law_705 : decode cL_law 705 = .ok (.invokevirtual 79, 3) := by decide +kernel
theorem dL_law_708 : decode cL_law 708 = .ok (.if_icmp .eq 430, 3) := by decide +kernel
theorem dL_law_711 : decode cL_law 711 = .ok (.iconst 0, 1) := by decide +kernel
theorem dL_law_712 : decode cL_law 712 = .ok (.ireturn, 1) := by decide +kernel
theorem dL_law_713 : decode cL_law 713 = .ok (.aload_n 1, 1) := by decide +kernel
theorem dL_law_714 : decode cL_law 714 = .ok (.aload_n 0, 1) := by decide +kernel
theorem dL_law_715 : decode cL_law 715 = .ok (.iload 4, 2) := by decide +kernel
theorem dL_law_717 : decode cL_law 717 = .ok (.iconst 1, 1) := by decide +kernel
theorem dL_law_718 : decode cL_law 718 = .ok (.iadd, 1) := by decide +kernel
theorem dL_law_719 : decode cL_law 719 = .ok (.iaload, 1) := by decide +kernel
theorem dL_law_720 : decode cL_law 720 = .ok (.invokevirtual 80, 3) := by decide +kernel
theorem dL_law_723 : decode cL_law 723 = .ok (.aload_n 2, 1) := by decide +kernel
theorem dL_law_724 : decode cL_law 724 = .ok (.aload_n 0, 1) := by decide +kernel
theorem dL_law_725 : decode cL_law 725 = .ok (.iload 4, 2) := by decide +kernel
theorem dL_law_727 : decode cL_law 727 = .ok (.iconst 1, 1) := by decide +kernel
theorem dL_law_728 : decode cL_law 728 = .ok (.iadd, 1) := by decide +kernel
theorem dL_law_729 : decode cL_law 729 = .ok (.iaload, 1) := by decide +kernel
theorem dL_law_730 : decode cL_law 730 = .ok (.invokevirtual 84, 3) := by decide +kernel
theorem dL_law_733 : decode cL_law 733 = .ok (.lcmp, 1) := by decide +kernel
theorem dL_law_734 : decode cL_law 734 = .ok (.ifCond .eq 404, 3) := by decide +kernel
theorem dL_law_737 : decode cL_law 737 = .ok (.iconst 0, 1) := by decide +kernel
theorem dL_law_738 : decode cL_law 738 = .ok (.ireturn, 1) := by decide +kernel
theorem dL_law_739 : decode cL_law 739 = .ok (.aload_n 1, 1) := by decide +kernel
theorem dL_law_740 : decode cL_law 740 = .ok (.aload_n 0, 1) := by decide +kernel
theorem dL_law_741 : decode cL_law 741 = .ok (.iload 4, 2) := by decide +kernel
theorem dL_law_743 : decode cL_law 743 = .ok (.iconst 1, 1) := by decide +kernel
theorem dL_law_744 : decode cL_law 744 = .ok (.iadd, 1) := by decide +kernel
theorem dL_law_745 : decode cL_law 745 = .ok (.iaload, 1) := by decide +kernel
theorem dL_law_746 : decode cL_law 746 = .ok (.aload_n 0, 1) := by decide +kernel
theorem dL_law_747 : decode cL_law 747 = .ok (.iload 4, 2) := by decide +kernel
theorem dL_law_749 : decode cL_law 749 = .ok (.iconst 2, 1) := by decide +kernel
theorem dL_law_750 : decode cL_law 750 = .ok (.iadd, 1) := by decide +kernel
theorem dL_law_751 : decode cL_law 751 = .ok (.iaload, 1) := by decide +kernel
theorem dL_law_752 : decode cL_law 752 = .ok (.aload_n 0, 1) := by decide +kernel
theorem dL_law_753 : decode cL_law 753 = .ok (.iload 4, 2) := by decide +kernel
theorem dL_law_755 : decode cL_law 755 = .ok (.iconst 3, 1) := by decide +kernel
theorem dL_law_756 : decode cL_law 756 = .ok (.iadd, 1) := by decide +kernel
theorem dL_law_757 : decode cL_law 757 = .ok (.iaload, 1) := by decide +kernel
theorem dL_law_758 : decode cL_law 758 = .ok (.aload_n 0, 1) := by decide +kernel
theorem dL_law_759 : decode cL_law 759 = .ok (.iload 4, 2) := by decide +kernel
theorem dL_law_761 : decode cL_law 761 = .ok (.iconst 4, 1) := by decide +kernel
theorem dL_law_762 : decode cL_law 762 = .ok (.iadd, 1) := by decide +kernel
theorem dL_law_763 : decode cL_law 763 = .ok (.iaload, 1) := by decide +kernel
theorem dL_law_764 : decode cL_law 764 = .ok (.invokevirtual 85, 3) := by decide +kernel
theorem dL_law_767 : decode cL_law 767 = .ok (.aload_n 2, 1) := by decide +kernel
theorem dL_law_768 : decode cL_law 768 = .ok (.aload_n 0, 1) := by decide +kernel
theorem dL_law_769 : decode cL_law 769 = .ok (.iload 4, 2) := by decide +kernel
theorem dL_law_771 : decode cL_law 771 = .ok (.iconst 1, 1) := by decide +kernel
theorem dL_law_772 : decode cL_law 772 = .ok (.iadd, 1) := by decide +kernel
theorem dL_law_773 : decode cL_law 773 = .ok (.iaload, 1) := by decide +kernel
theorem dL_law_774 : decode cL_law 774 = .ok (.aload_n 0, 1) := by decide +kernel
theorem dL_law_775 : decode cL_law 775 = .ok (.iload 4, 2) := by decide +kernel
theorem dL_law_777 : decode cL_law 777 = .ok (.iconst 2, 1) := by decide +kernel
theorem dL_law_778 : decode cL_law 778 = .ok (.iadd, 1) := by decide +kernel
theorem dL_law_779 : decode cL_law 779 = .ok (.iaload, 1) := by decide +kernel
theorem dL_law_780 : decode cL_law 780 = .ok (.aload_n 0, 1) := by decide +kernel
theorem dL_law_781 : decode cL_law 781 = .ok (.iload 4, 2) := by decide +kernel
theorem dL_law_783 : decode cL_law 783 = .ok (.iconst 3, 1) := by decide +kernel
theorem dL_law_784 : decode cL_law 784 = .ok (.iadd, 1) := by decide +kernel
theorem dL_law_785 : decode cL_law 785 = .ok (.iaload, 1) := by decide +kernel
theorem dL_law_786 : decode cL_law 786 = .ok (.aload_n 0, 1) := by decide +kernel
theorem dL_law_787 : decode cL_law 787 = .ok (.iload 4, 2) := by decide +kernel
theorem dL_law_789 : decode cL_law 789 = .ok (.iconst 4, 1) := by decide +kernel
theorem dL_law_790 : decode cL_law 790 = .ok (.iadd, 1) := by decide +kernel
theorem dL_law_791 : decode cL_law 791 = .ok (.iaload, 1) := by decide +kernel
theorem dL_law_792 : decode cL_law 792 = .ok (.invokevirtual 89, 3) := by decide +kernel
theorem dL_law_795 : decode cL_law 795 = .ok (.if_icmp .eq 343, 3) := by decide +kernel
theorem dL_law_798 : decode cL_law 798 = .ok (.iconst 0, 1) := by decide +kernel
theorem dL_law_799 : decode cL_law 799 = .ok (.ireturn, 1) := by decide +kernel
theorem dL_law_800 : decode cL_law 800 = .ok (.aload_n 1, 1) := by decide +kernel
theorem dL_law_801 : decode cL_law 801 = .ok (.aload_n 0, 1) := by decide +kernel
theorem dL_law_802 : decode cL_law 802 = .ok (.iload 4, 2) := by decide +kernel
theorem dL_law_804 : decode cL_law 804 = .ok (.iconst 1, 1) := by decide +kernel
theorem dL_law_805 : decode cL_law 805 = .ok (.iadd, 1) := by decide +kernel
theorem dL_law_806 : decode cL_law 806 = .ok (.iaload, 1) := by decide +kernel
theorem dL_law_807 : decode cL_law 807 = .ok (.aload_n 0, 1) := by decide +kernel
theorem dL_law_808 : decode cL_law 808 = .ok (.iload 4, 2) := by decide +kernel
theorem dL_law_810 : decode cL_law 810 = .ok (.iconst 2, 1) := by decide +kernel
theorem dL_law_811 : decode cL_law 811 = .ok (.iadd, 1) := by decide +kernel
theorem dL_law_812 : decode cL_law 812 = .ok (.iaload, 1) := by decide +kernel
theorem dL_law_813 : decode cL_law 813 = .ok (.aload_n 0, 1) := by decide +kernel
theorem dL_law_814 : decode cL_law 814 = .ok (.iload 4, 2) := by decide +kernel
theorem dL_law_816 : decode cL_law 816 = .ok (.iconst 3, 1) := by decide +kernel
theorem dL_law_817 : decode cL_law 817 = .ok (.iadd, 1) := by decide +kernel
theorem dL_law_818 : decode cL_law 818 = .ok (.iaload, 1) := by decide +kernel
theorem dL_law_819 : decode cL_law 819 = .ok (.invokevirtual 90, 3) := by decide +kernel
theorem dL_law_822 : decode cL_law 822 = .ok (.aload_n 2, 1) := by decide +kernel
theorem dL_law_823 : decode cL_law 823 = .ok (.aload_n 0, 1) := by decide +kernel
theorem dL_law_824 : decode cL_law 824 = .ok (.iload 4, 2) := by decide +kernel
theorem dL_law_826 : decode cL_law 826 = .ok (.iconst 1, 1) := by decide +kernel
theorem dL_law_827 : decode cL_law 827 = .ok (.iadd, 1) := by decide +kernel
theorem dL_law_828 : decode cL_law 828 = .ok (.iaload, 1) := by decide +kernel
theorem dL_law_829 : decode cL_law 829 = .ok (.aload_n 0, 1) := by decide +kernel
theorem dL_law_830 : decode cL_law 830 = .ok (.iload 4, 2) := by decide +kernel
theorem dL_law_832 : decode cL_law 832 = .ok (.iconst 2, 1) := by decide +kernel
theorem dL_law_833 : decode cL_law 833 = .ok (.iadd, 1) := by decide +kernel
theorem dL_law_834 : decode cL_law 834 = .ok (.iaload, 1) := by decide +kernel
theorem dL_law_835 : decode cL_law 835 = .ok (.aload_n 0, 1) := by decide +kernel
theorem dL_law_836 : decode cL_law 836 = .ok (.iload 4, 2) := by decide +kernel
theorem dL_law_838 : decode cL_law 838 = .ok (.iconst 3, 1) := by decide +kernel
theorem dL_law_839 : decode cL_law 839 = .ok (.iadd, 1) := by decide +kernel
theorem dL_law_840 : decode cL_law 840 = .ok (.iaload, 1) := by decide +kernel
theorem dL_law_841 : decode cL_law 841 = .ok (.invokevirtual 94, 3) := by decide +kernel
theorem dL_law_844 : decode cL_law 844 = .ok (.if_icmp .eq 294, 3) := by decide +kernel
theorem dL_law_847 : decode cL_law 847 = .ok (.iconst 0, 1) := by decide +kernel
theorem dL_law_848 : decode cL_law 848 = .ok (.ireturn, 1) := by decide +kernel
theorem dL_law_849 : decode cL_law 849 = .ok (.aload_n 1, 1) := by decide +kernel
theorem dL_law_850 : decode cL_law 850 = .ok (.aload_n 0, 1) := by decide +kernel
theorem dL_law_851 : decode cL_law 851 = .ok (.iload 4, 2) := by decide +kernel
theorem dL_law_853 : decode cL_law 853 = .ok (.iconst 1, 1) := by decide +kernel
theorem dL_law_854 : decode cL_law 854 = .ok (.iadd, 1) := by decide +kernel
theorem dL_law_855 : decode cL_law 855 = .ok (.iaload, 1) := by decide +kernel
theorem dL_law_856 : decode cL_law 856 = .ok (.aload_n 0, 1) := by decide +kernel
theorem dL_law_857 : decode cL_law 857 = .ok (.iload 4, 2) := by decide +kernel
theorem dL_law_859 : decode cL_law 859 = .ok (.iconst 2, 1) := by decide +kernel
theorem dL_law_860 : decode cL_law 860 = .ok (.iadd, 1) := by decide +kernel
theorem dL_law_861 : decode cL_law 861 = .ok (.iaload, 1) := by decide +kernel
theorem dL_law_862 : decode cL_law 862 = .ok (.invokevirtual 95, 3) := by decide +kernel
theorem dL_law_865 : decode cL_law 865 = .ok (.aload_n 2, 1) := by decide +kernel
theorem dL_law_866 : decode cL_law 866 = .ok (.aload_n 0, 1) := by decide +kernel
theorem dL_law_867 : decode cL_law 867 = .ok (.iload 4, 2) := by decide +kernel
theorem dL_law_869 : decode cL_law 869 = .ok (.iconst 1, 1) := by decide +kernel
theorem dL_law_870 : decode cL_law 870 = .ok (.iadd, 1) := by decide +kernel
theorem dL_law_871 : decode cL_law 871 = .ok (.iaload, 1) := by decide +kernel
theorem dL_law_872 : decode cL_law 872 = .ok (.aload_n 0, 1) := by decide +kernel
theorem dL_law_873 : decode cL_law 873 = .ok (.iload 4, 2) := by decide +kernel
theorem dL_law_875 : decode cL_law 875 = .ok (.iconst 2, 1) := by decide +kernel
theorem dL_law_876 : decode cL_law 876 = .ok (.iadd, 1) := by decide +kernel
theorem dL_law_877 : decode cL_law 877 = .ok (.iaload, 1) := by decide +kernel
theorem dL_law_878 : decode cL_law 878 = .ok (.invokevirtual 98, 3) := by decide +kernel
theorem dL_law_881 : decode cL_law 881 = .ok (.if_icmp .eq 257, 3) := by decide +kernel
theorem dL_law_884 : decode cL_law 884 = .ok (.iconst 0, 1) := by decide +kernel
theorem dL_law_885 : decode cL_law 885 = .ok (.ireturn, 1) := by decide +kernel
theorem dL_law_886 : decode cL_law 886 = .ok (.aload_n 1, 1) := by decide +kernel
theorem dL_law_887 : decode cL_law 887 = .ok (.aload_n 0, 1) := by decide +kernel
theorem dL_law_888 : decode cL_law 888 = .ok (.iload 4, 2) := by decide +kernel
theorem dL_law_890 : decode cL_law 890 = .ok (.iconst 1, 1) := by decide +kernel
theorem dL_law_891 : decode cL_law 891 = .ok (.iadd, 1) := by decide +kernel
theorem dL_law_892 : decode cL_law 892 = .ok (.iaload, 1) := by decide +kernel
theorem dL_law_893 : decode cL_law 893 = .ok (.aload_n 0, 1) := by decide +kernel
theorem dL_law_894 : decode cL_law 894 = .ok (.iload 4, 2) := by decide +kernel
theorem dL_law_896 : decode cL_law 896 = .ok (.iconst 2, 1) := by decide +kernel
theorem dL_law_897 : decode cL_law 897 = .ok (.iadd, 1) := by decide +kernel
theorem dL_law_898 : decode cL_law 898 = .ok (.iaload, 1) := by decide +kernel
theorem dL_law_899 : decode cL_law 899 = .ok (.aload_n 0, 1) := by decide +kernel
theorem dL_law_900 : decode cL_law 900 = .ok (.iload 4, 2) := by decide +kernel
theorem dL_law_902 : decode cL_law 902 = .ok (.iconst 3, 1) := by decide +kernel
theorem dL_law_903 : decode cL_law 903 = .ok (.iadd, 1) := by decide +kernel
theorem dL_law_904 : decode cL_law 904 = .ok (.iaload, 1) := by decide +kernel
theorem dL_law_905 : decode cL_law 905 = .ok (.invokevirtual 99, 3) := by decide +kernel
theorem dL_law_908 : decode cL_law 908 = .ok (.aload_n 2, 1) := by decide +kernel
theorem dL_law_909 : decode cL_law 909 = .ok (.aload_n 0, 1) := by decide +kernel
theorem dL_law_910 : decode cL_law 910 = .ok (.iload 4, 2) := by decide +kernel
theorem dL_law_912 : decode cL_law 912 = .ok (.iconst 1, 1) := by decide +kernel
theorem dL_law_913 : decode cL_law 913 = .ok (.iadd, 1) := by decide +kernel
theorem dL_law_914 : decode cL_law 914 = .ok (.iaload, 1) := by decide +kernel
theorem dL_law_915 : decode cL_law 915 = .ok (.aload_n 0, 1) := by decide +kernel
theorem dL_law_916 : decode cL_law 916 = .ok (.iload 4, 2) := by decide +kernel
theorem dL_law_918 : decode cL_law 918 = .ok (.iconst 2, 1) := by decide +kernel
theorem dL_law_919 : decode cL_law 919 = .ok (.iadd, 1) := by decide +kernel
theorem dL_law_920 : decode cL_law 920 = .ok (.iaload, 1) := by decide +kernel
theorem dL_law_921 : decode cL_law 921 = .ok (.aload_n 0, 1) := by decide +kernel
theorem dL_law_922 : decode cL_law 922 = .ok (.iload 4, 2) := by decide +kernel
theorem dL_law_924 : decode cL_law 924 = .ok (.iconst 3, 1) := by decide +kernel
theorem dL_law_925 : decode cL_law 925 = .ok (.iadd, 1) := by decide +kernel
theorem dL_law_926 : decode cL_law 926 = .ok (.iaload, 1) := by decide +kernel
theorem dL_law_927 : decode cL_law 927 = .ok (.invokevirtual 102, 3) := by decide +kernel
theorem dL_law_930 : decode cL_law 930 = .ok (.if_icmp .eq 208, 3) := by decide +kernel
theorem dL_law_933 : decode cL_law 933 = .ok (.iconst 0, 1) := by decide +kernel
theorem dL_law_934 : decode cL_law 934 = .ok (.ireturn, 1) := by decide +kernel
theorem dL_law_935 : decode cL_law 935 = .ok (.aload_n 1, 1) := by decide +kernel
theorem dL_law_936 : decode cL_law 936 = .ok (.invokevirtual 103, 3) := by decide +kernel
theorem dL_law_939 : decode cL_law 939 = .ok (.aload_n 2, 1) := by decide +kernel
theorem dL_law_940 : decode cL_law 940 = .ok (.invokevirtual 106, 3) := by decide +kernel
theorem dL_law_943 : decode cL_law 943 = .ok (.if_icmp .eq 195, 3) := by decide +kernel
theorem dL_law_946 : decode cL_law 946 = .ok (.iconst 0, 1) := by decide +kernel
theorem dL_law_947 : decode cL_law 947 = .ok (.ireturn, 1) := by decide +kernel
theorem dL_law_948 : decode cL_law 948 = .ok (.aload_n 1, 1) := by decide +kernel
theorem dL_law_949 : decode cL_law 949 = .ok (.aload_n 0, 1) := by decide +kernel
theorem dL_law_950 : decode cL_law 950 = .ok (.iload 4, 2) := by decide +kernel
theorem dL_law_952 : decode cL_law 952 = .ok (.iconst 1, 1) := by decide +kernel
theorem dL_law_953 : decode cL_law 953 = .ok (.iadd, 1) := by decide +kernel
theorem dL_law_954 : decode cL_law 954 = .ok (.iaload, 1) := by decide +kernel
theorem dL_law_955 : decode cL_law 955 = .ok (.aload_n 0, 1) := by decide +kernel
theorem dL_law_956 : decode cL_law 956 = .ok (.iload 4, 2) := by decide +kernel
theorem dL_law_958 : decode cL_law 958 = .ok (.iconst 2, 1) := by decide +kernel
theorem dL_law_959 : decode cL_law 959 = .ok (.iadd, 1) := by decide +kernel
theorem dL_law_960 : decode cL_law 960 = .ok (.iaload, 1) := by decide +kernel
theorem dL_law_961 : decode cL_law 961 = .ok (.invokevirtual 107, 3) := by decide +kernel
theorem dL_law_964 : decode cL_law 964 = .ok (.aload_n 2, 1) := by decide +kernel
theorem dL_law_965 : decode cL_law 965 = .ok (.aload_n 0, 1) := by decide +kernel
theorem dL_law_966 : decode cL_law 966 = .ok (.iload 4, 2) := by decide +kernel
theorem dL_law_968 : decode cL_law 968 = .ok (.iconst 1, 1) := by decide +kernel
theorem dL_law_969 : decode cL_law 969 = .ok (.iadd, 1) := by decide +kernel
theorem dL_law_970 : decode cL_law 970 = .ok (.iaload, 1) := by decide +kernel
theorem dL_law_971 : decode cL_law 971 = .ok (.aload_n 0, 1) := by decide +kernel
theorem dL_law_972 : decode cL_law 972 = .ok (.iload 4, 2) := by decide +kernel
theorem dL_law_974 : decode cL_law 974 = .ok (.iconst 2, 1) := by decide +kernel
theorem dL_law_975 : decode cL_law 975 = .ok (.iadd, 1) := by decide +kernel
theorem dL_law_976 : decode cL_law 976 = .ok (.iaload, 1) := by decide +kernel
theorem dL_law_977 : decode cL_law 977 = .ok (.invokevirtual 110, 3) := by decide +kernel
theorem dL_law_980 : decode cL_law 980 = .ok (.if_icmp .eq 158, 3) := by decide +kernel
theorem dL_law_983 : decode cL_law 983 = .ok (.iconst 0, 1) := by decide +kernel
theorem dL_law_984 : decode cL_law 984 = .ok (.ireturn, 1) := by decide +kernel
theorem dL_law_985 : decode cL_law 985 = .ok (.aload_n 1, 1) := by decide +kernel
theorem dL_law_986 : decode cL_law 986 = .ok (.invokevirtual 111, 3) := by decide +kernel
theorem dL_law_989 : decode cL_law 989 = .ok (.aload_n 2, 1) := by decide +kernel
theorem dL_law_990 : decode cL_law 990 = .ok (.invokevirtual 114, 3) := by decide +kernel
theorem dL_law_993 : decode cL_law 993 = .ok (.if_icmp .eq 145, 3) := by decide +kernel
theorem dL_law_996 : decode cL_law 996 = .ok (.iconst 0, 1) := by decide +kernel
theorem dL_law_997 : decode cL_law 997 = .ok (.ireturn, 1) := by decide +kernel
theorem dL_law_998 : decode cL_law 998 = .ok (.aload_n 1, 1) := by decide +kernel
theorem dL_law_999 : decode cL_law 999 = .ok (.aload_n 0, 1) := by decide +kernel
theorem dL_law_1000 : decode cL_law 1000 = .ok (.iload 4, 2) := by decide +kernel
theorem dL_law_1002 : decode cL_law 1002 = .ok (.iconst 1, 1) := by decide +kernel
theorem dL_law_1003 : decode cL_law 1003 = .ok (.iadd, 1) := by decide +kernel
theorem dL_law_1004 : decode cL_law 1004 = .ok (.iaload, 1) := by decide +kernel
theorem dL_law_1005 : decode cL_law 1005 = .ok (.invokevirtual 115, 3) := by decide +kernel
theorem dL_law_1008 : decode cL_law 1008 = .ok (.aload_n 2, 1) := by decide +kernel
theorem dL_law_1009 : decode cL_law 1009 = .ok (.aload_n 0, 1) := by decide +kernel
theorem dL_law_1010 : decode cL_law 1010 = .ok (.iload 4, 2) := by decide +kernel
theorem dL_law_1012 : decode cL_law 1012 = .ok (.iconst 1, 1) := by decide +kernel
theorem dL_law_1013 : decode cL_law 1013 = .ok (.iadd, 1) := by decide +kernel
theorem dL_law_1014 : decode cL_law 1014 = .ok (.iaload, 1) := by decide +kernel
theorem dL_law_1015 : decode cL_law 1015 = .ok (.invokevirtual 118, 3) := by decide +kernel
theorem dL_law_1018 : decode cL_law 1018 = .ok (.if_icmp .eq 120, 3) := by decide +kernel
theorem dL_law_1021 : decode cL_law 1021 = .ok (.iconst 0, 1) := by decide +kernel
theorem dL_law_1022 : decode cL_law 1022 = .ok (.ireturn, 1) := by decide +kernel
theorem dL_law_1023 : decode cL_law 1023 = .ok (.aload_n 1, 1) := by decide +kernel
theorem dL_law_1024 : decode cL_law 1024 = .ok (.aload_n 0, 1) := by decide +kernel
theorem dL_law_1025 : decode cL_law 1025 = .ok (.iload 4, 2) := by decide +kernel
theorem dL_law_1027 : decode cL_law 1027 = .ok (.iconst 1, 1) := by decide +kernel
theorem dL_law_1028 : decode cL_law 1028 = .ok (.iadd, 1) := by decide +kernel
theorem dL_law_1029 : decode cL_law 1029 = .ok (.iaload, 1) := by decide +kernel
theorem dL_law_1030 : decode cL_law 1030 = .ok (.aload_n 0, 1) := by decide +kernel
theorem dL_law_1031 : decode cL_law 1031 = .ok (.iload 4, 2) := by decide +kernel
theorem dL_law_1033 : decode cL_law 1033 = .ok (.iconst 2, 1) := by decide +kernel
theorem dL_law_1034 : decode cL_law 1034 = .ok (.iadd, 1) := by decide +kernel
theorem dL_law_1035 : decode cL_law 1035 = .ok (.iaload, 1) := by decide +kernel
theorem dL_law_1036 : decode cL_law 1036 = .ok (.invokevirtual 119, 3) := by decide +kernel
theorem dL_law_1039 : decode cL_law 1039 = .ok (.aload_n 2, 1) := by decide +kernel
theorem dL_law_1040 : decode cL_law 1040 = .ok (.aload_n 0, 1) := by decide +kernel
theorem dL_law_1041 : decode cL_law 1041 = .ok (.iload 4, 2) := by decide +kernel
theorem dL_law_1043 : decode cL_law 1043 = .ok (.iconst 1, 1) := by decide +kernel
theorem dL_law_1044 : decode cL_law 1044 = .ok (.iadd, 1) := by decide +kernel
theorem dL_law_1045 : decode cL_law 1045 = .ok (.iaload, 1) := by decide +kernel
theorem dL_law_1046 : decode cL_law 1046 = .ok (.aload_n 0, 1) := by decide +kernel
theorem dL_law_1047 : decode cL_law 1047 = .ok (.iload 4, 2) := by decide +kernel
theorem dL_law_1049 : decode cL_law 1049 = .ok (.iconst 2, 1) := by decide +kernel
theorem dL_law_1050 : decode cL_law 1050 = .ok (.iadd, 1) := by decide +kernel
theorem dL_law_1051 : decode cL_law 1051 = .ok (.iaload, 1) := by decide +kernel
theorem dL_law_1052 : decode cL_law 1052 = .ok (.invokevirtual 122, 3) := by decide +kernel
theorem dL_law_1055 : decode cL_law 1055 = .ok (.if_icmp .eq 83, 3) := by decide +kernel
theorem dL_law_1058 : decode cL_law 1058 = .ok (.iconst 0, 1) := by decide +kernel
theorem dL_law_1059 : decode cL_law 1059 = .ok (.ireturn, 1) := by decide +kernel
theorem dL_law_1060 : decode cL_law 1060 = .ok (.aload_n 1, 1) := by decide +kernel
theorem dL_law_1061 : decode cL_law 1061 = .ok (.aload_n 0, 1) := by decide +kernel
theorem dL_law_1062 : decode cL_law 1062 = .ok (.iload 4, 2) := by decide +kernel
theorem dL_law_1064 : decode cL_law 1064 = .ok (.iconst 1, 1) := by decide +kernel
theorem dL_law_1065 : decode cL_law 1065 = .ok (.iadd, 1) := by decide +kernel
theorem dL_law_1066 : decode cL_law 1066 = .ok (.iaload, 1) := by decide +kernel
theorem dL_law_1067 : decode cL_law 1067 = .ok (.aload_n 0, 1) := by decide +kernel
theorem dL_law_1068 : decode cL_law 1068 = .ok (.iload 4, 2) := by decide +kernel
theorem dL_law_1070 : decode cL_law 1070 = .ok (.iconst 2, 1) := by decide +kernel
theorem dL_law_1071 : decode cL_law 1071 = .ok (.iadd, 1) := by decide +kernel
theorem dL_law_1072 : decode cL_law 1072 = .ok (.iaload, 1) := by decide +kernel
theorem dL_law_1073 : decode cL_law 1073 = .ok (.ifCond .eq 7, 3) := by decide +kernel
theorem dL_law_1076 : decode cL_law 1076 = .ok (.iconst 1, 1) := by decide +kernel
theorem dL_law_1077 : decode cL_law 1077 = .ok (.goto 4, 3) := by decide +kernel
theorem dL_law_1080 : decode cL_law 1080 = .ok (.iconst 0, 1) := by decide +kernel
theorem dL_law_1081 : decode cL_law 1081 = .ok (.invokevirtual 123, 3) := by decide +kernel
theorem dL_law_1084 : decode cL_law 1084 = .ok (.aload_n 2, 1) := by decide +kernel
theorem dL_law_1085 : decode cL_law 1085 = .ok (.aload_n 0, 1) := by decide +kernel
theorem dL_law_1086 : decode cL_law 1086 = .ok (.iload 4, 2) := by decide +kernel
theorem dL_law_1088 : decode cL_law 1088 = .ok (.iconst 1, 1) := by decide +kernel
theorem dL_law_1089 : decode cL_law 1089 = .ok (.iadd, 1) := by decide +kernel
theorem dL_law_1090 : decode cL_law 1090 = .ok (.iaload, 1) := by decide +kernel
theorem dL_law_1091 : decode cL_law 1091 = .ok (.aload_n 0, 1) := by decide +kernel
theorem dL_law_1092 : decode cL_law 1092 = .ok (.iload 4, 2) := by decide +kernel
theorem dL_law_1094 : decode cL_law 1094 = .ok (.iconst 2, 1) := by decide +kernel
theorem dL_law_1095 : decode cL_law 1095 = .ok (.iadd, 1) := by decide +kernel
theorem dL_law_1096 : decode cL_law 1096 = .ok (.iaload, 1) := by decide +kernel
theorem dL_law_1097 : decode cL_law 1097 = .ok (.ifCond .eq 7, 3) := by decide +kernel
theorem dL_law_1100 : decode cL_law 1100 = .ok (.iconst 1, 1) := by decide +kernel
theorem dL_law_1101 : decode cL_law 1101 = .ok (.goto 4, 3) := by decide +kernel
theorem dL_law_1104 : decode cL_law 1104 = .ok (.iconst 0, 1) := by decide +kernel
theorem dL_law_1105 : decode cL_law 1105 = .ok (.invokevirtual 127, 3) := by decide +kernel
theorem dL_law_1108 : decode cL_law 1108 = .ok (.if_icmp .eq 30, 3) := by decide +kernel
theorem dL_law_1111 : decode cL_law 1111 = .ok (.iconst 0, 1) := by decide +kernel
theorem dL_law_1112 : decode cL_law 1112 = .ok (.ireturn, 1) := by decide +kernel
theorem dL_law_1113 : decode cL_law 1113 = .ok (.aload_n 1, 1) := by decide +kernel
theorem dL_law_1114 : decode cL_law 1114 = .ok (.aload_n 0, 1) := by decide +kernel
theorem dL_law_1115 : decode cL_law 1115 = .ok (.iload 4, 2) := by decide +kernel
theorem dL_law_1117 : decode cL_law 1117 = .ok (.iconst 1, 1) := by decide +kernel
theorem dL_law_1118 : decode cL_law 1118 = .ok (.iadd, 1) := by decide +kernel
theorem dL_law_1119 : decode cL_law 1119 = .ok (.iaload, 1) := by decide +kernel
theorem dL_law_1120 : decode cL_law 1120 = .ok (.invokevirtual 128, 3) := by decide +kernel
theorem dL_law_1123 : decode cL_law 1123 = .ok (.aload_n 2, 1) := by decide +kernel
theorem dL_law_1124 : decode cL_law 1124 = .ok (.aload_n 0, 1) := by decide +kernel
theorem dL_law_1125 : decode cL_law 1125 = .ok (.iload 4, 2) := by decide +kernel
theorem dL_law_1127 : decode cL_law 1127 = .ok (.iconst 1, 1) := by decide +kernel
theorem dL_law_1128 : decode cL_law 1128 = .ok (.iadd, 1) := by decide +kernel
theorem dL_law_1129 : decode cL_law 1129 = .ok (.iaload, 1) := by decide +kernel
theorem dL_law_1130 : decode cL_law 1130 = .ok (.invokevirtual 131, 3) := by decide +kernel
theorem dL_law_1133 : decode cL_law 1133 = .ok (.if_icmp .eq 5, 3) := by decide +kernel
theorem dL_law_1136 : decode cL_law 1136 = .ok (.iconst 0, 1) := by decide +kernel
theorem dL_law_1137 : decode cL_law 1137 = .ok (.ireturn, 1) := by decide +kernel
theorem dL_law_1138 : decode cL_law 1138 = .ok (.iinc 4 7, 3) := by decide +kernel
theorem dL_law_1141 : decode cL_law 1141 = .ok (.goto (-1118), 3) := by decide +kernel
theorem dL_law_1144 : decode cL_law 1144 = .ok (.iconst 1, 1) := by decide +kernel
theorem dL_law_1145 : decode cL_law 1145 = .ok (.ireturn, 1) := by decide +kernel
theorem dJ11_isValidCodePoint_9a6ad_0 : decode cJ11_isValidCodePoint_9a6ad 0 = .ok (.iload_n 0, 1) := by decide +kernel
theorem dJ11_isValidCodePoint_9a6ad_1 : decode cJ11_isValidCodePoint_9a6ad 1 = .ok (.bipush 16, 2) := by decide +kernel
theorem dJ11_isValidCodePoint_9a6ad_3 : decode cJ11_isValidCodePoint_9a6ad 3 = .ok (.iushr, 1) := by decide +kernel
theorem dJ11_isValidCodePoint_9a6ad_4 : decode cJ11_isValidCodePoint_9a6ad 4 = .ok (.istore_n 1, 1) := by decide +kernel
theorem dJ11_isValidCodePoint_9a6ad_5 : decode cJ11_isValidCodePoint_9a6ad 5 = .ok (.iload_n 1, 1) := by decide +kernel
theorem dJ11_isValidCodePoint_9a6ad_6 : decode cJ11_isValidCodePoint_9a6ad 6 = .ok (.bipush 17, 2) := by decide +kernel
theorem dJ11_isValidCodePoint_9a6ad_8 : decode cJ11_isValidCodePoint_9a6ad 8 = .ok (.if_icmp .ge 7, 3) := by decide +kernel
theorem dJ11_isValidCodePoint_9a6ad_11 : decode cJ11_isValidCodePoint_9a6ad 11 = .ok (.iconst 1, 1) := by decide +kernel
theorem dJ11_isValidCodePoint_9a6ad_12 : decode cJ11_isValidCodePoint_9a6ad 12 = .ok (.goto 4, 3) := by decide +kernel
theorem dJ11_isValidCodePoint_9a6ad_15 : decode cJ11_isValidCodePoint_9a6ad 15 = .ok (.iconst 0, 1) := by decide +kernel
theorem dJ11_isValidCodePoint_9a6ad_16 : decode cJ11_isValidCodePoint_9a6ad 16 = .ok (.ireturn, 1) := by decide +kernel
theorem dJ11_highSurrogate_5068e_0 : decode cJ11_highSurrogate_5068e 0 = .ok (.iload_n 0, 1) := by decide +kernel
theorem dJ11_highSurrogate_5068e_1 : decode cJ11_highSurrogate_5068e 1 = .ok (.bipush 10, 2) := by decide +kernel
theorem dJ11_highSurrogate_5068e_3 : decode cJ11_highSurrogate_5068e 3 = .ok (.iushr, 1) := by decide +kernel
theorem dJ11_highSurrogate_5068e_4 : decode cJ11_highSurrogate_5068e 4 = .ok (.ldc 110, 2) := by decide +kernel
theorem dJ11_highSurrogate_5068e_6 : decode cJ11_highSurrogate_5068e 6 = .ok (.iadd, 1) := by decide +kernel
theorem dJ11_highSurrogate_5068e_7 : decode cJ11_highSurrogate_5068e 7 = .ok (.i2c, 1) := by decide +kernel
theorem dJ11_highSurrogate_5068e_8 : decode cJ11_highSurrogate_5068e 8 = .ok (.ireturn, 1) := by decide +kernel
theorem dJ11_lowSurrogate_5068e_0 : decode cJ11_lowSurrogate_5068e 0 = .ok (.iload_n 0, 1) := by decide +kernel
theorem dJ11_lowSurrogate_5068e_1 : decode cJ11_lowSurrogate_5068e 1 = .ok (.sipush 1023, 3) := by decide +kernel
theorem dJ11_lowSurrogate_5068e_4 : decode cJ11_lowSurrogate_5068e 4 = .ok (.iand, 1) := by decide +kernel
theorem dJ11_lowSurrogate_5068e_5 : decode cJ11_lowSurrogate_5068e 5 = .ok (.ldc 76, 2) := by decide +kernel
theorem dJ11_lowSurrogate_5068e_7 : decode cJ11_lowSurrogate_5068e 7 = .ok (.iadd, 1) := by decide +kernel
theorem dJ11_lowSurrogate_5068e_8 : decode cJ11_lowSurrogate_5068e 8 = .ok (.i2c, 1) := by decide +kernel
theorem dJ11_lowSurrogate_5068e_9 : decode cJ11_lowSurrogate_5068e 9 = .ok (.ireturn, 1) := by decide +kernel
theorem dJ9_max_7cf53_0 : decode cJ9_max_7cf53 0 = .ok (.iload_n 0, 1) := by decide +kernel
theorem dJ9_max_7cf53_1 : decode cJ9_max_7cf53 1 = .ok (.iload_n 1, 1) := by decide +kernel
theorem dJ9_max_7cf53_2 : decode cJ9_max_7cf53 2 = .ok (.if_icmp .lt 7, 3) := by decide +kernel
theorem dJ9_max_7cf53_5 : decode cJ9_max_7cf53 5 = .ok (.iload_n 0, 1) := by decide +kernel
theorem dJ9_max_7cf53_6 : decode cJ9_max_7cf53 6 = .ok (.goto 4, 3) := by decide +kernel
theorem dJ9_max_7cf53_9 : decode cJ9_max_7cf53 9 = .ok (.iload_n 1, 1) := by decide +kernel
theorem dJ9_max_7cf53_10 : decode cJ9_max_7cf53 10 = .ok (.ireturn, 1) := by decide +kernel
theorem dJ9_min_7cf53_0 : decode cJ9_min_7cf53 0 = .ok (.iload_n 0, 1) := by decide +kernel
theorem dJ9_min_7cf53_1 : decode cJ9_min_7cf53 1 = .ok (.iload_n 1, 1) := by decide +kernel
theorem dJ9_min_7cf53_2 : decode cJ9_min_7cf53 2 = .ok (.if_icmp .gt 7, 3) := by decide +kernel
theorem dJ9_min_7cf53_5 : decode cJ9_min_7cf53 5 = .ok (.iload_n 0, 1) := by decide +kernel
theorem dJ9_min_7cf53_6 : decode cJ9_min_7cf53 6 = .ok (.goto 4, 3) := by decide +kernel
theorem dJ9_min_7cf53_9 : decode cJ9_min_7cf53 9 = .ok (.iload_n 1, 1) := by decide +kernel
theorem dJ9_min_7cf53_10 : decode cJ9_min_7cf53 10 = .ok (.ireturn, 1) := by decide +kernel
theorem dJ0_length_8abf5_0 : decode cJ0_length_8abf5 0 = .ok (.aload_n 0, 1) := by decide +kernel
theorem dJ0_length_8abf5_1 : decode cJ0_length_8abf5 1 = .ok (.getfield 9, 3) := by decide +kernel
theorem dJ0_length_8abf5_4 : decode cJ0_length_8abf5 4 = .ok (.arraylength, 1) := by decide +kernel
theorem dJ0_length_8abf5_5 : decode cJ0_length_8abf5 5 = .ok (.aload_n 0, 1) := by decide +kernel
theorem dJ0_length_8abf5_6 : decode cJ0_length_8abf5 6 = .ok (.invokevirtual 335, 3) := by decide +kernel
theorem dJ0_length_8abf5_9 : decode cJ0_length_8abf5 9 = .ok (.ishr, 1) := by decide +kernel
theorem dJ0_length_8abf5_10 : decode cJ0_length_8abf5 10 = .ok (.ireturn, 1) := by decide +kernel
theorem dJ0_charAt_5068e_0 : decode cJ0_charAt_5068e 0 = .ok (.aload_n 0, 1) := by decide +kernel
theorem dJ0_charAt_5068e_1 : decode cJ0_charAt_5068e 1 = .ok (.invokevirtual 492, 3) := by decide +kernel
theorem dJ0_charAt_5068e_4 : decode cJ0_charAt_5068e 4 = .ok (.ifCond .eq 12, 3) := by decide +kernel
theorem dJ0_charAt_5068e_7 : decode cJ0_charAt_5068e 7 = .ok (.aload_n 0, 1) := by decide +kernel
theorem dJ0_charAt_5068e_8 : decode cJ0_charAt_5068e 8 = .ok (.getfield 9, 3) := by decide +kernel
theorem dJ0_charAt_5068e_11 : decode cJ0_charAt_5068e 11 = .ok (.iload_n 1, 1) := by decide +kernel
theorem dJ0_charAt_5068e_12 : decode cJ0_charAt_5068e 12 = .ok (.invokestatic 495, 3) := by decide +kernel
theorem dJ0_charAt_5068e_15 : decode cJ0_charAt_5068e 15 = .ok (.ireturn, 1) := by decide +kernel
theorem dJ0_charAt_5068e_16 : decode cJ0_charAt_5068e 16 = .ok (.aload_n 0, 1) := by decide +kernel
theorem dJ0_charAt_5068e_17 : decode cJ0_charAt_5068e 17 = .ok (.getfield 9, 3) := by decide +kernel
theorem dJ0_charAt_5068e_20 : decode cJ0_charAt_5068e 20 = .ok (.iload_n 1, 1) := by decide +kernel
theorem dJ0_charAt_5068e_21 : decode cJ0_charAt_5068e 21 = .ok (.invokestatic 498, 3) := by decide +kernel
theorem dJ0_charAt_5068e_24 : decode cJ0_charAt_5068e 24 = .ok (.ireturn, 1) := by decide +kernel
theorem dJ0_indexOf_0f7a4_0 : decode cJ0_indexOf_0f7a4 0 = .ok (.aload_n 0, 1) := by decide +kernel
theorem dJ0_indexOf_0f7a4_1 : decode cJ0_indexOf_0f7a4 1 = .ok (.iload_n 1, 1) := by decide +kernel
theorem dJ0_indexOf_0f7a4_2 : decode cJ0_indexOf_0f7a4 2 = .ok (.iconst 0, 1) := by decide +kernel
theorem dJ0_indexOf_0f7a4_3 : decode cJ0_indexOf_0f7a4 3 = .ok (.invokevirtual 633, 3) := by decide +kernel
theorem dJ0_indexOf_0f7a4_6 : decode cJ0_indexOf_0f7a4 6 = .ok (.ireturn, 1) := by decide +kernel
theorem dJ0_indexOf_7cf53_0 : decode cJ0_indexOf_7cf53 0 = .ok (.aload_n 0, 1) := by decide +kernel
theorem dJ0_indexOf_7cf53_1 : decode cJ0_indexOf_7cf53 1 = .ok (.invokevirtual 492, 3) := by decide +kernel
theorem dJ0_indexOf_7cf53_4 : decode cJ0_indexOf_7cf53 4 = .ok (.ifCond .eq 19, 3) := by decide +kernel
theorem dJ0_indexOf_7cf53_7 : decode cJ0_indexOf_7cf53 7 = .ok (.aload_n 0, 1) := by decide +kernel
theorem dJ0_indexOf_7cf53_8 : decode cJ0_indexOf_7cf53 8 = .ok (.getfield 9, 3) := by decide +kernel
theorem dJ0_indexOf_7cf53_11 : decode cJ0_indexOf_7cf53 11 = .ok (.iload_n 1, 1) := by decide +kernel
theorem dJ0_indexOf_7cf53_12 : decode cJ0_indexOf_7cf53 12 = .ok (.iload_n 2, 1) := by decide +kernel
theorem dJ0_indexOf_7cf53_13 : decode cJ0_indexOf_7cf53 13 = .ok (.aload_n 0, 1) := by decide +kernel
theorem dJ0_indexOf_7cf53_14 : decode cJ0_indexOf_7cf53 14 = .ok (.invokevirtual 505, 3) := by decide +kernel
theorem dJ0_indexOf_7cf53_17 : decode cJ0_indexOf_7cf53 17 = .ok (.invokestatic 637, 3) := by decide +kernel
theorem dJ0_indexOf_7cf53_20 : decode cJ0_indexOf_7cf53 20 = .ok (.goto 16, 3) := by decide +kernel
theorem dJ0_indexOf_7cf53_23 : decode cJ0_indexOf_7cf53 23 = .ok (.aload_n 0, 1) := by decide +kernel
theorem dJ0_indexOf_7cf53_24 : decode cJ0_indexOf_7cf53 24 = .ok (.getfield 9, 3) := by decide +kernel
theorem dJ0_indexOf_7cf53_27 : decode cJ0_indexOf_7cf53 27 = .ok (.iload_n 1, 1) := by decide +kernel
theorem dJ0_indexOf_7cf53_28 : decode cJ0_indexOf_7cf53 28 = .ok (.iload_n 2, 1) := by decide +kernel
theorem dJ0_indexOf_7cf53_29 : decode cJ0_indexOf_7cf53 29 = .ok (.aload_n 0, 1) := by decide +kernel
theorem dJ0_indexOf_7cf53_30 : decode cJ0_indexOf_7cf53 30 = .ok (.invokevirtual 505, 3) := by decide +kernel
theorem dJ0_indexOf_7cf53_33 : decode cJ0_indexOf_7cf53 33 = .ok (.invokestatic 640, 3) := by decide +kernel
theorem dJ0_indexOf_7cf53_36 : decode cJ0_indexOf_7cf53 36 = .ok (.ireturn, 1) := by decide +kernel
theorem dJ0_coder_7d493_0 : decode cJ0_coder_7d493 0 = .ok (.getstatic 38, 3) := by decide +kernel
theorem dJ0_coder_7d493_3 : decode cJ0_coder_7d493 3 = .ok (.ifCond .eq 10, 3) := by decide +kernel
theorem dJ0_coder_7d493_6 : decode cJ0_coder_7d493 6 = .ok (.aload_n 0, 1) := by decide +kernel
theorem dJ0_coder_7d493_7 : decode cJ0_coder_7d493 7 = .ok (.getfield 15, 3) := by decide +kernel
theorem dJ0_coder_7d493_10 : decode cJ0_coder_7d493 10 = .ok (.goto 4, 3) := by decide +kernel
theorem dJ0_coder_7d493_13 : decode cJ0_coder_7d493 13 = .ok (.iconst 1, 1) := by decide +kernel
theorem dJ0_coder_7d493_14 : decode cJ0_coder_7d493 14 = .ok (.ireturn, 1) := by decide +kernel
theorem dJ0_isLatin1_aae02_0 : decode cJ0_isLatin1_aae02 0 = .ok (.getstatic 38, 3) := by decide +kernel
theorem dJ0_isLatin1_aae02_3 : decode cJ0_isLatin1_aae02 3 = .ok (.ifCond .eq 14, 3) := by decide +kernel
theorem dJ0_isLatin1_aae02_6 : decode cJ0_isLatin1_aae02 6 = .ok (.aload_n 0, 1) := by decide +kernel
theorem dJ0_isLatin1_aae02_7 : decode cJ0_isLatin1_aae02 7 = .ok (.getfield 15, 3) := by decide +kernel
theorem dJ0_isLatin1_aae02_10 : decode cJ0_isLatin1_aae02 10 = .ok (.ifCond .ne 7, 3) := by decide +kernel
theorem dJ0_isLatin1_aae02_13 : decode cJ0_isLatin1_aae02 13 = .ok (.iconst 1, 1) := by decide +kernel
theorem dJ0_isLatin1_aae02_14 : decode cJ0_isLatin1_aae02 14 = .ok (.goto 4, 3) := by decide +kernel
theorem dJ0_isLatin1_aae02_17 : decode cJ0_isLatin1_aae02 17 = .ok (.iconst 0, 1) := by decide +kernel
theorem dJ0_isLatin1_aae02_18 : decode cJ0_isLatin1_aae02 18 = .ok (.ireturn, 1) := by decide +kernel
theorem dJ0_checkIndex_df160_0 : decode cJ0_checkIndex_df160 0 = .ok (.iload_n 0, 1) := by decide +kernel
theorem dJ0_checkIndex_df160_1 : decode cJ0_checkIndex_df160 1 = .ok (.iload_n 1, 1) := by decide +kernel
theorem dJ0_checkIndex_df160_2 : decode cJ0_checkIndex_df160 2 = .ok (.getstatic 1053, 3) := by decide +kernel
theorem dJ0_checkIndex_df160_5 : decode cJ0_checkIndex_df160 5 = .ok (.invokestatic 1059, 3) := by decide +kernel
theorem dJ0_checkIndex_df160_8 : decode cJ0_checkIndex_df160 8 = .ok (.pop, 1) := by decide +kernel
theorem dJ0_checkIndex_df160_9 : decode cJ0_checkIndex_df160 9 = .ok (.return_, 1) := by decide +kernel
theorem dJ0_checkBoundsBeginEnd_23922_0 : decode cJ0_checkBoundsBeginEnd_23922 0 = .ok (.iload_n 0, 1) := by decide +kernel
theorem dJ0_checkBoundsBeginEnd_23922_1 : decode cJ0_checkBoundsBeginEnd_23922 1 = .ok (.iload_n 1, 1) := by decide +kernel
theorem dJ0_checkBoundsBeginEnd_23922_2 : decode cJ0_checkBoundsBeginEnd_23922 2 = .ok (.iload_n 2, 1) := by decide +kernel
theorem dJ0_checkBoundsBeginEnd_23922_3 : decode cJ0_checkBoundsBeginEnd_23922 3 = .ok (.getstatic 1053, 3) := by decide +kernel
theorem dJ0_checkBoundsBeginEnd_23922_6 : decode cJ0_checkBoundsBeginEnd_23922 6 = .ok (.invokestatic 1062, 3) := by decide +kernel
theorem dJ0_checkBoundsBeginEnd_23922_9 : decode cJ0_checkBoundsBeginEnd_23922 9 = .ok (.pop, 1) := by decide +kernel
theorem dJ0_checkBoundsBeginEnd_23922_10 : decode cJ0_checkBoundsBeginEnd_23922 10 = .ok (.return_, 1) := by decide +kernel
theorem dJ1_charAt_3b067_0 : decode cJ1_charAt_3b067 0 = .ok (.iload_n 1, 1) := by decide +kernel
theorem dJ1_charAt_3b067_1 : decode cJ1_charAt_3b067 1 = .ok (.aload_n 0, 1) := by decide +kernel
theorem dJ1_charAt_3b067_2 : decode cJ1_charAt_3b067 2 = .ok (.arraylength, 1) := by decide +kernel
theorem dJ1_charAt_3b067_3 : decode cJ1_charAt_3b067 3 = .ok (.invokestatic 9, 3) := by decide +kernel
theorem dJ1_charAt_3b067_6 : decode cJ1_charAt_3b067 6 = .ok (.aload_n 0, 1) := by decide +kernel
theorem dJ1_charAt_3b067_7 : decode cJ1_charAt_3b067 7 = .ok (.iload_n 1, 1) := by decide +kernel
theorem dJ1_charAt_3b067_8 : decode cJ1_charAt_3b067 8 = .ok (.baload, 1) := by decide +kernel
theorem dJ1_charAt_3b067_9 : decode cJ1_charAt_3b067 9 = .ok (.sipush 255, 3) := by decide +kernel
theorem dJ1_charAt_3b067_12 : decode cJ1_charAt_3b067 12 = .ok (.iand, 1) := by decide +kernel
theorem dJ1_charAt_3b067_13 : decode cJ1_charAt_3b067 13 = .ok (.i2c, 1) := by decide +kernel
theorem dJ1_charAt_3b067_14 : decode cJ1_charAt_3b067 14 = .ok (.ireturn, 1) := by decide +kernel
theorem dJ1_canEncode_9a6ad_0 : decode cJ1_canEncode_9a6ad 0 = .ok (.iload_n 0, 1) := by decide +kernel
theorem dJ1_canEncode_9a6ad_1 : decode cJ1_canEncode_9a6ad 1 = .ok (.ifCond .lt 14, 3) := by decide +kernel
theorem dJ1_canEncode_9a6ad_4 : decode cJ1_canEncode_9a6ad 4 = .ok (.iload_n 0, 1) := by decide +kernel
theorem dJ1_canEncode_9a6ad_5 : decode cJ1_canEncode_9a6ad 5 = .ok (.sipush 255, 3) := by decide +kernel
theorem dJ1_canEncode_9a6ad_8 : decode cJ1_canEncode_9a6ad 8 = .ok (.if_icmp .gt 7, 3) := by decide +kernel
theorem dJ1_canEncode_9a6ad_11 : decode cJ1_canEncode_9a6ad 11 = .ok (.iconst 1, 1) := by decide +kernel
theorem dJ1_canEncode_9a6ad_12 : decode cJ1_canEncode_9a6ad 12 = .ok (.goto 4, 3) := by decide +kernel
theorem dJ1_canEncode_9a6ad_15 : decode cJ1_canEncode_9a6ad 15 = .ok (.iconst 0, 1) := by decide +kernel
theorem dJ1_canEncode_9a6ad_16 : decode cJ1_canEncode_9a6ad 16 = .ok (.ireturn, 1) := by decide +kernel
theorem dJ1_indexOf_4cfef_0 : decode cJ1_indexOf_4cfef 0 = .ok (.iload_n 1, 1) := by decide +kernel
theorem dJ1_indexOf_4cfef_1 : decode cJ1_indexOf_4cfef 1 = .ok (.invokestatic 88, 3) := by decide +kernel
theorem dJ1_indexOf_4cfef_4 : decode cJ1_indexOf_4cfef 4 = .ok (.ifCond .ne 5, 3) := by decide +kernel
theorem dJ1_indexOf_4cfef_7 : decode cJ1_indexOf_4cfef 7 = .ok (.iconst (-1), 1) := by decide +kernel
theorem dJ1_indexOf_4cfef_8 : decode cJ1_indexOf_4cfef 8 = .ok (.ireturn, 1) := by decide +kernel
theorem dJ1_indexOf_4cfef_9 : decode cJ1_indexOf_4cfef 9 = .ok (.iload_n 2, 1) := by decide +kernel
theorem dJ1_indexOf_4cfef_10 : decode cJ1_indexOf_4cfef 10 = .ok (.iconst 0, 1) := by decide +kernel
theorem dJ1_indexOf_4cfef_11 : decode cJ1_indexOf_4cfef 11 = .ok (.invokestatic 92, 3) := by decide +kernel
theorem dJ1_indexOf_4cfef_14 : decode cJ1_indexOf_4cfef 14 = .ok (.istore_n 2, 1) := by decide +kernel
theorem dJ1_indexOf_4cfef_15 : decode cJ1_indexOf_4cfef 15 = .ok (.iload_n 3, 1) := by decide +kernel
theorem dJ1_indexOf_4cfef_16 : decode cJ1_indexOf_4cfef 16 = .ok (.aload_n 0, 1) := by decide +kernel
theorem dJ1_indexOf_4cfef_17 : decode cJ1_indexOf_4cfef 17 = .ok (.arraylength, 1) := by decide +kernel
theorem dJ1_indexOf_4cfef_18 : decode cJ1_indexOf_4cfef 18 = .ok (.invokestatic 38, 3) := by decide +kernel
theorem dJ1_indexOf_4cfef_21 : decode cJ1_indexOf_4cfef 21 = .ok (.istore_n 3, 1) := by decide +kernel
theorem dJ1_indexOf_4cfef_22 : decode cJ1_indexOf_4cfef 22 = .ok (.iload_n 2, 1) := by decide +kernel
theorem dJ1_indexOf_4cfef_23 : decode cJ1_indexOf_4cfef 23 = .ok (.iload_n 3, 1) := by decide +kernel
theorem dJ1_indexOf_4cfef_24 : decode cJ1_indexOf_4cfef 24 = .ok (.if_icmp .lt 5, 3) := by decide +kernel
theorem dJ1_indexOf_4cfef_27 : decode cJ1_indexOf_4cfef 27 = .ok (.iconst (-1), 1) := by decide +kernel
theorem dJ1_indexOf_4cfef_28 : decode cJ1_indexOf_4cfef 28 = .ok (.ireturn, 1) := by decide +kernel
theorem dJ1_indexOf_4cfef_29 : decode cJ1_indexOf_4cfef 29 = .ok (.aload_n 0, 1) := by decide +kernel
theorem dJ1_indexOf_4cfef_30 : decode cJ1_indexOf_4cfef 30 = .ok (.iload_n 1, 1) := by decide +kernel
theorem dJ1_indexOf_4cfef_31 : decode cJ1_indexOf_4cfef 31 = .ok (.iload_n 2, 1) := by decide +kernel
theorem dJ1_indexOf_4cfef_32 : decode cJ1_indexOf_4cfef 32 = .ok (.iload_n 3, 1) := by decide +kernel
theorem dJ1_indexOf_4cfef_33 : decode cJ1_indexOf_4cfef 33 = .ok (.invokestatic 95, 3) := by decide +kernel
theorem dJ1_indexOf_4cfef_36 : decode cJ1_indexOf_4cfef 36 = .ok (.ireturn, 1) := by decide +kernel
theorem dJ1_indexOfChar_4cfef_0 : decode cJ1_indexOfChar_4cfef 0 = .ok (.iload_n 1, 1) := by decide +kernel
theorem dJ1_indexOfChar_4cfef_1 : decode cJ1_indexOfChar_4cfef 1 = .ok (.i2b, 1) := by decide +kernel
theorem dJ1_indexOfChar_4cfef_2 : decode cJ1_indexOfChar_4cfef 2 = .ok (.istore 4, 2) := by decide +kernel
theorem dJ1_indexOfChar_4cfef_4 : decode cJ1_indexOfChar_4cfef 4 = .ok (.iload_n 2, 1) := by decide +kernel
theorem dJ1_indexOfChar_4cfef_5 : decode cJ1_indexOfChar_4cfef 5 = .ok (.istore 5, 2) := by decide +kernel
theorem dJ1_indexOfChar_4cfef_7 : decode cJ1_indexOfChar_4cfef 7 = .ok (.iload 5, 2) := by decide +kernel
theorem dJ1_indexOfChar_4cfef_9 : decode cJ1_indexOfChar_4cfef 9 = .ok (.iload_n 3, 1) := by decide +kernel
theorem dJ1_indexOfChar_4cfef_10 : decode cJ1_indexOfChar_4cfef 10 = .ok (.if_icmp .ge 21, 3) := by decide +kernel
theorem dJ1_indexOfChar_4cfef_13 : decode cJ1_indexOfChar_4cfef 13 = .ok (.aload_n 0, 1) := by decide +kernel
theorem dJ1_indexOfChar_4cfef_14 : decode cJ1_indexOfChar_4cfef 14 = .ok (.iload 5, 2) := by decide +kernel
theorem dJ1_indexOfChar_4cfef_16 : decode cJ1_indexOfChar_4cfef 16 = .ok (.baload, 1) := by decide +kernel
theorem dJ1_indexOfChar_4cfef_17 : decode cJ1_indexOfChar_4cfef 17 = .ok (.iload 4, 2) := by decide +kernel
theorem dJ1_indexOfChar_4cfef_19 : decode cJ1_indexOfChar_4cfef 19 = .ok (.if_icmp .ne 6, 3) := by decide +kernel
theorem dJ1_indexOfChar_4cfef_22 : decode cJ1_indexOfChar_4cfef 22 = .ok (.iload 5, 2) := by decide +kernel
theorem dJ1_indexOfChar_4cfef_24 : decode cJ1_indexOfChar_4cfef 24 = .ok (.ireturn, 1) := by decide +kernel
theorem dJ1_indexOfChar_4cfef_25 : decode cJ1_indexOfChar_4cfef 25 = .ok (.iinc 5 1, 3) := by decide +kernel
theorem dJ1_indexOfChar_4cfef_28 : decode cJ1_indexOfChar_4cfef 28 = .ok (.goto (-21), 3) := by decide +kernel
theorem dJ1_indexOfChar_4cfef_31 : decode cJ1_indexOfChar_4cfef 31 = .ok (.iconst (-1), 1) := by decide +kernel
theorem dJ1_indexOfChar_4cfef_32 : decode cJ1_indexOfChar_4cfef 32 = .ok (.ireturn, 1) := by decide +kernel
theorem dJ2_getChar_3b067_0 : decode cJ2_getChar_3b067 0 = .ok (.getstatic 44, 3) := by decide +kernel
theorem dJ2_getChar_3b067_3 : decode cJ2_getChar_3b067 3 = .ok (.ifCond .ne 25, 3) := by decide +kernel
theorem dJ2_getChar_3b067_6 : decode cJ2_getChar_3b067 6 = .ok (.iload_n 1, 1) := by decide +kernel
theorem dJ2_getChar_3b067_7 : decode cJ2_getChar_3b067 7 = .ok (.ifCond .lt 11, 3) := by decide +kernel
theorem dJ2_getChar_3b067_10 : decode cJ2_getChar_3b067 10 = .ok (.iload_n 1, 1) := by decide +kernel
theorem dJ2_getChar_3b067_11 : decode cJ2_getChar_3b067 11 = .ok (.aload_n 0, 1) := by decide +kernel
theorem dJ2_getChar_3b067_12 : decode cJ2_getChar_3b067 12 = .ok (.invokestatic 48, 3) := by decide +kernel
theorem dJ2_getChar_3b067_15 : decode cJ2_getChar_3b067 15 = .ok (.if_icmp .lt 13, 3) := by decide +kernel
theorem dJ2_getChar_3b067_18 : decode cJ2_getChar_3b067 18 = .ok (.new 52, 3) := by decide +kernel
theorem dJ2_getChar_3b067_21 : decode cJ2_getChar_3b067 21 = .ok (.dup, 1) := by decide +kernel
theorem dJ2_getChar_3b067_22 : decode cJ2_getChar_3b067 22 = .ok (.ldc 54, 2) := by decide +kernel
theorem dJ2_getChar_3b067_24 : decode cJ2_getChar_3b067 24 = .ok (.invokespecial 56, 3) := by decide +kernel
theorem dJ2_getChar_3b067_27 : decode cJ2_getChar_3b067 27 = .ok (.athrow, 1) := by decide +kernel
theorem dJ2_getChar_3b067_28 : decode cJ2_getChar_3b067 28 = .ok (.iload_n 1, 1) := by decide +kernel
theorem dJ2_getChar_3b067_29 : decode cJ2_getChar_3b067 29 = .ok (.iconst 1, 1) := by decide +kernel
theorem dJ2_getChar_3b067_30 : decode cJ2_getChar_3b067 30 = .ok (.ishl, 1) := by decide +kernel
theorem dJ2_getChar_3b067_31 : decode cJ2_getChar_3b067 31 = .ok (.istore_n 1, 1) := by decide +kernel
theorem dJ2_getChar_3b067_32 : decode cJ2_getChar_3b067 32 = .ok (.aload_n 0, 1) := by decide +kernel
theorem dJ2_getChar_3b067_33 : decode cJ2_getChar_3b067 33 = .ok (.iload_n 1, 1) := by decide +kernel
theorem dJ2_getChar_3b067_34 : decode cJ2_getChar_3b067 34 = .ok (.iinc 1 1, 3) := by decide +kernel
theorem dJ2_getChar_3b067_37 : decode cJ2_getChar_3b067 37 = .ok (.baload, 1) := by decide +kernel
theorem dJ2_getChar_3b067_38 : decode cJ2_getChar_3b067 38 = .ok (.sipush 255, 3) := by decide +kernel
theorem dJ2_getChar_3b067_41 : decode cJ2_getChar_3b067 41 = .ok (.iand, 1) := by decide +kernel
theorem dJ2_getChar_3b067_42 : decode cJ2_getChar_3b067 42 = .ok (.getstatic 59, 3) := by decide +kernel
theorem dJ2_getChar_3b067_45 : decode cJ2_getChar_3b067 45 = .ok (.ishl, 1) := by decide +kernel
theorem dJ2_getChar_3b067_46 : decode cJ2_getChar_3b067 46 = .ok (.aload_n 0, 1) := by decide +kernel
theorem dJ2_getChar_3b067_47 : decode cJ2_getChar_3b067 47 = .ok (.iload_n 1, 1) := by decide +kernel
theorem dJ2_getChar_3b067_48 : decode cJ2_getChar_3b067 48 = .ok (.baload, 1) := by decide +kernel
theorem dJ2_getChar_3b067_49 : decode cJ2_getChar_3b067 49 = .ok (.sipush 255, 3) := by decide +kernel
theorem dJ2_getChar_3b067_52 : decode cJ2_getChar_3b067 52 = .ok (.iand, 1) := by decide +kernel
theorem dJ2_getChar_3b067_53 : decode cJ2_getChar_3b067 53 = .ok (.getstatic 63, 3) := by decide +kernel
theorem dJ2_getChar_3b067_56 : decode cJ2_getChar_3b067 56 = .ok (.ishl, 1) := by decide +kernel
theorem dJ2_getChar_3b067_57 : decode cJ2_getChar_3b067 57 = .ok (.ior, 1) := by decide +kernel
theorem dJ2_getChar_3b067_58 : decode cJ2_getChar_3b067 58 = .ok (.i2c, 1) := by decide +kernel
theorem dJ2_getChar_3b067_59 : decode cJ2_getChar_3b067 59 = .ok (.ireturn, 1) := by decide +kernel
theorem dJ2_length_9d52b_0 : decode cJ2_length_9d52b 0 = .ok (.aload_n 0, 1) := by decide +kernel
theorem dJ2_length_9d52b_1 : decode cJ2_length_9d52b 1 = .ok (.arraylength, 1) := by decide +kernel
theorem dJ2_length_9d52b_2 : decode cJ2_length_9d52b 2 = .ok (.iconst 1, 1) := by decide +kernel
theorem dJ2_length_9d52b_3 : decode cJ2_length_9d52b 3 = .ok (.ishr, 1) := by decide +kernel
theorem dJ2_length_9d52b_4 : decode cJ2_length_9d52b 4 = .ok (.ireturn, 1) := by decide +kernel
theorem dJ2_indexOf_4cfef_0 : decode cJ2_indexOf_4cfef 0 = .ok (.iload_n 2, 1) := by decide +kernel
theorem dJ2_indexOf_4cfef_1 : decode cJ2_indexOf_4cfef 1 = .ok (.iconst 0, 1) := by decide +kernel
theorem dJ2_indexOf_4cfef_2 : decode cJ2_indexOf_4cfef 2 = .ok (.invokestatic 224, 3) := by decide +kernel
theorem dJ2_indexOf_4cfef_5 : decode cJ2_indexOf_4cfef 5 = .ok (.istore_n 2, 1) := by decide +kernel
theorem dJ2_indexOf_4cfef_6 : decode cJ2_indexOf_4cfef 6 = .ok (.iload_n 3, 1) := by decide +kernel
theorem dJ2_indexOf_4cfef_7 : decode cJ2_indexOf_4cfef 7 = .ok (.aload_n 0, 1) := by decide +kernel
theorem dJ2_indexOf_4cfef_8 : decode cJ2_indexOf_4cfef 8 = .ok (.arraylength, 1) := by decide +kernel
theorem dJ2_indexOf_4cfef_9 : decode cJ2_indexOf_4cfef 9 = .ok (.iconst 1, 1) := by decide +kernel
theorem dJ2_indexOf_4cfef_10 : decode cJ2_indexOf_4cfef 10 = .ok (.ishr, 1) := by decide +kernel
theorem dJ2_indexOf_4cfef_11 : decode cJ2_indexOf_4cfef 11 = .ok (.invokestatic 183, 3) := by decide +kernel
theorem dJ2_indexOf_4cfef_14 : decode cJ2_indexOf_4cfef 14 = .ok (.istore_n 3, 1) := by decide +kernel
theorem dJ2_indexOf_4cfef_15 : decode cJ2_indexOf_4cfef 15 = .ok (.iload_n 2, 1) := by decide +kernel
theorem dJ2_indexOf_4cfef_16 : decode cJ2_indexOf_4cfef 16 = .ok (.iload_n 3, 1) := by decide +kernel
theorem dJ2_indexOf_4cfef_17 : decode cJ2_indexOf_4cfef 17 = .ok (.if_icmp .lt 5, 3) := by decide +kernel
theorem dJ2_indexOf_4cfef_20 : decode cJ2_indexOf_4cfef 20 = .ok (.iconst (-1), 1) := by decide +kernel
theorem dJ2_indexOf_4cfef_21 : decode cJ2_indexOf_4cfef 21 = .ok (.ireturn, 1) := by decide +kernel
theorem dJ2_indexOf_4cfef_22 : decode cJ2_indexOf_4cfef 22 = .ok (.iload_n 1, 1) := by decide +kernel
theorem dJ2_indexOf_4cfef_23 : decode cJ2_indexOf_4cfef 23 = .ok (.ldc 227, 2) := by decide +kernel
theorem dJ2_indexOf_4cfef_25 : decode cJ2_indexOf_4cfef 25 = .ok (.if_icmp .ge 11, 3) := by decide +kernel
theorem dJ2_indexOf_4cfef_28 : decode cJ2_indexOf_4cfef 28 = .ok (.aload_n 0, 1) := by decide +kernel
theorem dJ2_indexOf_4cfef_29 : decode cJ2_indexOf_4cfef 29 = .ok (.iload_n 1, 1) := by decide +kernel
theorem dJ2_indexOf_4cfef_30 : decode cJ2_indexOf_4cfef 30 = .ok (.iload_n 2, 1) := by decide +kernel
theorem dJ2_indexOf_4cfef_31 : decode cJ2_indexOf_4cfef 31 = .ok (.iload_n 3, 1) := by decide +kernel
theorem dJ2_indexOf_4cfef_32 : decode cJ2_indexOf_4cfef 32 = .ok (.invokestatic 228, 3) := by decide +kernel
theorem dJ2_indexOf_4cfef_35 : decode cJ2_indexOf_4cfef 35 = .ok (.ireturn, 1) := by decide +kernel
theorem dJ2_indexOf_4cfef_36 : decode cJ2_indexOf_4cfef 36 = .ok (.aload_n 0, 1) := by decide +kernel
theorem dJ2_indexOf_4cfef_37 : decode cJ2_indexOf_4cfef 37 = .ok (.iload_n 1, 1) := by decide +kernel
theorem dJ2_indexOf_4cfef_38 : decode cJ2_indexOf_4cfef 38 = .ok (.iload_n 2, 1) := by decide +kernel
theorem dJ2_indexOf_4cfef_39 : decode cJ2_indexOf_4cfef 39 = .ok (.iload_n 3, 1) := by decide +kernel
theorem dJ2_indexOf_4cfef_40 : decode cJ2_indexOf_4cfef 40 = .ok (.invokestatic 232, 3) := by decide +kernel
theorem dJ2_indexOf_4cfef_43 : decode cJ2_indexOf_4cfef 43 = .ok (.ireturn, 1) := by decide +kernel
theorem dJ2_indexOfChar_4cfef_0 : decode cJ2_indexOfChar_4cfef 0 = .ok (.iload_n 2, 1) := by decide +kernel
theorem dJ2_indexOfChar_4cfef_1 : decode cJ2_indexOfChar_4cfef 1 = .ok (.iload_n 3, 1) := by decide +kernel
theorem dJ2_indexOfChar_4cfef_2 : decode cJ2_indexOfChar_4cfef 2 = .ok (.aload_n 0, 1) := by decide +kernel
theorem dJ2_indexOfChar_4cfef_3 : decode cJ2_indexOfChar_4cfef 3 = .ok (.invokestatic 96, 3) := by decide +kernel
theorem dJ2_indexOfChar_4cfef_6 : decode cJ2_indexOfChar_4cfef 6 = .ok (.aload_n 0, 1) := by decide +kernel
theorem dJ2_indexOfChar_4cfef_7 : decode cJ2_indexOfChar_4cfef 7 = .ok (.iload_n 1, 1) := by decide +kernel
theorem dJ2_indexOfChar_4cfef_8 : decode cJ2_indexOfChar_4cfef 8 = .ok (.iload_n 2, 1) := by decide +kernel
theorem dJ2_indexOfChar_4cfef_9 : decode cJ2_indexOfChar_4cfef 9 = .ok (.iload_n 3, 1) := by decide +kernel
theorem dJ2_indexOfChar_4cfef_10 : decode cJ2_indexOfChar_4cfef 10 = .ok (.invokestatic 244, 3) := by decide +kernel
theorem dJ2_indexOfChar_4cfef_13 : decode cJ2_indexOfChar_4cfef 13 = .ok (.ireturn, 1) := by decide +kernel
theorem dJ2_indexOfCharUnsafe_4cfef_0 : decode cJ2_indexOfCharUnsafe_4cfef 0 = .ok (.iload_n 2, 1) := by decide +kernel
theorem dJ2_indexOfCharUnsafe_4cfef_1 : decode cJ2_indexOfCharUnsafe_4cfef 1 = .ok (.istore 4, 2) := by decide +kernel
theorem dJ2_indexOfCharUnsafe_4cfef_3 : decode cJ2_indexOfCharUnsafe_4cfef 3 = .ok (.iload 4, 2) := by decide +kernel
theorem dJ2_indexOfCharUnsafe_4cfef_5 : decode cJ2_indexOfCharUnsafe_4cfef 5 = .ok (.iload_n 3, 1) := by decide +kernel
theorem dJ2_indexOfCharUnsafe_4cfef_6 : decode cJ2_indexOfCharUnsafe_4cfef 6 = .ok (.if_icmp .ge 22, 3) := by decide +kernel
theorem dJ2_indexOfCharUnsafe_4cfef_9 : decode cJ2_indexOfCharUnsafe_4cfef 9 = .ok (.aload_n 0, 1) := by decide +kernel
theorem dJ2_indexOfCharUnsafe_4cfef_10 : decode cJ2_indexOfCharUnsafe_4cfef 10 = .ok (.iload 4, 2) := by decide +kernel
theorem dJ2_indexOfCharUnsafe_4cfef_12 : decode cJ2_indexOfCharUnsafe_4cfef 12 = .ok (.invokestatic 71, 3) := by decide +kernel
theorem dJ2_indexOfCharUnsafe_4cfef_15 : decode cJ2_indexOfCharUnsafe_4cfef 15 = .ok (.iload_n 1, 1) := by decide +kernel
theorem dJ2_indexOfCharUnsafe_4cfef_16 : decode cJ2_indexOfCharUnsafe_4cfef 16 = .ok (.if_icmp .ne 6, 3) := by decide +kernel
theorem dJ2_indexOfCharUnsafe_4cfef_19 : decode cJ2_indexOfCharUnsafe_4cfef 19 = .ok (.iload 4, 2) := by decide +kernel
theorem dJ2_indexOfCharUnsafe_4cfef_21 : decode cJ2_indexOfCharUnsafe_4cfef 21 = .ok (.ireturn, 1) := by decide +kernel
theorem dJ2_indexOfCharUnsafe_4cfef_22 : decode cJ2_indexOfCharUnsafe_4cfef 22 = .ok (.iinc 4 1, 3) := by decide +kernel
theorem dJ2_indexOfCharUnsafe_4cfef_25 : decode cJ2_indexOfCharUnsafe_4cfef 25 = .ok (.goto (-22), 3) := by decide +kernel
theorem dJ2_indexOfCharUnsafe_4cfef_28 : decode cJ2_indexOfCharUnsafe_4cfef 28 = .ok (.iconst (-1), 1) := by decide +kernel
theorem dJ2_indexOfCharUnsafe_4cfef_29 : decode cJ2_indexOfCharUnsafe_4cfef 29 = .ok (.ireturn, 1) := by decide +kernel
theorem dJ2_indexOfSupplementary_4cfef_0 : decode cJ2_indexOfSupplementary_4cfef 0 = .ok (.iload_n 1, 1) := by decide +kernel
theorem dJ2_indexOfSupplementary_4cfef_1 : decode cJ2_indexOfSupplementary_4cfef 1 = .ok (.invokestatic 164, 3) := by decide +kernel
theorem dJ2_indexOfSupplementary_4cfef_4 : decode cJ2_indexOfSupplementary_4cfef 4 = .ok (.ifCond .eq 65, 3) := by decide +kernel
theorem dJ2_indexOfSupplementary_4cfef_7 : decode cJ2_indexOfSupplementary_4cfef 7 = .ok (.iload_n 1, 1) := by decide +kernel
theorem dJ2_indexOfSupplementary_4cfef_8 : decode cJ2_indexOfSupplementary_4cfef 8 = .ok (.invokestatic 157, 3) := by decide +kernel
theorem dJ2_indexOfSupplementary_4cfef_11 : decode cJ2_indexOfSupplementary_4cfef 11 = .ok (.istore 4, 2) := by decide +kernel
theorem dJ2_indexOfSupplementary_4cfef_13 : decode cJ2_indexOfSupplementary_4cfef 13 = .ok (.iload_n 1, 1) := by decide +kernel
theorem dJ2_indexOfSupplementary_4cfef_14 : decode cJ2_indexOfSupplementary_4cfef 14 = .ok (.invokestatic 161, 3) := by decide +kernel
theorem dJ2_indexOfSupplementary_4cfef_17 : decode cJ2_indexOfSupplementary_4cfef 17 = .ok (.istore 5, 2) := by decide +kernel
theorem dJ2_indexOfSupplementary_4cfef_19 : decode cJ2_indexOfSupplementary_4cfef 19 = .ok (.iload_n 2, 1) := by decide +kernel
theorem dJ2_indexOfSupplementary_4cfef_20 : decode cJ2_indexOfSupplementary_4cfef 20 = .ok (.iload_n 3, 1) := by decide +kernel
theorem dJ2_indexOfSupplementary_4cfef_21 : decode cJ2_indexOfSupplementary_4cfef 21 = .ok (.aload_n 0, 1) := by decide +kernel
theorem dJ2_indexOfSupplementary_4cfef_22 : decode cJ2_indexOfSupplementary_4cfef 22 = .ok (.invokestatic 96, 3) := by decide +kernel
theorem dJ2_indexOfSupplementary_4cfef_25 : decode cJ2_indexOfSupplementary_4cfef 25 = .ok (.iload_n 2, 1) := by decide +kernel
theorem dJ2_indexOfSupplementary_4cfef_26 : decode cJ2_indexOfSupplementary_4cfef 26 = .ok (.istore 6, 2) := by decide +kernel
theorem dJ2_indexOfSupplementary_4cfef_28 : decode cJ2_indexOfSupplementary_4cfef 28 = .ok (.iload 6, 2) := by decide +kernel
theorem dJ2_indexOfSupplementary_4cfef_30 : decode cJ2_indexOfSupplementary_4cfef 30 = .ok (.iload_n 3, 1) := by decide +kernel
theorem dJ2_indexOfSupplementary_4cfef_31 : decode cJ2_indexOfSupplementary_4cfef 31 = .ok (.iconst 1, 1) := by decide +kernel
theorem dJ2_indexOfSupplementary_4cfef_32 : decode cJ2_indexOfSupplementary_4cfef 32 = .ok (.isub, 1) := by decide +kernel
theorem dJ2_indexOfSupplementary_4cfef_33 : decode cJ2_indexOfSupplementary_4cfef 33 = .ok (.if_icmp .ge 36, 3) := by decide +kernel
theorem dJ2_indexOfSupplementary_4cfef_36 : decode cJ2_indexOfSupplementary_4cfef 36 = .ok (.aload_n 0, 1) := by decide +kernel
theorem dJ2_indexOfSupplementary_4cfef_37 : decode cJ2_indexOfSupplementary_4cfef 37 = .ok (.iload 6, 2) := by decide +kernel
theorem dJ2_indexOfSupplementary_4cfef_39 : decode cJ2_indexOfSupplementary_4cfef 39 = .ok (.invokestatic 71, 3) := by decide +kernel
theorem dJ2_indexOfSupplementary_4cfef_42 : decode cJ2_indexOfSupplementary_4cfef 42 = .ok (.iload 4, 2) := by decide +kernel
theorem dJ2_indexOfSupplementary_4cfef_44 : decode cJ2_indexOfSupplementary_4cfef 44 = .ok (.if_icmp .ne 19, 3) := by decide +kernel
theorem dJ2_indexOfSupplementary_4cfef_47 : decode cJ2_indexOfSupplementary_4cfef 47 = .ok (.aload_n 0, 1) := by decide +kernel
theorem dJ2_indexOfSupplementary_4cfef_48 : decode cJ2_indexOfSupplementary_4cfef 48 = .ok (.iload 6, 2) := by decide +kernel
theorem dJ2_indexOfSupplementary_4cfef_50 : decode cJ2_indexOfSupplementary_4cfef 50 = .ok (.iconst 1, 1) := by decide +kernel
theorem dJ2_indexOfSupplementary_4cfef_51 : decode cJ2_indexOfSupplementary_4cfef 51 = .ok (.iadd, 1) := by decide +kernel
theorem dJ2_indexOfSupplementary_4cfef_52 : decode cJ2_indexOfSupplementary_4cfef 52 = .ok (.invokestatic 71, 3) := by decide +kernel
theorem dJ2_indexOfSupplementary_4cfef_55 : decode cJ2_indexOfSupplementary_4cfef 55 = .ok (.iload 5, 2) := by decide +kernel
theorem dJ2_indexOfSupplementary_4cfef_57 : decode cJ2_indexOfSupplementary_4cfef 57 = .ok (.if_icmp .ne 6, 3) := by decide +kernel
theorem dJ2_indexOfSupplementary_4cfef_60 : decode cJ2_indexOfSupplementary_4cfef 60 = .ok (.iload 6, 2) := by decide +kernel
theorem dJ2_indexOfSupplementary_4cfef_62 : decode cJ2_indexOfSupplementary_4cfef 62 = .ok (.ireturn, 1) := by decide +kernel
theorem dJ2_indexOfSupplementary_4cfef_63 : decode cJ2_indexOfSupplementary_4cfef 63 = .ok (.iinc 6 1, 3) := by decide +kernel
theorem dJ2_indexOfSupplementary_4cfef_66 : decode cJ2_indexOfSupplementary_4cfef 66 = .ok (.goto (-38), 3) := by decide +kernel
theorem dJ2_indexOfSupplementary_4cfef_69 : decode cJ2_indexOfSupplementary_4cfef 69 = .ok (.iconst (-1), 1) := by decide +kernel
theorem dJ2_indexOfSupplementary_4cfef_70 : decode cJ2_indexOfSupplementary_4cfef 70 = .ok (.ireturn, 1) := by decide +kernel
theorem dJ2_charAt_3b067_0 : decode cJ2_charAt_3b067 0 = .ok (.iload_n 1, 1) := by decide +kernel
theorem dJ2_charAt_3b067_1 : decode cJ2_charAt_3b067 1 = .ok (.aload_n 0, 1) := by decide +kernel
theorem dJ2_charAt_3b067_2 : decode cJ2_charAt_3b067 2 = .ok (.invokestatic 67, 3) := by decide +kernel
theorem dJ2_charAt_3b067_5 : decode cJ2_charAt_3b067 5 = .ok (.aload_n 0, 1) := by decide +kernel
theorem dJ2_charAt_3b067_6 : decode cJ2_charAt_3b067 6 = .ok (.iload_n 1, 1) := by decide +kernel
theorem dJ2_charAt_3b067_7 : decode cJ2_charAt_3b067 7 = .ok (.invokestatic 71, 3) := by decide +kernel
theorem dJ2_charAt_3b067_10 : decode cJ2_charAt_3b067 10 = .ok (.ireturn, 1) := by decide +kernel
theorem dJ2_checkIndex_2214a_0 : decode cJ2_checkIndex_2214a 0 = .ok (.iload_n 0, 1) := by decide +kernel
theorem dJ2_checkIndex_2214a_1 : decode cJ2_checkIndex_2214a 1 = .ok (.aload_n 1, 1) := by decide +kernel
theorem dJ2_checkIndex_2214a_2 : decode cJ2_checkIndex_2214a 2 = .ok (.invokestatic 48, 3) := by decide +kernel
theorem dJ2_checkIndex_2214a_5 : decode cJ2_checkIndex_2214a 5 = .ok (.invokestatic 414, 3) := by decide +kernel
theorem dJ2_checkIndex_2214a_8 : decode cJ2_checkIndex_2214a 8 = .ok (.return_, 1) := by decide +kernel
theorem dJ2_checkBoundsBeginEnd_d044e_0 : decode cJ2_checkBoundsBeginEnd_d044e 0 = .ok (.iload_n 0, 1) := by decide +kernel
theorem dJ2_checkBoundsBeginEnd_d044e_1 : decode cJ2_checkBoundsBeginEnd_d044e 1 = .ok (.iload_n 1, 1) := by decide +kernel
theorem dJ2_checkBoundsBeginEnd_d044e_2 : decode cJ2_checkBoundsBeginEnd_d044e 2 = .ok (.aload_n 2, 1) := by decide +kernel
theorem dJ2_checkBoundsBeginEnd_d044e_3 : decode cJ2_checkBoundsBeginEnd_d044e 3 = .ok (.invokestatic 48, 3) := by decide +kernel
theorem dJ2_checkBoundsBeginEnd_d044e_6 : decode cJ2_checkBoundsBeginEnd_d044e 6 = .ok (.invokestatic 241, 3) := by decide +kernel
theorem dJ2_checkBoundsBeginEnd_d044e_9 : decode cJ2_checkBoundsBeginEnd_d044e 9 = .ok (.return_, 1) := by decide +kernel
theorem dJ3_checkIndex_8e157_0 : decode cJ3_checkIndex_8e157 0 = .ok (.iload_n 0, 1) := by decide +kernel
theorem dJ3_checkIndex_8e157_1 : decode cJ3_checkIndex_8e157 1 = .ok (.ifCond .lt 8, 3) := by decide +kernel
theorem dJ3_checkIndex_8e157_4 : decode cJ3_checkIndex_8e157 4 = .ok (.iload_n 0, 1) := by decide +kernel
theorem dJ3_checkIndex_8e157_5 : decode cJ3_checkIndex_8e157 5 = .ok (.iload_n 1, 1) := by decide +kernel
theorem dJ3_checkIndex_8e157_6 : decode cJ3_checkIndex_8e157 6 = .ok (.if_icmp .lt 10, 3) := by decide +kernel
theorem dJ3_checkIndex_8e157_9 : decode cJ3_checkIndex_8e157 9 = .ok (.aload_n 2, 1) := by decide +kernel
theorem dJ3_checkIndex_8e157_10 : decode cJ3_checkIndex_8e157 10 = .ok (.iload_n 0, 1) := by decide +kernel
theorem dJ3_checkIndex_8e157_11 : decode cJ3_checkIndex_8e157 11 = .ok (.iload_n 1, 1) := by decide +kernel
theorem dJ3_checkIndex_8e157_12 : decode cJ3_checkIndex_8e157 12 = .ok (.invokestatic 95, 3) := by decide +kernel
theorem dJ3_checkIndex_8e157_15 : decode cJ3_checkIndex_8e157 15 = .ok (.athrow, 1) := by decide +kernel
theorem dJ3_checkIndex_8e157_16 : decode cJ3_checkIndex_8e157 16 = .ok (.iload_n 0, 1) := by decide +kernel
theorem dJ3_checkIndex_8e157_17 : decode cJ3_checkIndex_8e157 17 = .ok (.ireturn, 1) := by decide +kernel
theorem dJ3_checkFromToIndex_8c36e_0 : decode cJ3_checkFromToIndex_8c36e 0 = .ok (.iload_n 0, 1) := by decide +kernel
theorem dJ3_checkFromToIndex_8c36e_1 : decode cJ3_checkFromToIndex_8c36e 1 = .ok (.ifCond .lt 13, 3) := by decide +kernel
theorem dJ3_checkFromToIndex_8c36e_4 : decode cJ3_checkFromToIndex_8c36e 4 = .ok (.iload_n 0, 1) := by decide +kernel
theorem dJ3_checkFromToIndex_8c36e_5 : decode cJ3_checkFromToIndex_8c36e 5 = .ok (.iload_n 1, 1) := by decide +kernel
theorem dJ3_checkFromToIndex_8c36e_6 : decode cJ3_checkFromToIndex_8c36e 6 = .ok (.if_icmp .gt 8, 3) := by decide +kernel
theorem dJ3_checkFromToIndex_8c36e_9 : decode cJ3_checkFromToIndex_8c36e 9 = .ok (.iload_n 1, 1) := by decide +kernel
theorem dJ3_checkFromToIndex_8c36e_10 : decode cJ3_checkFromToIndex_8c36e 10 = .ok (.iload_n 2, 1) := by decide +kernel
theorem dJ3_checkFromToIndex_8c36e_11 : decode cJ3_checkFromToIndex_8c36e 11 = .ok (.if_icmp .le 11, 3) := by decide +kernel
theorem dJ3_checkFromToIndex_8c36e_14 : decode cJ3_checkFromToIndex_8c36e 14 = .ok (.aload_n 3, 1) := by decide +kernel
theorem dJ3_checkFromToIndex_8c36e_15 : decode cJ3_checkFromToIndex_8c36e 15 = .ok (.iload_n 0, 1) := by decide +kernel
theorem dJ3_checkFromToIndex_8c36e_16 : decode cJ3_checkFromToIndex_8c36e 16 = .ok (.iload_n 1, 1) := by decide +kernel
theorem dJ3_checkFromToIndex_8c36e_17 : decode cJ3_checkFromToIndex_8c36e 17 = .ok (.iload_n 2, 1) := by decide +kernel
theorem dJ3_checkFromToIndex_8c36e_18 : decode cJ3_checkFromToIndex_8c36e 18 = .ok (.invokestatic 99, 3) := by decide +kernel
theorem dJ3_checkFromToIndex_8c36e_21 : decode cJ3_checkFromToIndex_8c36e 21 = .ok (.athrow, 1) := by decide +kernel
theorem dJ3_checkFromToIndex_8c36e_22 : decode cJ3_checkFromToIndex_8c36e 22 = .ok (.iload_n 0, 1) := by decide +kernel
theorem dJ3_checkFromToIndex_8c36e_23 : decode cJ3_checkFromToIndex_8c36e 23 = .ok (.ireturn, 1) := by decide +kernel
theorem dX7_thrown_0 : decode cX7_thrown 0 = .ok (.aload_n 0, 1) := by decide +kernel
theorem dX7_thrown_1 : decode cX7_thrown 1 = .ok (.getfield 1, 3) := by decide +kernel
theorem dX7_thrown_4 : decode cX7_thrown 4 = .ok (.ireturn, 1) := by decide +kernel
theorem dX7_feed_0 : decode cX7_feed 0 = .ok (.aload_n 0, 1) := by decide +kernel
theorem dX7_feed_1 : decode cX7_feed 1 = .ok (.iconst 0, 1) := by decide +kernel
theorem dX7_feed_2 : decode cX7_feed 2 = .ok (.putfield 1, 3) := by decide +kernel
theorem dX7_feed_5 : decode cX7_feed 5 = .ok (.aload_n 0, 1) := by decide +kernel
theorem dX7_feed_6 : decode cX7_feed 6 = .ok (.lload_n 1, 1) := by decide +kernel
theorem dX7_feed_7 : decode cX7_feed 7 = .ok (.invokevirtual 7, 3) := by decide +kernel
theorem dX7_feed_10 : decode cX7_feed 10 = .ok (.aload_n 0, 1) := by decide +kernel
theorem dX7_feed_11 : decode cX7_feed 11 = .ok (.lload_n 3, 1) := by decide +kernel
theorem dX7_feed_12 : decode cX7_feed 12 = .ok (.invokevirtual 7, 3) := by decide +kernel
theorem dX7_feed_15 : decode cX7_feed 15 = .ok (.aload_n 0, 1) := by decide +kernel
theorem dX7_feed_16 : decode cX7_feed 16 = .ok (.lload 5, 2) := by decide +kernel
theorem dX7_feed_18 : decode cX7_feed 18 = .ok (.invokevirtual 7, 3) := by decide +kernel
theorem dX7_feed_21 : decode cX7_feed 21 = .ok (.aload_n 0, 1) := by decide +kernel
theorem dX7_feed_22 : decode cX7_feed 22 = .ok (.getfield 11, 3) := by decide +kernel
end
section
theorem dX7_feed_25 : decode cX7_feed 25 = .ok (.ireturn, 1) := by decide +kernel
theorem dX7_lay_0 : decode cX7_lay 0 = .ok (.bipush 56, 2) := by decide +kernel
theorem dX7_lay_2 : decode cX7_lay 2 = .ok (.istore_n 3, 1) := by decide +kernel
theorem dX7_lay_3 : decode cX7_lay 3 = .ok (.iload_n 3, 1) := by decide +kernel
theorem dX7_lay_4 : decode cX7_lay 4 = .ok (.ifCond .lt 71, 3) := by decide +kernel
theorem dX7_lay_7 : decode cX7_lay 7 = .ok (.lload_n 1, 1) := by decide +kernel
theorem dX7_lay_8 : decode cX7_lay 8 = .ok (.iload_n 3, 1) := by decide +kernel
theorem dX7_lay_9 : decode cX7_lay 9 = .ok (.lshr, 1) := by decide +kernel
theorem dX7_lay_10 : decode cX7_lay 10 = .ok (.l2i, 1) := by decide +kernel
theorem dX7_lay_11 : decode cX7_lay 11 = .ok (.sipush 255, 3) := by decide +kernel
theorem dX7_lay_14 : decode cX7_lay 14 = .ok (.iand, 1) := by decide +kernel
theorem dX7_lay_15 : decode cX7_lay 15 = .ok (.istore 4, 2) := by decide +kernel
theorem dX7_lay_17 : decode cX7_lay 17 = .ok (.iload 4, 2) := by decide +kernel
theorem dX7_lay_19 : decode cX7_lay 19 = .ok (.bipush 10, 2) := by decide +kernel
theorem dX7_lay_21 : decode cX7_lay 21 = .ok (.if_icmp .eq 17, 3) := by decide +kernel
theorem dX7_lay_24 : decode cX7_lay 24 = .ok (.iload 4, 2) := by decide +kernel
theorem dX7_lay_26 : decode cX7_lay 26 = .ok (.bipush 32, 2) := by decide +kernel
theorem dX7_lay_28 : decode cX7_lay 28 = .ok (.if_icmp .lt 41, 3) := by decide +kernel
theorem dX7_lay_31 : decode cX7_lay 31 = .ok (.iload 4, 2) := by decide +kernel
theorem dX7_lay_33 : decode cX7_lay 33 = .ok (.bipush 126, 2) := by decide +kernel
theorem dX7_lay_35 : decode cX7_lay 35 = .ok (.if_icmp .gt 34, 3) := by decide +kernel
theorem dX7_lay_38 : decode cX7_lay 38 = .ok (.aload_n 0, 1) := by decide +kernel
theorem dX7_lay_39 : decode cX7_lay 39 = .ok (.getfield 11, 3) := by decide +kernel
theorem dX7_lay_42 : decode cX7_lay 42 = .ok (.sipush 1000, 3) := by decide +kernel
theorem dX7_lay_45 : decode cX7_lay 45 = .ok (.if_icmp .ge 24, 3) := by decide +kernel
theorem dX7_lay_48 : decode cX7_lay 48 = .ok (.aload_n 0, 1) := by decide +kernel
theorem dX7_lay_49 : decode cX7_lay 49 = .ok (.getfield 14, 3) := by decide +kernel
theorem dX7_lay_52 : decode cX7_lay 52 = .ok (.aload_n 0, 1) := by decide +kernel
theorem dX7_lay_53 : decode cX7_lay 53 = .ok (.getfield 11, 3) := by decide +kernel
theorem dX7_lay_56 : decode cX7_lay 56 = .ok (.iload 4, 2) := by decide +kernel
theorem dX7_lay_58 : decode cX7_lay 58 = .ok (.iastore, 1) := by decide +kernel
theorem dX7_lay_59 : decode cX7_lay 59 = .ok (.aload_n 0, 1) := by decide +kernel
theorem dX7_lay_60 : decode cX7_lay 60 = .ok (.dup, 1) := by decide +kernel
theorem dX7_lay_61 : decode cX7_lay 61 = .ok (.getfield 11, 3) := by decide +kernel
theorem dX7_lay_64 : decode cX7_lay 64 = .ok (.iconst 1, 1) := by decide +kernel
theorem dX7_lay_65 : decode cX7_lay 65 = .ok (.iadd, 1) := by decide +kernel
theorem dX7_lay_66 : decode cX7_lay 66 = .ok (.putfield 11, 3) := by decide +kernel
theorem dX7_lay_69 : decode cX7_lay 69 = .ok (.iinc 3 (-8), 3) := by decide +kernel
theorem dX7_lay_72 : decode cX7_lay 72 = .ok (.goto (-69), 3) := by decide +kernel
theorem dX7_lay_75 : decode cX7_lay 75 = .ok (.return_, 1) := by decide +kernel
theorem dX7_init_0 : decode cX7_init 0 = .ok (.aload_n 0, 1) := by decide +kernel
theorem dX7_init_1 : decode cX7_init 1 = .ok (.invokespecial 18, 3) := by decide +kernel
theorem dX7_init_4 : decode cX7_init 4 = .ok (.aload_n 0, 1) := by decide +kernel
theorem dX7_init_5 : decode cX7_init 5 = .ok (.sipush 1000, 3) := by decide +kernel
theorem dX7_init_8 : decode cX7_init 8 = .ok (.newarray .int, 2) := by decide +kernel
theorem dX7_init_10 : decode cX7_init 10 = .ok (.putfield 14, 3) := by decide +kernel
theorem dX7_init_13 : decode cX7_init 13 = .ok (.aload_n 0, 1) := by decide +kernel
theorem dX7_init_14 : decode cX7_init 14 = .ok (.sipush 1002, 3) := by decide +kernel
theorem dX7_init_17 : decode cX7_init 17 = .ok (.newarray .int, 2) := by decide +kernel
theorem dX7_init_19 : decode cX7_init 19 = .ok (.putfield 24, 3) := by decide +kernel
theorem dX7_init_22 : decode cX7_init 22 = .ok (.aload_n 0, 1) := by decide +kernel
theorem dX7_init_23 : decode cX7_init 23 = .ok (.sipush 1002, 3) := by decide +kernel
theorem dX7_init_26 : decode cX7_init 26 = .ok (.newarray .int, 2) := by decide +kernel
theorem dX7_init_28 : decode cX7_init 28 = .ok (.putfield 27, 3) := by decide +kernel
theorem dX7_init_31 : decode cX7_init 31 = .ok (.aload_n 0, 1) := by decide +kernel
theorem dX7_init_32 : decode cX7_init 32 = .ok (.sipush 1002, 3) := by decide +kernel
theorem dX7_init_35 : decode cX7_init 35 = .ok (.newarray .long, 2) := by decide +kernel
theorem dX7_init_37 : decode cX7_init 37 = .ok (.putfield 30, 3) := by decide +kernel
theorem dX7_init_40 : decode cX7_init 40 = .ok (.aload_n 0, 1) := by decide +kernel
theorem dX7_init_41 : decode cX7_init 41 = .ok (.bipush 23, 2) := by decide +kernel
theorem dX7_init_43 : decode cX7_init 43 = .ok (.newarray .long, 2) := by decide +kernel
theorem dX7_init_45 : decode cX7_init 45 = .ok (.dup, 1) := by decide +kernel
theorem dX7_init_46 : decode cX7_init 46 = .ok (.iconst 0, 1) := by decide +kernel
theorem dX7_init_47 : decode cX7_init 47 = .ok (.ldc2_w 34, 3) := by decide +kernel
theorem dX7_init_50 : decode cX7_init 50 = .ok (.lastore, 1) := by decide +kernel
theorem dX7_init_51 : decode cX7_init 51 = .ok (.dup, 1) := by decide +kernel
theorem dX7_init_52 : decode cX7_init 52 = .ok (.iconst 1, 1) := by decide +kernel
theorem dX7_init_53 : decode cX7_init 53 = .ok (.ldc2_w 36, 3) := by decide +kernel
theorem dX7_init_56 : decode cX7_init 56 = .ok (.lastore, 1) := by decide +kernel
theorem dX7_init_57 : decode cX7_init 57 = .ok (.dup, 1) := by decide +kernel
theorem dX7_init_58 : decode cX7_init 58 = .ok (.iconst 2, 1) := by decide +kernel
theorem dX7_init_59 : decode cX7_init 59 = .ok (.ldc2_w 38, 3) := by decide +kernel
theorem dX7_init_62 : decode cX7_init 62 = .ok (.lastore, 1) := by decide +kernel
theorem dX7_init_63 : decode cX7_init 63 = .ok (.dup, 1) := by decide +kernel
theorem dX7_init_64 : decode cX7_init 64 = .ok (.iconst 3, 1) := by decide +kernel
theorem dX7_init_65 : decode cX7_init 65 = .ok (.ldc2_w 40, 3) := by decide +kernel
theorem dX7_init_68 : decode cX7_init 68 = .ok (.lastore, 1) := by decide +kernel
theorem dX7_init_69 : decode cX7_init 69 = .ok (.dup, 1) := by decide +kernel
theorem dX7_init_70 : decode cX7_init 70 = .ok (.iconst 4, 1) := by decide +kernel
theorem dX7_init_71 : decode cX7_init 71 = .ok (.ldc2_w 42, 3) := by decide +kernel
theorem dX7_init_74 : decode cX7_init 74 = .ok (.lastore, 1) := by decide +kernel
theorem dX7_init_75 : decode cX7_init 75 = .ok (.dup, 1) := by decide +kernel
theorem dX7_init_76 : decode cX7_init 76 = .ok (.iconst 5, 1) := by decide +kernel
theorem dX7_init_77 : decode cX7_init 77 = .ok (.ldc2_w 44, 3) := by decide +kernel
theorem dX7_init_80 : decode cX7_init 80 = .ok (.lastore, 1) := by decide +kernel
theorem dX7_init_81 : decode cX7_init 81 = .ok (.dup, 1) := by decide +kernel
theorem dX7_init_82 : decode cX7_init 82 = .ok (.bipush 6, 2) := by decide +kernel
theorem dX7_init_84 : decode cX7_init 84 = .ok (.ldc2_w 46, 3) := by decide +kernel
theorem dX7_init_87 : decode cX7_init 87 = .ok (.lastore, 1) := by decide +kernel
theorem dX7_init_88 : decode cX7_init 88 = .ok (.dup, 1) := by decide +kernel
theorem dX7_init_89 : decode cX7_init 89 = .ok (.bipush 7, 2) := by decide +kernel
theorem dX7_init_91 : decode cX7_init 91 = .ok (.ldc2_w 48, 3) := by decide +kernel
theorem dX7_init_94 : decode cX7_init 94 = .ok (.lastore, 1) := by decide +kernel
theorem dX7_init_95 : decode cX7_init 95 = .ok (.dup, 1) := by decide +kernel
theorem dX7_init_96 : decode cX7_init 96 = .ok (.bipush 8, 2) := by decide +kernel
theorem dX7_init_98 : decode cX7_init 98 = .ok (.ldc2_w 50, 3) := by decide +kernel
theorem dX7_init_101 : decode cX7_init 101 = .ok (.lastore, 1) := by decide +kernel
theorem dX7_init_102 : decode cX7_init 102 = .ok (.dup, 1) := by decide +kernel
theorem dX7_init_103 : decode cX7_init 103 = .ok (.bipush 9, 2) := by decide +kernel
theorem dX7_init_105 : decode cX7_init 105 = .ok (.ldc2_w 52, 3) := by decide +kernel
theorem dX7_init_108 : decode cX7_init 108 = .ok (.lastore, 1) := by decide +kernel
theorem dX7_init_109 : decode cX7_init 109 = .ok (.dup, 1) := by decide +kernel
theorem dX7_init_110 : decode cX7_init 110 = .ok (.bipush 10, 2) := by decide +kernel
theorem dX7_init_112 : decode cX7_init 112 = .ok (.ldc2_w 54, 3) := by decide +kernel
theorem dX7_init_115 : decode cX7_init 115 = .ok (.lastore, 1) := by decide +kernel
theorem dX7_init_116 : decode cX7_init 116 = .ok (.dup, 1) := by decide +kernel
theorem dX7_init_117 : decode cX7_init 117 = .ok (.bipush 11, 2) := by decide +kernel
theorem dX7_init_119 : decode cX7_init 119 = .ok (.ldc2_w 56, 3) := by decide +kernel
theorem dX7_init_122 : decode cX7_init 122 = .ok (.lastore, 1) := by decide +kernel
theorem dX7_init_123 : decode cX7_init 123 = .ok (.dup, 1) := by decide +kernel
theorem dX7_init_124 : decode cX7_init 124 = .ok (.bipush 12, 2) := by decide +kernel
theorem dX7_init_126 : decode cX7_init 126 = .ok (.ldc2_w 58, 3) := by decide +kernel
theorem dX7_init_129 : decode cX7_init 129 = .ok (.lastore, 1) := by decide +kernel
theorem dX7_init_130 : decode cX7_init 130 = .ok (.dup, 1) := by decide +kernel
theorem dX7_init_131 : decode cX7_init 131 = .ok (.bipush 13, 2) := by decide +kernel
theorem dX7_init_133 : decode cX7_init 133 = .ok (.ldc2_w 60, 3) := by decide +kernel
theorem dX7_init_136 : decode cX7_init 136 = .ok (.lastore, 1) := by decide +kernel
theorem dX7_init_137 : decode cX7_init 137 = .ok (.dup, 1) := by decide +kernel
theorem dX7_init_138 : decode cX7_init 138 = .ok (.bipush 14, 2) := by decide +kernel
theorem dX7_init_140 : decode cX7_init 140 = .ok (.ldc2_w 62, 3) := by decide +kernel
theorem dX7_init_143 : decode cX7_init 143 = .ok (.lastore, 1) := by decide +kernel
theorem dX7_init_144 : decode cX7_init 144 = .ok (.dup, 1) := by decide +kernel
theorem dX7_init_145 : decode cX7_init 145 = .ok (.bipush 15, 2) := by decide +kernel
theorem dX7_init_147 : decode cX7_init 147 = .ok (.ldc2_w 64, 3) := by decide +kernel
theorem dX7_init_150 : decode cX7_init 150 = .ok (.lastore, 1) := by decide +kernel
theorem dX7_init_151 : decode cX7_init 151 = .ok (.dup, 1) := by decide +kernel
theorem dX7_init_152 : decode cX7_init 152 = .ok (.bipush 16, 2) := by decide +kernel
theorem dX7_init_154 : decode cX7_init 154 = .ok (.ldc2_w 66, 3) := by decide +kernel
theorem dX7_init_157 : decode cX7_init 157 = .ok (.lastore, 1) := by decide +kernel
theorem dX7_init_158 : decode cX7_init 158 = .ok (.dup, 1) := by decide +kernel
theorem dX7_init_159 : decode cX7_init 159 = .ok (.bipush 17, 2) := by decide +kernel
theorem dX7_init_161 : decode cX7_init 161 = .ok (.ldc2_w 68, 3) := by decide +kernel
theorem dX7_init_164 : decode cX7_init 164 = .ok (.lastore, 1) := by decide +kernel
theorem dX7_init_165 : decode cX7_init 165 = .ok (.dup, 1) := by decide +kernel
theorem dX7_init_166 : decode cX7_init 166 = .ok (.bipush 18, 2) := by decide +kernel
theorem dX7_init_168 : decode cX7_init 168 = .ok (.ldc2_w 70, 3) := by decide +kernel
theorem dX7_init_171 : decode cX7_init 171 = .ok (.lastore, 1) := by decide +kernel
theorem dX7_init_172 : decode cX7_init 172 = .ok (.dup, 1) := by decide +kernel
theorem dX7_init_173 : decode cX7_init 173 = .ok (.bipush 19, 2) := by decide +kernel
theorem dX7_init_175 : decode cX7_init 175 = .ok (.ldc2_w 72, 3) := by decide +kernel
theorem dX7_init_178 : decode cX7_init 178 = .ok (.lastore, 1) := by decide +kernel
theorem dX7_init_179 : decode cX7_init 179 = .ok (.dup, 1) := by decide +kernel
theorem dX7_init_180 : decode cX7_init 180 = .ok (.bipush 20, 2) := by decide +kernel
theorem dX7_init_182 : decode cX7_init 182 = .ok (.ldc2_w 74, 3) := by decide +kernel
theorem dX7_init_185 : decode cX7_init 185 = .ok (.lastore, 1) := by decide +kernel
theorem dX7_init_186 : decode cX7_init 186 = .ok (.dup, 1) := by decide +kernel
theorem dX7_init_187 : decode cX7_init 187 = .ok (.bipush 21, 2) := by decide +kernel
theorem dX7_init_189 : decode cX7_init 189 = .ok (.ldc2_w 76, 3) := by decide +kernel
theorem dX7_init_192 : decode cX7_init 192 = .ok (.lastore, 1) := by decide +kernel
theorem dX7_init_193 : decode cX7_init 193 = .ok (.dup, 1) := by decide +kernel
theorem dX7_init_194 : decode cX7_init 194 = .ok (.bipush 22, 2) := by decide +kernel
theorem dX7_init_196 : decode cX7_init 196 = .ok (.ldc2_w 78, 3) := by decide +kernel
theorem dX7_init_199 : decode cX7_init 199 = .ok (.lastore, 1) := by decide +kernel
theorem dX7_init_200 : decode cX7_init 200 = .ok (.putfield 80, 3) := by decide +kernel
theorem dX7_init_203 : decode cX7_init 203 = .ok (.aload_n 0, 1) := by decide +kernel
theorem dX7_init_204 : decode cX7_init 204 = .ok (.iconst 2, 1) := by decide +kernel
theorem dX7_init_205 : decode cX7_init 205 = .ok (.newarray .int, 2) := by decide +kernel
theorem dX7_init_207 : decode cX7_init 207 = .ok (.putfield 83, 3) := by decide +kernel
theorem dX7_init_210 : decode cX7_init 210 = .ok (.aload_n 0, 1) := by decide +kernel
theorem dX7_init_211 : decode cX7_init 211 = .ok (.bipush 48, 2) := by decide +kernel
theorem dX7_init_213 : decode cX7_init 213 = .ok (.newarray .int, 2) := by decide +kernel
theorem dX7_init_215 : decode cX7_init 215 = .ok (.putfield 86, 3) := by decide +kernel
theorem dX7_init_218 : decode cX7_init 218 = .ok (.aload_n 0, 1) := by decide +kernel
theorem dX7_init_219 : decode cX7_init 219 = .ok (.bipush 48, 2) := by decide +kernel
theorem dX7_init_221 : decode cX7_init 221 = .ok (.newarray .int, 2) := by decide +kernel
theorem dX7_init_223 : decode cX7_init 223 = .ok (.putfield 89, 3) := by decide +kernel
theorem dX7_init_226 : decode cX7_init 226 = .ok (.aload_n 0, 1) := by decide +kernel
theorem dX7_init_227 : decode cX7_init 227 = .ok (.bipush 48, 2) := by decide +kernel
theorem dX7_init_229 : decode cX7_init 229 = .ok (.newarray .int, 2) := by decide +kernel
theorem dX7_init_231 : decode cX7_init 231 = .ok (.putfield 92, 3) := by decide +kernel
theorem dX7_init_234 : decode cX7_init 234 = .ok (.aload_n 0, 1) := by decide +kernel
theorem dX7_init_235 : decode cX7_init 235 = .ok (.bipush 48, 2) := by decide +kernel
theorem dX7_init_237 : decode cX7_init 237 = .ok (.newarray .int, 2) := by decide +kernel
theorem dX7_init_239 : decode cX7_init 239 = .ok (.putfield 95, 3) := by decide +kernel
theorem dX7_init_242 : decode cX7_init 242 = .ok (.aload_n 0, 1) := by decide +kernel
theorem dX7_init_243 : decode cX7_init 243 = .ok (.bipush 48, 2) := by decide +kernel
theorem dX7_init_245 : decode cX7_init 245 = .ok (.newarray .int, 2) := by decide +kernel
theorem dX7_init_247 : decode cX7_init 247 = .ok (.putfield 98, 3) := by decide +kernel
theorem dX7_init_250 : decode cX7_init 250 = .ok (.aload_n 0, 1) := by decide +kernel
theorem dX7_init_251 : decode cX7_init 251 = .ok (.iconst 2, 1) := by decide +kernel
theorem dX7_init_252 : decode cX7_init 252 = .ok (.newarray .int, 2) := by decide +kernel
theorem dX7_init_254 : decode cX7_init 254 = .ok (.putfield 101, 3) := by decide +kernel
theorem dX7_init_257 : decode cX7_init 257 = .ok (.aload_n 0, 1) := by decide +kernel
theorem dX7_init_258 : decode cX7_init 258 = .ok (.sipush 2200, 3) := by decide +kernel
theorem dX7_init_261 : decode cX7_init 261 = .ok (.newarray .int, 2) := by decide +kernel
theorem dX7_init_263 : decode cX7_init 263 = .ok (.putfield 104, 3) := by decide +kernel
theorem dX7_init_266 : decode cX7_init 266 = .ok (.aload_n 0, 1) := by decide +kernel
theorem dX7_init_267 : decode cX7_init 267 = .ok (.sipush 2200, 3) := by decide +kernel
theorem dX7_init_270 : decode cX7_init 270 = .ok (.newarray .int, 2) := by decide +kernel
theorem dX7_init_272 : decode cX7_init 272 = .ok (.putfield 107, 3) := by decide +kernel
theorem dX7_init_275 : decode cX7_init 275 = .ok (.aload_n 0, 1) := by decide +kernel
theorem dX7_init_276 : decode cX7_init 276 = .ok (.bipush 9, 2) := by decide +kernel
theorem dX7_init_278 : decode cX7_init 278 = .ok (.newarray .int, 2) := by decide +kernel
theorem dX7_init_280 : decode cX7_init 280 = .ok (.putfield 110, 3) := by decide +kernel
theorem dX7_init_283 : decode cX7_init 283 = .ok (.aload_n 0, 1) := by decide +kernel
theorem dX7_init_284 : decode cX7_init 284 = .ok (.sipush 1100, 3) := by decide +kernel
theorem dX7_init_287 : decode cX7_init 287 = .ok (.newarray .int, 2) := by decide +kernel
theorem dX7_init_289 : decode cX7_init 289 = .ok (.putfield 113, 3) := by decide +kernel
theorem dX7_init_292 : decode cX7_init 292 = .ok (.aload_n 0, 1) := by decide +kernel
theorem dX7_init_293 : decode cX7_init 293 = .ok (.bipush 8, 2) := by decide +kernel
theorem dX7_init_295 : decode cX7_init 295 = .ok (.newarray .int, 2) := by decide +kernel
theorem dX7_init_297 : decode cX7_init 297 = .ok (.putfield 116, 3) := by decide +kernel
theorem dX7_init_300 : decode cX7_init 300 = .ok (.aload_n 0, 1) := by decide +kernel
theorem dX7_init_301 : decode cX7_init 301 = .ok (.bipush 96, 2) := by decide +kernel
theorem dX7_init_303 : decode cX7_init 303 = .ok (.newarray .int, 2) := by decide +kernel
theorem dX7_init_305 : decode cX7_init 305 = .ok (.putfield 119, 3) := by decide +kernel
theorem dX7_init_308 : decode cX7_init 308 = .ok (.aload_n 0, 1) := by decide +kernel
theorem dX7_init_309 : decode cX7_init 309 = .ok (.bipush 96, 2) := by decide +kernel
theorem dX7_init_311 : decode cX7_init 311 = .ok (.newarray .int, 2) := by decide +kernel
theorem dX7_init_313 : decode cX7_init 313 = .ok (.putfield 122, 3) := by decide +kernel
theorem dX7_init_316 : decode cX7_init 316 = .ok (.aload_n 0, 1) := by decide +kernel
theorem dX7_init_317 : decode cX7_init 317 = .ok (.bipush 96, 2) := by decide +kernel
theorem dX7_init_319 : decode cX7_init 319 = .ok (.newarray .int, 2) := by decide +kernel
theorem dX7_init_321 : decode cX7_init 321 = .ok (.putfield 125, 3) := by decide +kernel
theorem dX7_init_324 : decode cX7_init 324 = .ok (.aload_n 0, 1) := by decide +kernel
theorem dX7_init_325 : decode cX7_init 325 = .ok (.sipush 480, 3) := by decide +kernel
theorem dX7_init_328 : decode cX7_init 328 = .ok (.newarray .int, 2) := by decide +kernel
theorem dX7_init_330 : decode cX7_init 330 = .ok (.putfield 128, 3) := by decide +kernel
theorem dX7_init_333 : decode cX7_init 333 = .ok (.aload_n 0, 1) := by decide +kernel
theorem dX7_init_334 : decode cX7_init 334 = .ok (.bipush 8, 2) := by decide +kernel
theorem dX7_init_336 : decode cX7_init 336 = .ok (.newarray .int, 2) := by decide +kernel
theorem dX7_init_338 : decode cX7_init 338 = .ok (.putfield 131, 3) := by decide +kernel
theorem dX7_init_341 : decode cX7_init 341 = .ok (.aload_n 0, 1) := by decide +kernel
theorem dX7_init_342 : decode cX7_init 342 = .ok (.bipush 8, 2) := by decide +kernel
theorem dX7_init_344 : decode cX7_init 344 = .ok (.newarray .int, 2) := by decide +kernel
theorem dX7_init_346 : decode cX7_init 346 = .ok (.putfield 134, 3) := by decide +kernel
theorem dX7_init_349 : decode cX7_init 349 = .ok (.aload_n 0, 1) := by decide +kernel
theorem dX7_init_350 : decode cX7_init 350 = .ok (.bipush 8, 2) := by decide +kernel
theorem dX7_init_352 : decode cX7_init 352 = .ok (.newarray .int, 2) := by decide +kernel
theorem dX7_init_354 : decode cX7_init 354 = .ok (.putfield 137, 3) := by decide +kernel
theorem dX7_init_357 : decode cX7_init 357 = .ok (.aload_n 0, 1) := by decide +kernel
theorem dX7_init_358 : decode cX7_init 358 = .ok (.bipush 8, 2) := by decide +kernel
theorem dX7_init_360 : decode cX7_init 360 = .ok (.newarray .long, 2) := by decide +kernel
theorem dX7_init_362 : decode cX7_init 362 = .ok (.putfield 140, 3) := by decide +kernel
theorem dX7_init_365 : decode cX7_init 365 = .ok (.aload_n 0, 1) := by decide +kernel
theorem dX7_init_366 : decode cX7_init 366 = .ok (.bipush 8, 2) := by decide +kernel
theorem dX7_init_368 : decode cX7_init 368 = .ok (.newarray .long, 2) := by decide +kernel
theorem dX7_init_370 : decode cX7_init 370 = .ok (.putfield 143, 3) := by decide +kernel
theorem dX7_init_373 : decode cX7_init 373 = .ok (.aload_n 0, 1) := by decide +kernel
theorem dX7_init_374 : decode cX7_init 374 = .ok (.bipush 8, 2) := by decide +kernel
theorem dX7_init_376 : decode cX7_init 376 = .ok (.newarray .int, 2) := by decide +kernel
theorem dX7_init_378 : decode cX7_init 378 = .ok (.putfield 146, 3) := by decide +kernel
theorem dX7_init_381 : decode cX7_init 381 = .ok (.aload_n 0, 1) := by decide +kernel
theorem dX7_init_382 : decode cX7_init 382 = .ok (.sipush 240, 3) := by decide +kernel
theorem dX7_init_385 : decode cX7_init 385 = .ok (.newarray .int, 2) := by decide +kernel
theorem dX7_init_387 : decode cX7_init 387 = .ok (.putfield 149, 3) := by decide +kernel
theorem dX7_init_390 : decode cX7_init 390 = .ok (.aload_n 0, 1) := by decide +kernel
theorem dX7_init_391 : decode cX7_init 391 = .ok (.sipush 240, 3) := by decide +kernel
theorem dX7_init_394 : decode cX7_init 394 = .ok (.newarray .int, 2) := by decide +kernel
theorem dX7_init_396 : decode cX7_init 396 = .ok (.putfield 152, 3) := by decide +kernel
theorem dX7_init_399 : decode cX7_init 399 = .ok (.aload_n 0, 1) := by decide +kernel
theorem dX7_init_400 : decode cX7_init 400 = .ok (.sipush 240, 3) := by decide +kernel
theorem dX7_init_403 : decode cX7_init 403 = .ok (.newarray .int, 2) := by decide +kernel
theorem dX7_init_405 : decode cX7_init 405 = .ok (.putfield 155, 3) := by decide +kernel
theorem dX7_init_408 : decode cX7_init 408 = .ok (.aload_n 0, 1) := by decide +kernel
theorem dX7_init_409 : decode cX7_init 409 = .ok (.sipush 240, 3) := by decide +kernel
theorem dX7_init_412 : decode cX7_init 412 = .ok (.newarray .int, 2) := by decide +kernel
theorem dX7_init_414 : decode cX7_init 414 = .ok (.putfield 158, 3) := by decide +kernel
theorem dX7_init_417 : decode cX7_init 417 = .ok (.aload_n 0, 1) := by decide +kernel
theorem dX7_init_418 : decode cX7_init 418 = .ok (.sipush 240, 3) := by decide +kernel
theorem dX7_init_421 : decode cX7_init 421 = .ok (.newarray .int, 2) := by decide +kernel
theorem dX7_init_423 : decode cX7_init 423 = .ok (.putfield 161, 3) := by decide +kernel
theorem dX7_init_426 : decode cX7_init 426 = .ok (.aload_n 0, 1) := by decide +kernel
theorem dX7_init_427 : decode cX7_init 427 = .ok (.sipush 240, 3) := by decide +kernel
theorem dX7_init_430 : decode cX7_init 430 = .ok (.newarray .int, 2) := by decide +kernel
theorem dX7_init_432 : decode cX7_init 432 = .ok (.putfield 164, 3) := by decide +kernel
theorem dX7_init_435 : decode cX7_init 435 = .ok (.aload_n 0, 1) := by decide +kernel
theorem dX7_init_436 : decode cX7_init 436 = .ok (.sipush 2880, 3) := by decide +kernel
theorem dX7_init_439 : decode cX7_init 439 = .ok (.newarray .int, 2) := by decide +kernel
theorem dX7_init_441 : decode cX7_init 441 = .ok (.putfield 167, 3) := by decide +kernel
theorem dX7_init_444 : decode cX7_init 444 = .ok (.aload_n 0, 1) := by decide +kernel
theorem dX7_init_445 : decode cX7_init 445 = .ok (.bipush 60, 2) := by decide +kernel
theorem dX7_init_447 : decode cX7_init 447 = .ok (.newarray .int, 2) := by decide +kernel
theorem dX7_init_449 : decode cX7_init 449 = .ok (.putfield 170, 3) := by decide +kernel
theorem dX7_init_452 : decode cX7_init 452 = .ok (.aload_n 0, 1) := by decide +kernel
theorem dX7_init_453 : decode cX7_init 453 = .ok (.bipush 12, 2) := by decide +kernel
theorem dX7_init_455 : decode cX7_init 455 = .ok (.newarray .int, 2) := by decide +kernel
theorem dX7_init_457 : decode cX7_init 457 = .ok (.putfield 173, 3) := by decide +kernel
theorem dX7_init_460 : decode cX7_init 460 = .ok (.aload_n 0, 1) := by decide +kernel
theorem dX7_init_461 : decode cX7_init 461 = .ok (.bipush 10, 2) := by decide +kernel
theorem dX7_init_463 : decode cX7_init 463 = .ok (.newarray .int, 2) := by decide +kernel
theorem dX7_init_465 : decode cX7_init 465 = .ok (.putfield 176, 3) := by decide +kernel
theorem dX7_init_468 : decode cX7_init 468 = .ok (.aload_n 0, 1) := by decide +kernel
theorem dX7_init_469 : decode cX7_init 469 = .ok (.bipush 10, 2) := by decide +kernel
theorem dX7_init_471 : decode cX7_init 471 = .ok (.newarray .int, 2) := by decide +kernel
theorem dX7_init_473 : decode cX7_init 473 = .ok (.putfield 179, 3) := by decide +kernel
theorem dX7_init_476 : decode cX7_init 476 = .ok (.aload_n 0, 1) := by decide +kernel
theorem dX7_init_477 : decode cX7_init 477 = .ok (.bipush 6, 2) := by decide +kernel
theorem dX7_init_479 : decode cX7_init 479 = .ok (.newarray .boolean, 2) := by decide +kernel
theorem dX7_init_481 : decode cX7_init 481 = .ok (.putfield 182, 3) := by decide +kernel
theorem dX7_init_484 : decode cX7_init 484 = .ok (.aload_n 0, 1) := by decide +kernel
theorem dX7_init_485 : decode cX7_init 485 = .ok (.bipush 12, 2) := by decide +kernel
theorem dX7_init_487 : decode cX7_init 487 = .ok (.invokevirtual 186, 3) := by decide +kernel
theorem dX7_init_490 : decode cX7_init 490 = .ok (.aload_n 0, 1) := by decide +kernel
theorem dX7_init_491 : decode cX7_init 491 = .ok (.bipush 101, 2) := by decide +kernel
theorem dX7_init_493 : decode cX7_init 493 = .ok (.putfield 190, 3) := by decide +kernel
theorem dX7_init_496 : decode cX7_init 496 = .ok (.return_, 1) := by decide +kernel
theorem dX7_isLetter_0 : decode cX7_isLetter 0 = .ok (.iload_n 0, 1) := by decide +kernel
theorem dX7_isLetter_1 : decode cX7_isLetter 1 = .ok (.bipush 97, 2) := by decide +kernel
theorem dX7_isLetter_3 : decode cX7_isLetter 3 = .ok (.if_icmp .lt 13, 3) := by decide +kernel
theorem dX7_isLetter_6 : decode cX7_isLetter 6 = .ok (.iload_n 0, 1) := by decide +kernel
theorem dX7_isLetter_7 : decode cX7_isLetter 7 = .ok (.bipush 122, 2) := by decide +kernel
theorem dX7_isLetter_9 : decode cX7_isLetter 9 = .ok (.if_icmp .gt 7, 3) := by decide +kernel
theorem dX7_isLetter_12 : decode cX7_isLetter 12 = .ok (.iconst 1, 1) := by decide +kernel
theorem dX7_isLetter_13 : decode cX7_isLetter 13 = .ok (.goto 4, 3) := by decide +kernel
theorem dX7_isLetter_16 : decode cX7_isLetter 16 = .ok (.iconst 0, 1) := by decide +kernel
theorem dX7_isLetter_17 : decode cX7_isLetter 17 = .ok (.ireturn, 1) := by decide +kernel
theorem dX7_isDigit_0 : decode cX7_isDigit 0 = .ok (.iload_n 0, 1) := by decide +kernel
theorem dX7_isDigit_1 : decode cX7_isDigit 1 = .ok (.bipush 48, 2) := by decide +kernel
theorem dX7_isDigit_3 : decode cX7_isDigit 3 = .ok (.if_icmp .lt 13, 3) := by decide +kernel
theorem dX7_isDigit_6 : decode cX7_isDigit 6 = .ok (.iload_n 0, 1) := by decide +kernel
theorem dX7_isDigit_7 : decode cX7_isDigit 7 = .ok (.bipush 57, 2) := by decide +kernel
theorem dX7_isDigit_9 : decode cX7_isDigit 9 = .ok (.if_icmp .gt 7, 3) := by decide +kernel
theorem dX7_isDigit_12 : decode cX7_isDigit 12 = .ok (.iconst 1, 1) := by decide +kernel
theorem dX7_isDigit_13 : decode cX7_isDigit 13 = .ok (.goto 4, 3) := by decide +kernel
theorem dX7_isDigit_16 : decode cX7_isDigit 16 = .ok (.iconst 0, 1) := by decide +kernel
theorem dX7_isDigit_17 : decode cX7_isDigit 17 = .ok (.ireturn, 1) := by decide +kernel
theorem dX7_rank_0 : decode cX7_rank 0 = .ok (.iload_n 0, 1) := by decide +kernel
theorem dX7_rank_1 : decode cX7_rank 1 = .ok (.invokestatic 193, 3) := by decide +kernel
theorem dX7_rank_4 : decode cX7_rank 4 = .ok (.ifCond .eq 10, 3) := by decide +kernel
theorem dX7_rank_7 : decode cX7_rank 7 = .ok (.iload_n 0, 1) := by decide +kernel
theorem dX7_rank_8 : decode cX7_rank 8 = .ok (.bipush 96, 2) := by decide +kernel
theorem dX7_rank_10 : decode cX7_rank 10 = .ok (.isub, 1) := by decide +kernel
theorem dX7_rank_11 : decode cX7_rank 11 = .ok (.goto 7, 3) := by decide +kernel
theorem dX7_rank_14 : decode cX7_rank 14 = .ok (.iload_n 0, 1) := by decide +kernel
theorem dX7_rank_15 : decode cX7_rank 15 = .ok (.bipush 21, 2) := by decide +kernel
theorem dX7_rank_17 : decode cX7_rank 17 = .ok (.isub, 1) := by decide +kernel
theorem dX7_rank_18 : decode cX7_rank 18 = .ok (.ireturn, 1) := by decide +kernel
theorem dX7_isSignOf_0 : decode cX7_isSignOf 0 = .ok (.iload_n 0, 1) := by decide +kernel
theorem dX7_isSignOf_1 : decode cX7_isSignOf 1 = .ok (.bipush 40, 2) := by decide +kernel
theorem dX7_isSignOf_3 : decode cX7_isSignOf 3 = .ok (.if_icmp .eq 51, 3) := by decide +kernel
theorem dX7_isSignOf_6 : decode cX7_isSignOf 6 = .ok (.iload_n 0, 1) := by decide +kernel
theorem dX7_isSignOf_7 : decode cX7_isSignOf 7 = .ok (.bipush 41, 2) := by decide +kernel
theorem dX7_isSignOf_9 : decode cX7_isSignOf 9 = .ok (.if_icmp .eq 45, 3) := by decide +kernel
theorem dX7_isSignOf_12 : decode cX7_isSignOf 12 = .ok (.iload_n 0, 1) := by decide +kernel
theorem dX7_isSignOf_13 : decode cX7_isSignOf 13 = .ok (.bipush 59, 2) := by decide +kernel
theorem dX7_isSignOf_15 : decode cX7_isSignOf 15 = .ok (.if_icmp .eq 39, 3) := by decide +kernel
theorem dX7_isSignOf_18 : decode cX7_isSignOf 18 = .ok (.iload_n 0, 1) := by decide +kernel
theorem dX7_isSignOf_19 : decode cX7_isSignOf 19 = .ok (.bipush 61, 2) := by decide +kernel
theorem dX7_isSignOf_21 : decode cX7_isSignOf 21 = .ok (.if_icmp .eq 33, 3) := by decide +kernel
theorem dX7_isSignOf_24 : decode cX7_isSignOf 24 = .ok (.iload_n 0, 1) := by decide +kernel
theorem dX7_isSignOf_25 : decode cX7_isSignOf 25 = .ok (.bipush 60, 2) := by decide +kernel
theorem dX7_isSignOf_27 : decode cX7_isSignOf 27 = .ok (.if_icmp .eq 27, 3) := by decide +kernel
theorem dX7_isSignOf_30 : decode cX7_isSignOf 30 = .ok (.iload_n 0, 1) := by decide +kernel
theorem dX7_isSignOf_31 : decode cX7_isSignOf 31 = .ok (.bipush 43, 2) := by decide +kernel
theorem dX7_isSignOf_33 : decode cX7_isSignOf 33 = .ok (.if_icmp .eq 21, 3) := by decide +kernel
theorem dX7_isSignOf_36 : decode cX7_isSignOf 36 = .ok (.iload_n 0, 1) := by decide +kernel
theorem dX7_isSignOf_37 : decode cX7_isSignOf 37 = .ok (.bipush 45, 2) := by decide +kernel
theorem dX7_isSignOf_39 : decode cX7_isSignOf 39 = .ok (.if_icmp .eq 15, 3) := by decide +kernel
theorem dX7_isSignOf_42 : decode cX7_isSignOf 42 = .ok (.iload_n 0, 1) := by decide +kernel
theorem dX7_isSignOf_43 : decode cX7_isSignOf 43 = .ok (.bipush 42, 2) := by decide +kernel
theorem dX7_isSignOf_45 : decode cX7_isSignOf 45 = .ok (.if_icmp .eq 9, 3) := by decide +kernel
theorem dX7_isSignOf_48 : decode cX7_isSignOf 48 = .ok (.iload_n 0, 1) := by decide +kernel
theorem dX7_isSignOf_49 : decode cX7_isSignOf 49 = .ok (.bipush 47, 2) := by decide +kernel
theorem dX7_isSignOf_51 : decode cX7_isSignOf 51 = .ok (.if_icmp .ne 7, 3) := by decide +kernel
theorem dX7_isSignOf_54 : decode cX7_isSignOf 54 = .ok (.iconst 1, 1) := by decide +kernel
theorem dX7_isSignOf_55 : decode cX7_isSignOf 55 = .ok (.goto 4, 3) := by decide +kernel
theorem dX7_isSignOf_58 : decode cX7_isSignOf 58 = .ok (.iconst 0, 1) := by decide +kernel
theorem dX7_isSignOf_59 : decode cX7_isSignOf 59 = .ok (.ireturn, 1) := by decide +kernel
theorem dX7_cutAll_0 : decode cX7_cutAll 0 = .ok (.aload_n 0, 1) := by decide +kernel
theorem dX7_cutAll_1 : decode cX7_cutAll 1 = .ok (.aload_n 0, 1) := by decide +kernel
theorem dX7_cutAll_2 : decode cX7_cutAll 2 = .ok (.getfield 11, 3) := by decide +kernel
theorem dX7_cutAll_5 : decode cX7_cutAll 5 = .ok (.putfield 197, 3) := by decide +kernel
theorem dX7_cutAll_8 : decode cX7_cutAll 8 = .ok (.aload_n 0, 1) := by decide +kernel
theorem dX7_cutAll_9 : decode cX7_cutAll 9 = .ok (.iconst 0, 1) := by decide +kernel
theorem dX7_cutAll_10 : decode cX7_cutAll 10 = .ok (.putfield 11, 3) := by decide +kernel
theorem dX7_cutAll_13 : decode cX7_cutAll 13 = .ok (.iconst 0, 1) := by decide +kernel
theorem dX7_cutAll_14 : decode cX7_cutAll 14 = .ok (.istore_n 1, 1) := by decide +kernel
theorem dX7_cutAll_15 : decode cX7_cutAll 15 = .ok (.iconst 0, 1) := by decide +kernel
theorem dX7_cutAll_16 : decode cX7_cutAll 16 = .ok (.istore_n 2, 1) := by decide +kernel
theorem dX7_cutAll_17 : decode cX7_cutAll 17 = .ok (.iload_n 2, 1) := by decide +kernel
theorem dX7_cutAll_18 : decode cX7_cutAll 18 = .ok (.aload_n 0, 1) := by decide +kernel
theorem dX7_cutAll_19 : decode cX7_cutAll 19 = .ok (.getfield 197, 3) := by decide +kernel
theorem dX7_cutAll_22 : decode cX7_cutAll 22 = .ok (.if_icmp .ge 257, 3) := by decide +kernel
theorem dX7_cutAll_25 : decode cX7_cutAll 25 = .ok (.aload_n 0, 1) := by decide +kernel
theorem dX7_cutAll_26 : decode cX7_cutAll 26 = .ok (.getfield 14, 3) := by decide +kernel
theorem dX7_cutAll_29 : decode cX7_cutAll 29 = .ok (.iload_n 2, 1) := by decide +kernel
theorem dX7_cutAll_30 : decode cX7_cutAll 30 = .ok (.iaload, 1) := by decide +kernel
theorem dX7_cutAll_31 : decode cX7_cutAll 31 = .ok (.istore_n 3, 1) := by decide +kernel
theorem dX7_cutAll_32 : decode cX7_cutAll 32 = .ok (.iload_n 3, 1) := by decide +kernel
theorem dX7_cutAll_33 : decode cX7_cutAll 33 = .ok (.bipush 10, 2) := by decide +kernel
theorem dX7_cutAll_35 : decode cX7_cutAll 35 = .ok (.if_icmp .eq 9, 3) := by decide +kernel
theorem dX7_cutAll_38 : decode cX7_cutAll 38 = .ok (.iload_n 3, 1) := by decide +kernel
theorem dX7_cutAll_39 : decode cX7_cutAll 39 = .ok (.bipush 32, 2) := by decide +kernel
theorem dX7_cutAll_41 : decode cX7_cutAll 41 = .ok (.if_icmp .ne 9, 3) := by decide +kernel
theorem dX7_cutAll_44 : decode cX7_cutAll 44 = .ok (.iinc 2 1, 3) := by decide +kernel
theorem dX7_cutAll_47 : decode cX7_cutAll 47 = .ok (.goto (-30), 3) := by decide +kernel
theorem dX7_cutAll_50 : decode cX7_cutAll 50 = .ok (.iload_n 2, 1) := by decide +kernel
theorem dX7_cutAll_51 : decode cX7_cutAll 51 = .ok (.istore 4, 2) := by decide +kernel
theorem dX7_cutAll_53 : decode cX7_cutAll 53 = .ok (.lconst 0, 1) := by decide +kernel
theorem dX7_cutAll_54 : decode cX7_cutAll 54 = .ok (.lstore 5, 2) := by decide +kernel
theorem dX7_cutAll_56 : decode cX7_cutAll 56 = .ok (.aload_n 0, 1) := by decide +kernel
theorem dX7_cutAll_57 : decode cX7_cutAll 57 = .ok (.getfield 27, 3) := by decide +kernel
theorem dX7_cutAll_60 : decode cX7_cutAll 60 = .ok (.iload_n 1, 1) := by decide +kernel
theorem dX7_cutAll_61 : decode cX7_cutAll 61 = .ok (.iload_n 2, 1) := by decide +kernel
theorem dX7_cutAll_62 : decode cX7_cutAll 62 = .ok (.iastore, 1) := by decide +kernel
theorem dX7_cutAll_63 : decode cX7_cutAll 63 = .ok (.iload_n 3, 1) := by decide +kernel
theorem dX7_cutAll_64 : decode cX7_cutAll 64 = .ok (.invokestatic 193, 3) := by decide +kernel
theorem dX7_cutAll_67 : decode cX7_cutAll 67 = .ok (.ifCond .eq 85, 3) := by decide +kernel
theorem dX7_cutAll_70 : decode cX7_cutAll 70 = .ok (.iload_n 2, 1) := by decide +kernel
theorem dX7_cutAll_71 : decode cX7_cutAll 71 = .ok (.aload_n 0, 1) := by decide +kernel
theorem dX7_cutAll_72 : decode cX7_cutAll 72 = .ok (.getfield 197, 3) := by decide +kernel
theorem dX7_cutAll_75 : decode cX7_cutAll 75 = .ok (.if_icmp .ge 54, 3) := by decide +kernel
theorem dX7_cutAll_78 : decode cX7_cutAll 78 = .ok (.aload_n 0, 1) := by decide +kernel
theorem dX7_cutAll_79 : decode cX7_cutAll 79 = .ok (.getfield 14, 3) := by decide +kernel
theorem dX7_cutAll_82 : decode cX7_cutAll 82 = .ok (.iload_n 2, 1) := by decide +kernel
theorem dX7_cutAll_83 : decode cX7_cutAll 83 = .ok (.iaload, 1) := by decide +kernel
theorem dX7_cutAll_84 : decode cX7_cutAll 84 = .ok (.invokestatic 193, 3) := by decide +kernel
theorem dX7_cutAll_87 : decode cX7_cutAll 87 = .ok (.ifCond .eq 42, 3) := by decide +kernel
theorem dX7_cutAll_90 : decode cX7_cutAll 90 = .ok (.iload_n 2, 1) := by decide +kernel
theorem dX7_cutAll_91 : decode cX7_cutAll 91 = .ok (.iload 4, 2) := by decide +kernel
theorem dX7_cutAll_93 : decode cX7_cutAll 93 = .ok (.isub, 1) := by decide +kernel
theorem dX7_cutAll_94 : decode cX7_cutAll 94 = .ok (.bipush 8, 2) := by decide +kernel
theorem dX7_cutAll_96 : decode cX7_cutAll 96 = .ok (.if_icmp .ge 23, 3) := by decide +kernel
theorem dX7_cutAll_99 : decode cX7_cutAll 99 = .ok (.ldc2_w 200, 3) := by decide +kernel
theorem dX7_cutAll_102 : decode cX7_cutAll 102 = .ok (.lload 5, 2) := by decide +kernel
theorem dX7_cutAll_104 : decode cX7_cutAll 104 = .ok (.lmul, 1) := by decide +kernel
theorem dX7_cutAll_105 : decode cX7_cutAll 105 = .ok (.aload_n 0, 1) := by decide +kernel
theorem dX7_cutAll_106 : decode cX7_cutAll 106 = .ok (.getfield 14, 3) := by decide +kernel
theorem dX7_cutAll_109 : decode cX7_cutAll 109 = .ok (.iload_n 2, 1) := by decide +kernel
theorem dX7_cutAll_110 : decode cX7_cutAll 110 = .ok (.iaload, 1) := by decide +kernel
theorem dX7_cutAll_111 : decode cX7_cutAll 111 = .ok (.invokestatic 202, 3) := by decide +kernel
theorem dX7_cutAll_114 : decode cX7_cutAll 114 = .ok (.i2l, 1) := by decide +kernel
theorem dX7_cutAll_115 : decode cX7_cutAll 115 = .ok (.ladd, 1) := by decide +kernel
theorem dX7_cutAll_116 : decode cX7_cutAll 116 = .ok (.goto 5, 3) := by decide +kernel
theorem dX7_cutAll_119 : decode cX7_cutAll 119 = .ok (.lload 5, 2) := by decide +kernel
theorem dX7_cutAll_121 : decode cX7_cutAll 121 = .ok (.lstore 5, 2) := by decide +kernel
theorem dX7_cutAll_123 : decode cX7_cutAll 123 = .ok (.iinc 2 1, 3) := by decide +kernel
theorem dX7_cutAll_126 : decode cX7_cutAll 126 = .ok (.goto (-56), 3) := by decide +kernel
theorem dX7_cutAll_129 : decode cX7_cutAll 129 = .ok (.aload_n 0, 1) := by decide +kernel
theorem dX7_cutAll_130 : decode cX7_cutAll 130 = .ok (.getfield 24, 3) := by decide +kernel
theorem dX7_cutAll_133 : decode cX7_cutAll 133 = .ok (.iload_n 1, 1) := by decide +kernel
theorem dX7_cutAll_134 : decode cX7_cutAll 134 = .ok (.iload_n 2, 1) := by decide +kernel
theorem dX7_cutAll_135 : decode cX7_cutAll 135 = .ok (.iload 4, 2) := by decide +kernel
theorem dX7_cutAll_137 : decode cX7_cutAll 137 = .ok (.isub, 1) := by decide +kernel
theorem dX7_cutAll_138 : decode cX7_cutAll 138 = .ok (.bipush 8, 2) := by decide +kernel
theorem dX7_cutAll_140 : decode cX7_cutAll 140 = .ok (.if_icmp .le 7, 3) := by decide +kernel
theorem dX7_cutAll_143 : decode cX7_cutAll 143 = .ok (.iconst 4, 1) := by decide +kernel
theorem dX7_cutAll_144 : decode cX7_cutAll 144 = .ok (.goto 4, 3) := by decide +kernel
theorem dX7_cutAll_147 : decode cX7_cutAll 147 = .ok (.iconst 1, 1) := by decide +kernel
theorem dX7_cutAll_148 : decode cX7_cutAll 148 = .ok (.iastore, 1) := by decide +kernel
theorem dX7_cutAll_149 : decode cX7_cutAll 149 = .ok (.goto 116, 3) := by decide +kernel
theorem dX7_cutAll_152 : decode cX7_cutAll 152 = .ok (.iload_n 3, 1) := by decide +kernel
theorem dX7_cutAll_153 : decode cX7_cutAll 153 = .ok (.invokestatic 206, 3) := by decide +kernel
theorem dX7_cutAll_156 : decode cX7_cutAll 156 = .ok (.ifCond .eq 84, 3) := by decide +kernel
theorem dX7_cutAll_159 : decode cX7_cutAll 159 = .ok (.iload_n 2, 1) := by decide +kernel
theorem dX7_cutAll_160 : decode cX7_cutAll 160 = .ok (.aload_n 0, 1) := by decide +kernel
theorem dX7_cutAll_161 : decode cX7_cutAll 161 = .ok (.getfield 197, 3) := by decide +kernel
theorem dX7_cutAll_164 : decode cX7_cutAll 164 = .ok (.if_icmp .ge 54, 3) := by decide +kernel
theorem dX7_cutAll_167 : decode cX7_cutAll 167 = .ok (.aload_n 0, 1) := by decide +kernel
theorem dX7_cutAll_168 : decode cX7_cutAll 168 = .ok (.getfield 14, 3) := by decide +kernel
theorem dX7_cutAll_171 : decode cX7_cutAll 171 = .ok (.iload_n 2, 1) := by decide +kernel
theorem dX7_cutAll_172 : decode cX7_cutAll 172 = .ok (.iaload, 1) := by decide +kernel
theorem dX7_cutAll_173 : decode cX7_cutAll 173 = .ok (.invokestatic 206, 3) := by decide +kernel
theorem dX7_cutAll_176 : decode cX7_cutAll 176 = .ok (.ifCond .eq 42, 3) := by decide +kernel
theorem dX7_cutAll_179 : decode cX7_cutAll 179 = .ok (.iload_n 2, 1) := by decide +kernel
theorem dX7_cutAll_180 : decode cX7_cutAll 180 = .ok (.iload 4, 2) := by decide +kernel
theorem dX7_cutAll_182 : decode cX7_cutAll 182 = .ok (.isub, 1) := by decide +kernel
theorem dX7_cutAll_183 : decode cX7_cutAll 183 = .ok (.iconst 5, 1) := by decide +kernel
theorem dX7_cutAll_184 : decode cX7_cutAll 184 = .ok (.if_icmp .ge 24, 3) := by decide +kernel
theorem dX7_cutAll_187 : decode cX7_cutAll 187 = .ok (.ldc2_w 209, 3) := by decide +kernel
theorem dX7_cutAll_190 : decode cX7_cutAll 190 = .ok (.lload 5, 2) := by decide +kernel
theorem dX7_cutAll_192 : decode cX7_cutAll 192 = .ok (.lmul, 1) := by decide +kernel
theorem dX7_cutAll_193 : decode cX7_cutAll 193 = .ok (.aload_n 0, 1) := by decide +kernel
theorem dX7_cutAll_194 : decode cX7_cutAll 194 = .ok (.getfield 14, 3) := by decide +kernel
theorem dX7_cutAll_197 : decode cX7_cutAll 197 = .ok (.iload_n 2, 1) := by decide +kernel
theorem dX7_cutAll_198 : decode cX7_cutAll 198 = .ok (.iaload, 1) := by decide +kernel
theorem dX7_cutAll_199 : decode cX7_cutAll 199 = .ok (.i2l, 1) := by decide +kernel
theorem dX7_cutAll_200 : decode cX7_cutAll 200 = .ok (.ladd, 1) := by decide +kernel
theorem dX7_cutAll_201 : decode cX7_cutAll 201 = .ok (.ldc2_w 211, 3) := by decide +kernel
theorem dX7_cutAll_204 : decode cX7_cutAll 204 = .ok (.lsub, 1) := by decide +kernel
theorem dX7_cutAll_205 : decode cX7_cutAll 205 = .ok (.goto 5, 3) := by decide +kernel
theorem dX7_cutAll_208 : decode cX7_cutAll 208 = .ok (.lload 5, 2) := by decide +kernel
theorem dX7_cutAll_210 : decode cX7_cutAll 210 = .ok (.lstore 5, 2) := by decide +kernel
theorem dX7_cutAll_212 : decode cX7_cutAll 212 = .ok (.iinc 2 1, 3) := by decide +kernel
theorem dX7_cutAll_215 : decode cX7_cutAll 215 = .ok (.goto (-56), 3) := by decide +kernel
theorem dX7_cutAll_218 : decode cX7_cutAll 218 = .ok (.aload_n 0, 1) := by decide +kernel
theorem dX7_cutAll_219 : decode cX7_cutAll 219 = .ok (.getfield 24, 3) := by decide +kernel
theorem dX7_cutAll_222 : decode cX7_cutAll 222 = .ok (.iload_n 1, 1) := by decide +kernel
theorem dX7_cutAll_223 : decode cX7_cutAll 223 = .ok (.iload_n 2, 1) := by decide +kernel
theorem dX7_cutAll_224 : decode cX7_cutAll 224 = .ok (.iload 4, 2) := by decide +kernel
theorem dX7_cutAll_226 : decode cX7_cutAll 226 = .ok (.isub, 1) := by decide +kernel
theorem dX7_cutAll_227 : decode cX7_cutAll 227 = .ok (.iconst 5, 1) := by decide +kernel
theorem dX7_cutAll_228 : decode cX7_cutAll 228 = .ok (.if_icmp .le 7, 3) := by decide +kernel
theorem dX7_cutAll_231 : decode cX7_cutAll 231 = .ok (.iconst 4, 1) := by decide +kernel
theorem dX7_cutAll_232 : decode cX7_cutAll 232 = .ok (.goto 4, 3) := by decide +kernel
theorem dX7_cutAll_235 : decode cX7_cutAll 235 = .ok (.iconst 2, 1) := by decide +kernel
theorem dX7_cutAll_236 : decode cX7_cutAll 236 = .ok (.iastore, 1) := by decide +kernel
theorem dX7_cutAll_237 : decode cX7_cutAll 237 = .ok (.goto 28, 3) := by decide +kernel
theorem dX7_cutAll_240 : decode cX7_cutAll 240 = .ok (.iload_n 3, 1) := by decide +kernel
theorem dX7_cutAll_241 : decode cX7_cutAll 241 = .ok (.i2l, 1) := by decide +kernel
theorem dX7_cutAll_242 : decode cX7_cutAll 242 = .ok (.lstore 5, 2) := by decide +kernel
theorem dX7_cutAll_244 : decode cX7_cutAll 244 = .ok (.aload_n 0, 1) := by decide +kernel
theorem dX7_cutAll_245 : decode cX7_cutAll 245 = .ok (.getfield 24, 3) := by decide +kernel
theorem dX7_cutAll_248 : decode cX7_cutAll 248 = .ok (.iload_n 1, 1) := by decide +kernel
theorem dX7_cutAll_249 : decode cX7_cutAll 249 = .ok (.iload_n 3, 1) := by decide +kernel
theorem dX7_cutAll_250 : decode cX7_cutAll 250 = .ok (.invokestatic 213, 3) := by decide +kernel
theorem dX7_cutAll_253 : decode cX7_cutAll 253 = .ok (.ifCond .eq 7, 3) := by decide +kernel
theorem dX7_cutAll_256 : decode cX7_cutAll 256 = .ok (.iconst 3, 1) := by decide +kernel
theorem dX7_cutAll_257 : decode cX7_cutAll 257 = .ok (.goto 4, 3) := by decide +kernel
theorem dX7_cutAll_260 : decode cX7_cutAll 260 = .ok (.iconst 4, 1) := by decide +kernel
theorem dX7_cutAll_261 : decode cX7_cutAll 261 = .ok (.iastore, 1) := by decide +kernel
theorem dX7_cutAll_262 : decode cX7_cutAll 262 = .ok (.iinc 2 1, 3) := by decide +kernel
theorem dX7_cutAll_265 : decode cX7_cutAll 265 = .ok (.aload_n 0, 1) := by decide +kernel
theorem dX7_cutAll_266 : decode cX7_cutAll 266 = .ok (.getfield 30, 3) := by decide +kernel
theorem dX7_cutAll_269 : decode cX7_cutAll 269 = .ok (.iload_n 1, 1) := by decide +kernel
theorem dX7_cutAll_270 : decode cX7_cutAll 270 = .ok (.lload 5, 2) := by decide +kernel
theorem dX7_cutAll_272 : decode cX7_cutAll 272 = .ok (.lastore, 1) := by decide +kernel
theorem dX7_cutAll_273 : decode cX7_cutAll 273 = .ok (.iinc 1 1, 3) := by decide +kernel
theorem dX7_cutAll_276 : decode cX7_cutAll 276 = .ok (.goto (-259), 3) := by decide +kernel
theorem dX7_cutAll_279 : decode cX7_cutAll 279 = .ok (.aload_n 0, 1) := by decide +kernel
theorem dX7_cutAll_280 : decode cX7_cutAll 280 = .ok (.getfield 24, 3) := by decide +kernel
theorem dX7_cutAll_283 : decode cX7_cutAll 283 = .ok (.iload_n 1, 1) := by decide +kernel
theorem dX7_cutAll_284 : decode cX7_cutAll 284 = .ok (.iconst 0, 1) := by decide +kernel
theorem dX7_cutAll_285 : decode cX7_cutAll 285 = .ok (.iastore, 1) := by decide +kernel
theorem dX7_cutAll_286 : decode cX7_cutAll 286 = .ok (.aload_n 0, 1) := by decide +kernel
theorem dX7_cutAll_287 : decode cX7_cutAll 287 = .ok (.getfield 27, 3) := by decide +kernel
theorem dX7_cutAll_290 : decode cX7_cutAll 290 = .ok (.iload_n 1, 1) := by decide +kernel
theorem dX7_cutAll_291 : decode cX7_cutAll 291 = .ok (.aload_n 0, 1) := by decide +kernel
theorem dX7_cutAll_292 : decode cX7_cutAll 292 = .ok (.getfield 197, 3) := by decide +kernel
theorem dX7_cutAll_295 : decode cX7_cutAll 295 = .ok (.iastore, 1) := by decide +kernel
theorem dX7_cutAll_296 : decode cX7_cutAll 296 = .ok (.aload_n 0, 1) := by decide +kernel
theorem dX7_cutAll_297 : decode cX7_cutAll 297 = .ok (.iconst 0, 1) := by decide +kernel
theorem dX7_cutAll_298 : decode cX7_cutAll 298 = .ok (.putfield 216, 3) := by decide +kernel
theorem dX7_cutAll_301 : decode cX7_cutAll 301 = .ok (.aload_n 0, 1) := by decide +kernel
theorem dX7_cutAll_302 : decode cX7_cutAll 302 = .ok (.iconst 0, 1) := by decide +kernel
theorem dX7_cutAll_303 : decode cX7_cutAll 303 = .ok (.putfield 219, 3) := by decide +kernel
theorem dX7_cutAll_306 : decode cX7_cutAll 306 = .ok (.return_, 1) := by decide +kernel
theorem dX7_wrong_0 : decode cX7_wrong 0 = .ok (.aload_n 0, 1) := by decide +kernel
theorem dX7_wrong_1 : decode cX7_wrong 1 = .ok (.getfield 219, 3) := by decide +kernel
theorem dX7_wrong_4 : decode cX7_wrong 4 = .ok (.ifCond .ne 21, 3) := by decide +kernel
theorem dX7_wrong_7 : decode cX7_wrong 7 = .ok (.aload_n 0, 1) := by decide +kernel
theorem dX7_wrong_8 : decode cX7_wrong 8 = .ok (.iload_n 1, 1) := by decide +kernel
theorem dX7_wrong_9 : decode cX7_wrong 9 = .ok (.bipush 16, 2) := by decide +kernel
theorem dX7_wrong_11 : decode cX7_wrong 11 = .ok (.aload_n 0, 1) := by decide +kernel
theorem dX7_wrong_12 : decode cX7_wrong 12 = .ok (.getfield 27, 3) := by decide +kernel
theorem dX7_wrong_15 : decode cX7_wrong 15 = .ok (.aload_n 0, 1) := by decide +kernel
theorem dX7_wrong_16 : decode cX7_wrong 16 = .ok (.getfield 216, 3) := by decide +kernel
theorem dX7_wrong_19 : decode cX7_wrong 19 = .ok (.iaload, 1) := by decide +kernel
theorem dX7_wrong_20 : decode cX7_wrong 20 = .ok (.imul, 1) := by decide +kernel
theorem dX7_wrong_21 : decode cX7_wrong 21 = .ok (.iadd, 1) := by decide +kernel
theorem dX7_wrong_22 : decode cX7_wrong 22 = .ok (.putfield 219, 3) := by decide +kernel
theorem dX7_wrong_25 : decode cX7_wrong 25 = .ok (.return_, 1) := by decide +kernel
theorem dX7_isSign_0 : decode cX7_isSign 0 = .ok (.aload_n 0, 1) := by decide +kernel
theorem dX7_isSign_1 : decode cX7_isSign 1 = .ok (.getfield 219, 3) := by decide +kernel
theorem dX7_isSign_4 : decode cX7_isSign 4 = .ok (.ifCond .ne 35, 3) := by decide +kernel
theorem dX7_isSign_7 : decode cX7_isSign 7 = .ok (.aload_n 0, 1) := by decide +kernel
theorem dX7_isSign_8 : decode cX7_isSign 8 = .ok (.getfield 24, 3) := by decide +kernel
theorem dX7_isSign_11 : decode cX7_isSign 11 = .ok (.aload_n 0, 1) := by decide +kernel
theorem dX7_isSign_12 : decode cX7_isSign 12 = .ok (.getfield 216, 3) := by decide +kernel
theorem dX7_isSign_15 : decode cX7_isSign 15 = .ok (.iaload, 1) := by decide +kernel
theorem dX7_isSign_16 : decode cX7_isSign 16 = .ok (.iconst 3, 1) := by decide +kernel
theorem dX7_isSign_17 : decode cX7_isSign 17 = .ok (.if_icmp .ne 22, 3) := by decide +kernel
theorem dX7_isSign_20 : decode cX7_isSign 20 = .ok (.aload_n 0, 1) := by decide +kernel
theorem dX7_isSign_21 : decode cX7_isSign 21 = .ok (.getfield 30, 3) := by decide +kernel
theorem dX7_isSign_24 : decode cX7_isSign 24 = .ok (.aload_n 0, 1) := by decide +kernel
theorem dX7_isSign_25 : decode cX7_isSign 25 = .ok (.getfield 216, 3) := by decide +kernel
theorem dX7_isSign_28 : decode cX7_isSign 28 = .ok (.laload, 1) := by decide +kernel
theorem dX7_isSign_29 : decode cX7_isSign 29 = .ok (.iload_n 1, 1) := by decide +kernel
theorem dX7_isSign_30 : decode cX7_isSign 30 = .ok (.i2l, 1) := by decide +kernel
theorem dX7_isSign_31 : decode cX7_isSign 31 = .ok (.lcmp, 1) := by decide +kernel
theorem dX7_isSign_32 : decode cX7_isSign 32 = .ok (.ifCond .ne 7, 3) := by decide +kernel
theorem dX7_isSign_35 : decode cX7_isSign 35 = .ok (.iconst 1, 1) := by decide +kernel
theorem dX7_isSign_36 : decode cX7_isSign 36 = .ok (.goto 4, 3) := by decide +kernel
theorem dX7_isSign_39 : decode cX7_isSign 39 = .ok (.iconst 0, 1) := by decide +kernel
theorem dX7_isSign_40 : decode cX7_isSign 40 = .ok (.ireturn, 1) := by decide +kernel
theorem dX7_isWord_0 : decode cX7_isWord 0 = .ok (.aload_n 0, 1) := by decide +kernel
theorem dX7_isWord_1 : decode cX7_isWord 1 = .ok (.getfield 219, 3) := by decide +kernel
theorem dX7_isWord_4 : decode cX7_isWord 4 = .ok (.ifCond .ne 39, 3) := by decide +kernel
theorem dX7_isWord_7 : decode cX7_isWord 7 = .ok (.aload_n 0, 1) := by decide +kernel
theorem dX7_isWord_8 : decode cX7_isWord 8 = .ok (.getfield 24, 3) := by decide +kernel
theorem dX7_isWord_11 : decode cX7_isWord 11 = .ok (.aload_n 0, 1) := by decide +kernel
theorem dX7_isWord_12 : decode cX7_isWord 12 = .ok (.getfield 216, 3) := by decide +kernel
theorem dX7_isWord_15 : decode cX7_isWord 15 = .ok (.iaload, 1) := by decide +kernel
theorem dX7_isWord_16 : decode cX7_isWord 16 = .ok (.iconst 1, 1) := by decide +kernel
theorem dX7_isWord_17 : decode cX7_isWord 17 = .ok (.if_icmp .ne 26, 3) := by decide +kernel
theorem dX7_isWord_20 : decode cX7_isWord 20 = .ok (.aload_n 0, 1) := by decide +kernel
theorem dX7_isWord_21 : decode cX7_isWord 21 = .ok (.getfield 30, 3) := by decide +kernel
theorem dX7_isWord_24 : decode cX7_isWord 24 = .ok (.aload_n 0, 1) := by decide +kernel
theorem dX7_isWord_25 : decode cX7_isWord 25 = .ok (.getfield 216, 3) := by decide +kernel
theorem dX7_isWord_28 : decode cX7_isWord 28 = .ok (.laload, 1) := by decide +kernel
theorem dX7_isWord_29 : decode cX7_isWord 29 = .ok (.aload_n 0, 1) := by decide +kernel
theorem dX7_isWord_30 : decode cX7_isWord 30 = .ok (.getfield 80, 3) := by decide +kernel
theorem dX7_isWord_33 : decode cX7_isWord 33 = .ok (.iload_n 1, 1) := by decide +kernel
theorem dX7_isWord_34 : decode cX7_isWord 34 = .ok (.laload, 1) := by decide +kernel
theorem dX7_isWord_35 : decode cX7_isWord 35 = .ok (.lcmp, 1) := by decide +kernel
theorem dX7_isWord_36 : decode cX7_isWord 36 = .ok (.ifCond .ne 7, 3) := by decide +kernel
theorem dX7_isWord_39 : decode cX7_isWord 39 = .ok (.iconst 1, 1) := by decide +kernel
theorem dX7_isWord_40 : decode cX7_isWord 40 = .ok (.goto 4, 3) := by decide +kernel
theorem dX7_isWord_43 : decode cX7_isWord 43 = .ok (.iconst 0, 1) := by decide +kernel
theorem dX7_isWord_44 : decode cX7_isWord 44 = .ok (.ireturn, 1) := by decide +kernel
theorem dX7_takeSign_0 : decode cX7_takeSign 0 = .ok (.aload_n 0, 1) := by decide +kernel
theorem dX7_takeSign_1 : decode cX7_takeSign 1 = .ok (.iload_n 1, 1) := by decide +kernel
theorem dX7_takeSign_2 : decode cX7_takeSign 2 = .ok (.invokevirtual 222, 3) := by decide +kernel
theorem dX7_takeSign_5 : decode cX7_takeSign 5 = .ok (.ifCond .eq 16, 3) := by decide +kernel
theorem dX7_takeSign_8 : decode cX7_takeSign 8 = .ok (.aload_n 0, 1) := by decide +kernel
theorem dX7_takeSign_9 : decode cX7_takeSign 9 = .ok (.dup, 1) := by decide +kernel
theorem dX7_takeSign_10 : decode cX7_takeSign 10 = .ok (.getfield 216, 3) := by decide +kernel
theorem dX7_takeSign_13 : decode cX7_takeSign 13 = .ok (.iconst 1, 1) := by decide +kernel
theorem dX7_takeSign_14 : decode cX7_takeSign 14 = .ok (.iadd, 1) := by decide +kernel
theorem dX7_takeSign_15 : decode cX7_takeSign 15 = .ok (.putfield 216, 3) := by decide +kernel
theorem dX7_takeSign_18 : decode cX7_takeSign 18 = .ok (.goto 8, 3) := by decide +kernel
theorem dX7_takeSign_21 : decode cX7_takeSign 21 = .ok (.aload_n 0, 1) := by decide +kernel
theorem dX7_takeSign_22 : decode cX7_takeSign 22 = .ok (.iconst 1, 1) := by decide +kernel
theorem dX7_takeSign_23 : decode cX7_takeSign 23 = .ok (.invokevirtual 225, 3) := by decide +kernel
theorem dX7_takeSign_26 : decode cX7_takeSign 26 = .ok (.return_, 1) := by decide +kernel
theorem dX7_hasSign_0 : decode cX7_hasSign 0 = .ok (.aload_n 0, 1) := by decide +kernel
theorem dX7_hasSign_1 : decode cX7_hasSign 1 = .ok (.iload_n 1, 1) := by decide +kernel
theorem dX7_hasSign_2 : decode cX7_hasSign 2 = .ok (.invokevirtual 222, 3) := by decide +kernel
theorem dX7_hasSign_5 : decode cX7_hasSign 5 = .ok (.istore_n 2, 1) := by decide +kernel
theorem dX7_hasSign_6 : decode cX7_hasSign 6 = .ok (.aload_n 0, 1) := by decide +kernel
theorem dX7_hasSign_7 : decode cX7_hasSign 7 = .ok (.dup, 1) := by decide +kernel
theorem dX7_hasSign_8 : decode cX7_hasSign 8 = .ok (.getfield 216, 3) := by decide +kernel
theorem dX7_hasSign_11 : decode cX7_hasSign 11 = .ok (.iload_n 2, 1) := by decide +kernel
theorem dX7_hasSign_12 : decode cX7_hasSign 12 = .ok (.ifCond .eq 7, 3) := by decide +kernel
theorem dX7_hasSign_15 : decode cX7_hasSign 15 = .ok (.iconst 1, 1) := by decide +kernel
theorem dX7_hasSign_16 : decode cX7_hasSign 16 = .ok (.goto 4, 3) := by decide +kernel
theorem dX7_hasSign_19 : decode cX7_hasSign 19 = .ok (.iconst 0, 1) := by decide +kernel
theorem dX7_hasSign_20 : decode cX7_hasSign 20 = .ok (.iadd, 1) := by decide +kernel
theorem dX7_hasSign_21 : decode cX7_hasSign 21 = .ok (.putfield 216, 3) := by decide +kernel
theorem dX7_hasSign_24 : decode cX7_hasSign 24 = .ok (.iload_n 2, 1) := by decide +kernel
theorem dX7_hasSign_25 : decode cX7_hasSign 25 = .ok (.ireturn, 1) := by decide +kernel
theorem dX7_hasWord_0 : decode cX7_hasWord 0 = .ok (.aload_n 0, 1) := by decide +kernel
theorem dX7_hasWord_1 : decode cX7_hasWord 1 = .ok (.iload_n 1, 1) := by decide +kernel
theorem dX7_hasWord_2 : decode cX7_hasWord 2 = .ok (.invokevirtual 228, 3) := by decide +kernel
theorem dX7_hasWord_5 : decode cX7_hasWord 5 = .ok (.istore_n 2, 1) := by decide +kernel
theorem dX7_hasWord_6 : decode cX7_hasWord 6 = .ok (.aload_n 0, 1) := by decide +kernel
theorem dX7_hasWord_7 : decode cX7_hasWord 7 = .ok (.dup, 1) := by decide +kernel
theorem dX7_hasWord_8 : decode cX7_hasWord 8 = .ok (.getfield 216, 3) := by decide +kernel
theorem dX7_hasWord_11 : decode cX7_hasWord 11 = .ok (.iload_n 2, 1) := by decide +kernel
theorem dX7_hasWord_12 : decode cX7_hasWord 12 = .ok (.ifCond .eq 7, 3) := by decide +kernel
theorem dX7_hasWord_15 : decode cX7_hasWord 15 = .ok (.iconst 1, 1) := by decide +kernel
theorem dX7_hasWord_16 : decode cX7_hasWord 16 = .ok (.goto 4, 3) := by decide +kernel
theorem dX7_hasWord_19 : decode cX7_hasWord 19 = .ok (.iconst 0, 1) := by decide +kernel
theorem dX7_hasWord_20 : decode cX7_hasWord 20 = .ok (.iadd, 1) := by decide +kernel
theorem dX7_hasWord_21 : decode cX7_hasWord 21 = .ok (.putfield 216, 3) := by decide +kernel
theorem dX7_hasWord_24 : decode cX7_hasWord 24 = .ok (.iload_n 2, 1) := by decide +kernel
theorem dX7_hasWord_25 : decode cX7_hasWord 25 = .ok (.ireturn, 1) := by decide +kernel
theorem dX7_takeWord_0 : decode cX7_takeWord 0 = .ok (.aload_n 0, 1) := by decide +kernel
theorem dX7_takeWord_1 : decode cX7_takeWord 1 = .ok (.iload_n 1, 1) := by decide +kernel
theorem dX7_takeWord_2 : decode cX7_takeWord 2 = .ok (.invokevirtual 231, 3) := by decide +kernel
theorem dX7_takeWord_5 : decode cX7_takeWord 5 = .ok (.ifCond .ne 8, 3) := by decide +kernel
theorem dX7_takeWord_8 : decode cX7_takeWord 8 = .ok (.aload_n 0, 1) := by decide +kernel
theorem dX7_takeWord_9 : decode cX7_takeWord 9 = .ok (.iconst 1, 1) := by decide +kernel
theorem dX7_takeWord_10 : decode cX7_takeWord 10 = .ok (.invokevirtual 225, 3) := by decide +kernel
theorem dX7_takeWord_13 : decode cX7_takeWord 13 = .ok (.return_, 1) := by decide +kernel
theorem dX7_emit_0 : decode cX7_emit 0 = .ok (.aload_n 0, 1) := by decide +kernel
theorem dX7_emit_1 : decode cX7_emit 1 = .ok (.getfield 104, 3) := by decide +kernel
theorem dX7_emit_4 : decode cX7_emit 4 = .ok (.sipush 1100, 3) := by decide +kernel
theorem dX7_emit_7 : decode cX7_emit 7 = .ok (.aload_n 0, 1) := by decide +kernel
theorem dX7_emit_8 : decode cX7_emit 8 = .ok (.getfield 234, 3) := by decide +kernel
theorem dX7_emit_11 : decode cX7_emit 11 = .ok (.imul, 1) := by decide +kernel
theorem dX7_emit_12 : decode cX7_emit 12 = .ok (.aload_n 0, 1) := by decide +kernel
theorem dX7_emit_13 : decode cX7_emit 13 = .ok (.getfield 237, 3) := by decide +kernel
theorem dX7_emit_16 : decode cX7_emit 16 = .ok (.iadd, 1) := by decide +kernel
theorem dX7_emit_17 : decode cX7_emit 17 = .ok (.iload_n 1, 1) := by decide +kernel
theorem dX7_emit_18 : decode cX7_emit 18 = .ok (.iastore, 1) := by decide +kernel
theorem dX7_emit_19 : decode cX7_emit 19 = .ok (.aload_n 0, 1) := by decide +kernel
theorem dX7_emit_20 : decode cX7_emit 20 = .ok (.getfield 107, 3) := by decide +kernel
theorem dX7_emit_23 : decode cX7_emit 23 = .ok (.sipush 1100, 3) := by decide +kernel
theorem dX7_emit_26 : decode cX7_emit 26 = .ok (.aload_n 0, 1) := by decide +kernel
theorem dX7_emit_27 : decode cX7_emit 27 = .ok (.getfield 234, 3) := by decide +kernel
theorem dX7_emit_30 : decode cX7_emit 30 = .ok (.imul, 1) := by decide +kernel
theorem dX7_emit_31 : decode cX7_emit 31 = .ok (.aload_n 0, 1) := by decide +kernel
theorem dX7_emit_32 : decode cX7_emit 32 = .ok (.getfield 237, 3) := by decide +kernel
theorem dX7_emit_35 : decode cX7_emit 35 = .ok (.iadd, 1) := by decide +kernel
theorem dX7_emit_36 : decode cX7_emit 36 = .ok (.iload_n 2, 1) := by decide +kernel
theorem dX7_emit_37 : decode cX7_emit 37 = .ok (.iastore, 1) := by decide +kernel
theorem dX7_emit_38 : decode cX7_emit 38 = .ok (.aload_n 0, 1) := by decide +kernel
theorem dX7_emit_39 : decode cX7_emit 39 = .ok (.dup, 1) := by decide +kernel
theorem dX7_emit_40 : decode cX7_emit 40 = .ok (.getfield 237, 3) := by decide +kernel
theorem dX7_emit_43 : decode cX7_emit 43 = .ok (.iconst 1, 1) := by decide +kernel
theorem dX7_emit_44 : decode cX7_emit 44 = .ok (.iadd, 1) := by decide +kernel
theorem dX7_emit_45 : decode cX7_emit 45 = .ok (.putfield 237, 3) := by decide +kernel
theorem dX7_emit_48 : decode cX7_emit 48 = .ok (.return_, 1) := by decide +kernel
theorem dX7_laws_0 : decode cX7_laws 0 = .ok (.aload_n 0, 1) := by decide +kernel
theorem dX7_laws_1 : decode cX7_laws 1 = .ok (.iconst 0, 1) := by decide +kernel
theorem dX7_laws_2 : decode cX7_laws 2 = .ok (.putfield 1, 3) := by decide +kernel
theorem dX7_laws_5 : decode cX7_laws 5 = .ok (.aload_n 0, 1) := by decide +kernel
theorem dX7_laws_6 : decode cX7_laws 6 = .ok (.invokevirtual 240, 3) := by decide +kernel
theorem dX7_laws_9 : decode cX7_laws 9 = .ok (.aload_n 0, 1) := by decide +kernel
theorem dX7_laws_10 : decode cX7_laws 10 = .ok (.iconst 1, 1) := by decide +kernel
theorem dX7_laws_11 : decode cX7_laws 11 = .ok (.aload_n 0, 1) := by decide +kernel
theorem dX7_laws_12 : decode cX7_laws 12 = .ok (.getfield 243, 3) := by decide +kernel
theorem dX7_laws_15 : decode cX7_laws 15 = .ok (.isub, 1) := by decide +kernel
theorem dX7_laws_16 : decode cX7_laws 16 = .ok (.putfield 234, 3) := by decide +kernel
theorem dX7_laws_19 : decode cX7_laws 19 = .ok (.aload_n 0, 1) := by decide +kernel
theorem dX7_laws_20 : decode cX7_laws 20 = .ok (.getfield 83, 3) := by decide +kernel
theorem dX7_laws_23 : decode cX7_laws 23 = .ok (.aload_n 0, 1) := by decide +kernel
theorem dX7_laws_24 : decode cX7_laws 24 = .ok (.getfield 234, 3) := by decide +kernel
theorem dX7_laws_27 : decode cX7_laws 27 = .ok (.iconst 0, 1) := by decide +kernel
theorem dX7_laws_28 : decode cX7_laws 28 = .ok (.iastore, 1) := by decide +kernel
theorem dX7_laws_29 : decode cX7_laws 29 = .ok (.aload_n 0, 1) := by decide +kernel
theorem dX7_laws_30 : decode cX7_laws 30 = .ok (.getfield 101, 3) := by decide +kernel
theorem dX7_laws_33 : decode cX7_laws 33 = .ok (.aload_n 0, 1) := by decide +kernel
theorem dX7_laws_34 : decode cX7_laws 34 = .ok (.getfield 234, 3) := by decide +kernel
theorem dX7_laws_37 : decode cX7_laws 37 = .ok (.iconst 0, 1) := by decide +kernel
theorem dX7_laws_38 : decode cX7_laws 38 = .ok (.iastore, 1) := by decide +kernel
theorem dX7_laws_39 : decode cX7_laws 39 = .ok (.aload_n 0, 1) := by decide +kernel
theorem dX7_laws_40 : decode cX7_laws 40 = .ok (.iconst 0, 1) := by decide +kernel
theorem dX7_laws_41 : decode cX7_laws 41 = .ok (.putfield 237, 3) := by decide +kernel
theorem dX7_laws_44 : decode cX7_laws 44 = .ok (.aload_n 0, 1) := by decide +kernel
theorem dX7_laws_45 : decode cX7_laws 45 = .ok (.getfield 219, 3) := by decide +kernel
theorem dX7_laws_48 : decode cX7_laws 48 = .ok (.ifCond .ne 22, 3) := by decide +kernel
theorem dX7_laws_51 : decode cX7_laws 51 = .ok (.aload_n 0, 1) := by decide +kernel
theorem dX7_laws_52 : decode cX7_laws 52 = .ok (.getfield 24, 3) := by decide +kernel
theorem dX7_laws_55 : decode cX7_laws 55 = .ok (.aload_n 0, 1) := by decide +kernel
theorem dX7_laws_56 : decode cX7_laws 56 = .ok (.getfield 216, 3) := by decide +kernel
theorem dX7_laws_59 : decode cX7_laws 59 = .ok (.iaload, 1) := by decide +kernel
theorem dX7_laws_60 : decode cX7_laws 60 = .ok (.ifCond .eq 10, 3) := by decide +kernel
theorem dX7_laws_63 : decode cX7_laws 63 = .ok (.aload_n 0, 1) := by decide +kernel
theorem dX7_laws_64 : decode cX7_laws 64 = .ok (.invokevirtual 246, 3) := by decide +kernel
theorem dX7_laws_67 : decode cX7_laws 67 = .ok (.goto (-23), 3) := by decide +kernel
theorem dX7_laws_70 : decode cX7_laws 70 = .ok (.aload_n 0, 1) := by decide +kernel
theorem dX7_laws_71 : decode cX7_laws 71 = .ok (.getfield 219, 3) := by decide +kernel
theorem dX7_laws_74 : decode cX7_laws 74 = .ok (.ifCond .ne 16, 3) := by decide +kernel
theorem dX7_laws_77 : decode cX7_laws 77 = .ok (.aload_n 0, 1) := by decide +kernel
theorem dX7_laws_78 : decode cX7_laws 78 = .ok (.aload_n 0, 1) := by decide +kernel
theorem dX7_laws_79 : decode cX7_laws 79 = .ok (.getfield 234, 3) := by decide +kernel
theorem dX7_laws_82 : decode cX7_laws 82 = .ok (.putfield 243, 3) := by decide +kernel
theorem dX7_laws_85 : decode cX7_laws 85 = .ok (.aload_n 0, 1) := by decide +kernel
theorem dX7_laws_86 : decode cX7_laws 86 = .ok (.iconst 0, 1) := by decide +kernel
theorem dX7_laws_87 : decode cX7_laws 87 = .ok (.putfield 249, 3) := by decide +kernel
theorem dX7_laws_90 : decode cX7_laws 90 = .ok (.aload_n 0, 1) := by decide +kernel
theorem dX7_laws_91 : decode cX7_laws 91 = .ok (.getfield 219, 3) := by decide +kernel
theorem dX7_laws_94 : decode cX7_laws 94 = .ok (.ireturn, 1) := by decide +kernel
theorem dX7_takeNumber_0 : decode cX7_takeNumber 0 = .ok (.aload_n 0, 1) := by decide +kernel
theorem dX7_takeNumber_1 : decode cX7_takeNumber 1 = .ok (.getfield 219, 3) := by decide +kernel
theorem dX7_takeNumber_4 : decode cX7_takeNumber 4 = .ok (.ifCond .ne 24, 3) := by decide +kernel
theorem dX7_takeNumber_7 : decode cX7_takeNumber 7 = .ok (.aload_n 0, 1) := by decide +kernel
theorem dX7_takeNumber_8 : decode cX7_takeNumber 8 = .ok (.getfield 24, 3) := by decide +kernel
theorem dX7_takeNumber_11 : decode cX7_takeNumber 11 = .ok (.aload_n 0, 1) := by decide +kernel
theorem dX7_takeNumber_12 : decode cX7_takeNumber 12 = .ok (.getfield 216, 3) := by decide +kernel
theorem dX7_takeNumber_15 : decode cX7_takeNumber 15 = .ok (.iaload, 1) := by decide +kernel
theorem dX7_takeNumber_16 : decode cX7_takeNumber 16 = .ok (.iconst 2, 1) := by decide +kernel
theorem dX7_takeNumber_17 : decode cX7_takeNumber 17 = .ok (.if_icmp .eq 11, 3) := by decide +kernel
theorem dX7_takeNumber_20 : decode cX7_takeNumber 20 = .ok (.aload_n 0, 1) := by decide +kernel
theorem dX7_takeNumber_21 : decode cX7_takeNumber 21 = .ok (.iconst 1, 1) := by decide +kernel
theorem dX7_takeNumber_22 : decode cX7_takeNumber 22 = .ok (.invokevirtual 225, 3) := by decide +kernel
theorem dX7_takeNumber_25 : decode cX7_takeNumber 25 = .ok (.goto 45, 3) := by decide +kernel
theorem dX7_takeNumber_28 : decode cX7_takeNumber 28 = .ok (.aload_n 0, 1) := by decide +kernel
theorem dX7_takeNumber_29 : decode cX7_takeNumber 29 = .ok (.getfield 219, 3) := by decide +kernel
theorem dX7_takeNumber_32 : decode cX7_takeNumber 32 = .ok (.ifCond .ne 38, 3) := by decide +kernel
theorem dX7_takeNumber_35 : decode cX7_takeNumber 35 = .ok (.aload_n 0, 1) := by decide +kernel
theorem dX7_takeNumber_36 : decode cX7_takeNumber 36 = .ok (.getfield 30, 3) := by decide +kernel
theorem dX7_takeNumber_39 : decode cX7_takeNumber 39 = .ok (.aload_n 0, 1) := by decide +kernel
theorem dX7_takeNumber_40 : decode cX7_takeNumber 40 = .ok (.getfield 216, 3) := by decide +kernel
theorem dX7_takeNumber_43 : decode cX7_takeNumber 43 = .ok (.laload, 1) := by decide +kernel
theorem dX7_takeNumber_44 : decode cX7_takeNumber 44 = .ok (.iload_n 1, 1) := by decide +kernel
theorem dX7_takeNumber_45 : decode cX7_takeNumber 45 = .ok (.i2l, 1) := by decide +kernel
theorem dX7_takeNumber_46 : decode cX7_takeNumber 46 = .ok (.lcmp, 1) := by decide +kernel
theorem dX7_takeNumber_47 : decode cX7_takeNumber 47 = .ok (.ifCond .lt 18, 3) := by decide +kernel
theorem dX7_takeNumber_50 : decode cX7_takeNumber 50 = .ok (.aload_n 0, 1) := by decide +kernel
theorem dX7_takeNumber_51 : decode cX7_takeNumber 51 = .ok (.getfield 30, 3) := by decide +kernel
theorem dX7_takeNumber_54 : decode cX7_takeNumber 54 = .ok (.aload_n 0, 1) := by decide +kernel
theorem dX7_takeNumber_55 : decode cX7_takeNumber 55 = .ok (.getfield 216, 3) := by decide +kernel
theorem dX7_takeNumber_58 : decode cX7_takeNumber 58 = .ok (.laload, 1) := by decide +kernel
theorem dX7_takeNumber_59 : decode cX7_takeNumber 59 = .ok (.iload_n 2, 1) := by decide +kernel
theorem dX7_takeNumber_60 : decode cX7_takeNumber 60 = .ok (.i2l, 1) := by decide +kernel
theorem dX7_takeNumber_61 : decode cX7_takeNumber 61 = .ok (.lcmp, 1) := by decide +kernel
theorem dX7_takeNumber_62 : decode cX7_takeNumber 62 = .ok (.ifCond .le 8, 3) := by decide +kernel
theorem dX7_takeNumber_65 : decode cX7_takeNumber 65 = .ok (.aload_n 0, 1) := by decide +kernel
theorem dX7_takeNumber_66 : decode cX7_takeNumber 66 = .ok (.iconst 4, 1) := by decide +kernel
theorem dX7_takeNumber_67 : decode cX7_takeNumber 67 = .ok (.invokevirtual 225, 3) := by decide +kernel
theorem dX7_takeNumber_70 : decode cX7_takeNumber 70 = .ok (.aload_n 0, 1) := by decide +kernel
theorem dX7_takeNumber_71 : decode cX7_takeNumber 71 = .ok (.getfield 219, 3) := by decide +kernel
theorem dX7_takeNumber_74 : decode cX7_takeNumber 74 = .ok (.ifCond .le 5, 3) := by decide +kernel
theorem dX7_takeNumber_77 : decode cX7_takeNumber 77 = .ok (.iconst 0, 1) := by decide +kernel
theorem dX7_takeNumber_78 : decode cX7_takeNumber 78 = .ok (.ireturn, 1) := by decide +kernel
theorem dX7_takeNumber_79 : decode cX7_takeNumber 79 = .ok (.aload_n 0, 1) := by decide +kernel
theorem dX7_takeNumber_80 : decode cX7_takeNumber 80 = .ok (.dup, 1) := by decide +kernel
theorem dX7_takeNumber_81 : decode cX7_takeNumber 81 = .ok (.getfield 216, 3) := by decide +kernel
theorem dX7_takeNumber_84 : decode cX7_takeNumber 84 = .ok (.iconst 1, 1) := by decide +kernel
theorem dX7_takeNumber_85 : decode cX7_takeNumber 85 = .ok (.iadd, 1) := by decide +kernel
theorem dX7_takeNumber_86 : decode cX7_takeNumber 86 = .ok (.putfield 216, 3) := by decide +kernel
theorem dX7_takeNumber_89 : decode cX7_takeNumber 89 = .ok (.aload_n 0, 1) := by decide +kernel
theorem dX7_takeNumber_90 : decode cX7_takeNumber 90 = .ok (.getfield 30, 3) := by decide +kernel
theorem dX7_takeNumber_93 : decode cX7_takeNumber 93 = .ok (.aload_n 0, 1) := by decide +kernel
theorem dX7_takeNumber_94 : decode cX7_takeNumber 94 = .ok (.getfield 216, 3) := by decide +kernel
theorem dX7_takeNumber_97 : decode cX7_takeNumber 97 = .ok (.iconst 1, 1) := by decide +kernel
theorem dX7_takeNumber_98 : decode cX7_takeNumber 98 = .ok (.isub, 1) := by decide +kernel
theorem dX7_takeNumber_99 : decode cX7_takeNumber 99 = .ok (.laload, 1) := by decide +kernel
theorem dX7_takeNumber_100 : decode cX7_takeNumber 100 = .ok (.l2i, 1) := by decide +kernel
theorem dX7_takeNumber_101 : decode cX7_takeNumber 101 = .ok (.ireturn, 1) := by decide +kernel
theorem dX7_leastOf_0 : decode cX7_leastOf 0 = .ok (.iload_n 0, 1) := by decide +kernel
theorem dX7_leastOf_1 : decode cX7_leastOf 1 = .ok (.iconst 3, 1) := by decide +kernel
theorem dX7_leastOf_2 : decode cX7_leastOf 2 = .ok (.if_icmp .eq 9, 3) := by decide +kernel
theorem dX7_leastOf_5 : decode cX7_leastOf 5 = .ok (.iload_n 0, 1) := by decide +kernel
theorem dX7_leastOf_6 : decode cX7_leastOf 6 = .ok (.bipush 6, 2) := by decide +kernel
theorem dX7_leastOf_8 : decode cX7_leastOf 8 = .ok (.if_icmp .ne 7, 3) := by decide +kernel
theorem dX7_leastOf_11 : decode cX7_leastOf 11 = .ok (.iconst 1, 1) := by decide +kernel
theorem dX7_leastOf_12 : decode cX7_leastOf 12 = .ok (.goto 4, 3) := by decide +kernel
theorem dX7_leastOf_15 : decode cX7_leastOf 15 = .ok (.iconst 0, 1) := by decide +kernel
theorem dX7_leastOf_16 : decode cX7_leastOf 16 = .ok (.ireturn, 1) := by decide +kernel
theorem dX7_mostOf_0 : decode cX7_mostOf 0 = .ok (.iload_n 0, 1) := by decide +kernel
theorem dX7_mostOf_1 : decode cX7_mostOf 1 = .ok (.iconst 3, 1) := by decide +kernel
theorem dX7_mostOf_2 : decode cX7_mostOf 2 = .ok (.if_icmp .ne 8, 3) := by decide +kernel
theorem dX7_mostOf_5 : decode cX7_mostOf 5 = .ok (.ldc 252, 2) := by decide +kernel
theorem dX7_mostOf_7 : decode cX7_mostOf 7 = .ok (.goto 26, 3) := by decide +kernel
theorem dX7_mostOf_10 : decode cX7_mostOf 10 = .ok (.iload_n 0, 1) := by decide +kernel
theorem dX7_mostOf_11 : decode cX7_mostOf 11 = .ok (.bipush 6, 2) := by decide +kernel
theorem dX7_mostOf_13 : decode cX7_mostOf 13 = .ok (.if_icmp .ne 8, 3) := by decide +kernel
theorem dX7_mostOf_16 : decode cX7_mostOf 16 = .ok (.bipush 99, 2) := by decide +kernel
theorem dX7_mostOf_18 : decode cX7_mostOf 18 = .ok (.goto 15, 3) := by decide +kernel
theorem dX7_mostOf_21 : decode cX7_mostOf 21 = .ok (.iload_n 0, 1) := by decide +kernel
theorem dX7_mostOf_22 : decode cX7_mostOf 22 = .ok (.bipush 7, 2) := by decide +kernel
theorem dX7_mostOf_24 : decode cX7_mostOf 24 = .ok (.if_icmp .ne 7, 3) := by decide +kernel
theorem dX7_mostOf_27 : decode cX7_mostOf 27 = .ok (.iconst 4, 1) := by decide +kernel
theorem dX7_mostOf_28 : decode cX7_mostOf 28 = .ok (.goto 5, 3) := by decide +kernel
theorem dX7_mostOf_31 : decode cX7_mostOf 31 = .ok (.bipush 100, 2) := by decide +kernel
theorem dX7_mostOf_33 : decode cX7_mostOf 33 = .ok (.ireturn, 1) := by decide +kernel
theorem dX7_readLaw_0 : decode cX7_readLaw 0 = .ok (.iconst (-1), 1) := by decide +kernel
theorem dX7_readLaw_1 : decode cX7_readLaw 1 = .ok (.istore_n 1, 1) := by decide +kernel
theorem dX7_readLaw_2 : decode cX7_readLaw 2 = .ok (.iconst 0, 1) := by decide +kernel
theorem dX7_readLaw_3 : decode cX7_readLaw 3 = .ok (.istore_n 2, 1) := by decide +kernel
theorem dX7_readLaw_4 : decode cX7_readLaw 4 = .ok (.iload_n 2, 1) := by decide +kernel
theorem dX7_readLaw_5 : decode cX7_readLaw 5 = .ok (.bipush 9, 2) := by decide +kernel
theorem dX7_readLaw_7 : decode cX7_readLaw 7 = .ok (.if_icmp .ge 23, 3) := by decide +kernel
theorem dX7_readLaw_10 : decode cX7_readLaw 10 = .ok (.aload_n 0, 1) := by decide +kernel
theorem dX7_readLaw_11 : decode cX7_readLaw 11 = .ok (.iload_n 2, 1) := by decide +kernel
theorem dX7_readLaw_12 : decode cX7_readLaw 12 = .ok (.invokevirtual 228, 3) := by decide +kernel
theorem dX7_readLaw_15 : decode cX7_readLaw 15 = .ok (.ifCond .eq 7, 3) := by decide +kernel
theorem dX7_readLaw_18 : decode cX7_readLaw 18 = .ok (.iload_n 2, 1) := by decide +kernel
theorem dX7_readLaw_19 : decode cX7_readLaw 19 = .ok (.goto 4, 3) := by decide +kernel
theorem dX7_readLaw_22 : decode cX7_readLaw 22 = .ok (.iload_n 1, 1) := by decide +kernel
theorem dX7_readLaw_23 : decode cX7_readLaw 23 = .ok (.istore_n 1, 1) := by decide +kernel
theorem dX7_readLaw_24 : decode cX7_readLaw 24 = .ok (.iinc 2 1, 3) := by decide +kernel
theorem dX7_readLaw_27 : decode cX7_readLaw 27 = .ok (.goto (-23), 3) := by decide +kernel
theorem dX7_readLaw_30 : decode cX7_readLaw 30 = .ok (.iload_n 1, 1) := by decide +kernel
theorem dX7_readLaw_31 : decode cX7_readLaw 31 = .ok (.ifCond .ge 11, 3) := by decide +kernel
theorem dX7_readLaw_34 : decode cX7_readLaw 34 = .ok (.aload_n 0, 1) := by decide +kernel
theorem dX7_readLaw_35 : decode cX7_readLaw 35 = .ok (.iconst 1, 1) := by decide +kernel
theorem dX7_readLaw_36 : decode cX7_readLaw 36 = .ok (.invokevirtual 225, 3) := by decide +kernel
theorem dX7_readLaw_39 : decode cX7_readLaw 39 = .ok (.goto 22, 3) := by decide +kernel
theorem dX7_readLaw_42 : decode cX7_readLaw 42 = .ok (.aload_n 0, 1) := by decide +kernel
theorem dX7_readLaw_43 : decode cX7_readLaw 43 = .ok (.getfield 83, 3) := by decide +kernel
theorem dX7_readLaw_46 : decode cX7_readLaw 46 = .ok (.aload_n 0, 1) := by decide +kernel
theorem dX7_readLaw_47 : decode cX7_readLaw 47 = .ok (.getfield 234, 3) := by decide +kernel
theorem dX7_readLaw_50 : decode cX7_readLaw 50 = .ok (.iaload, 1) := by decide +kernel
theorem dX7_readLaw_51 : decode cX7_readLaw 51 = .ok (.bipush 24, 2) := by decide +kernel
theorem dX7_readLaw_53 : decode cX7_readLaw 53 = .ok (.if_icmp .ne 8, 3) := by decide +kernel
theorem dX7_readLaw_56 : decode cX7_readLaw 56 = .ok (.aload_n 0, 1) := by decide +kernel
theorem dX7_readLaw_57 : decode cX7_readLaw 57 = .ok (.iconst 5, 1) := by decide +kernel
theorem dX7_readLaw_58 : decode cX7_readLaw 58 = .ok (.invokevirtual 225, 3) := by decide +kernel
theorem dX7_readLaw_61 : decode cX7_readLaw 61 = .ok (.aload_n 0, 1) := by decide +kernel
theorem dX7_readLaw_62 : decode cX7_readLaw 62 = .ok (.getfield 219, 3) := by decide +kernel
theorem dX7_readLaw_65 : decode cX7_readLaw 65 = .ok (.ifCond .le 4, 3) := by decide +kernel
theorem dX7_readLaw_68 : decode cX7_readLaw 68 = .ok (.return_, 1) := by decide +kernel
theorem dX7_readLaw_69 : decode cX7_readLaw 69 = .ok (.bipush 24, 2) := by decide +kernel
theorem dX7_readLaw_71 : decode cX7_readLaw 71 = .ok (.aload_n 0, 1) := by decide +kernel
theorem dX7_readLaw_72 : decode cX7_readLaw 72 = .ok (.getfield 234, 3) := by decide +kernel
theorem dX7_readLaw_75 : decode cX7_readLaw 75 = .ok (.imul, 1) := by decide +kernel
theorem dX7_readLaw_76 : decode cX7_readLaw 76 = .ok (.aload_n 0, 1) := by decide +kernel
theorem dX7_readLaw_77 : decode cX7_readLaw 77 = .ok (.getfield 83, 3) := by decide +kernel
theorem dX7_readLaw_80 : decode cX7_readLaw 80 = .ok (.aload_n 0, 1) := by decide +kernel
theorem dX7_readLaw_81 : decode cX7_readLaw 81 = .ok (.getfield 234, 3) := by decide +kernel
theorem dX7_readLaw_84 : decode cX7_readLaw 84 = .ok (.iaload, 1) := by decide +kernel
theorem dX7_readLaw_85 : decode cX7_readLaw 85 = .ok (.iadd, 1) := by decide +kernel
theorem dX7_readLaw_86 : decode cX7_readLaw 86 = .ok (.istore_n 2, 1) := by decide +kernel
theorem dX7_readLaw_87 : decode cX7_readLaw 87 = .ok (.aload_n 0, 1) := by decide +kernel
theorem dX7_readLaw_88 : decode cX7_readLaw 88 = .ok (.dup, 1) := by decide +kernel
theorem dX7_readLaw_89 : decode cX7_readLaw 89 = .ok (.getfield 216, 3) := by decide +kernel
theorem dX7_readLaw_92 : decode cX7_readLaw 92 = .ok (.iconst 1, 1) := by decide +kernel
theorem dX7_readLaw_93 : decode cX7_readLaw 93 = .ok (.iadd, 1) := by decide +kernel
theorem dX7_readLaw_94 : decode cX7_readLaw 94 = .ok (.putfield 216, 3) := by decide +kernel
theorem dX7_readLaw_97 : decode cX7_readLaw 97 = .ok (.aload_n 0, 1) := by decide +kernel
theorem dX7_readLaw_98 : decode cX7_readLaw 98 = .ok (.getfield 86, 3) := by decide +kernel
theorem dX7_readLaw_101 : decode cX7_readLaw 101 = .ok (.iload_n 2, 1) := by decide +kernel
theorem dX7_readLaw_102 : decode cX7_readLaw 102 = .ok (.iload_n 1, 1) := by decide +kernel
theorem dX7_readLaw_103 : decode cX7_readLaw 103 = .ok (.iastore, 1) := by decide +kernel
theorem dX7_readLaw_104 : decode cX7_readLaw 104 = .ok (.aload_n 0, 1) := by decide +kernel
theorem dX7_readLaw_105 : decode cX7_readLaw 105 = .ok (.getfield 89, 3) := by decide +kernel
theorem dX7_readLaw_108 : decode cX7_readLaw 108 = .ok (.iload_n 2, 1) := by decide +kernel
theorem dX7_readLaw_109 : decode cX7_readLaw 109 = .ok (.aload_n 0, 1) := by decide +kernel
theorem dX7_readLaw_110 : decode cX7_readLaw 110 = .ok (.iload_n 1, 1) := by decide +kernel
theorem dX7_readLaw_111 : decode cX7_readLaw 111 = .ok (.invokestatic 253, 3) := by decide +kernel
theorem dX7_readLaw_114 : decode cX7_readLaw 114 = .ok (.iload_n 1, 1) := by decide +kernel
theorem dX7_readLaw_115 : decode cX7_readLaw 115 = .ok (.invokestatic 256, 3) := by decide +kernel
theorem dX7_readLaw_118 : decode cX7_readLaw 118 = .ok (.invokevirtual 259, 3) := by decide +kernel
theorem dX7_readLaw_121 : decode cX7_readLaw 121 = .ok (.iastore, 1) := by decide +kernel
theorem dX7_readLaw_122 : decode cX7_readLaw 122 = .ok (.aload_n 0, 1) := by decide +kernel
theorem dX7_readLaw_123 : decode cX7_readLaw 123 = .ok (.getfield 92, 3) := by decide +kernel
theorem dX7_readLaw_126 : decode cX7_readLaw 126 = .ok (.iload_n 2, 1) := by decide +kernel
theorem dX7_readLaw_127 : decode cX7_readLaw 127 = .ok (.aload_n 0, 1) := by decide +kernel
theorem dX7_readLaw_128 : decode cX7_readLaw 128 = .ok (.getfield 89, 3) := by decide +kernel
theorem dX7_readLaw_131 : decode cX7_readLaw 131 = .ok (.iload_n 2, 1) := by decide +kernel
theorem dX7_readLaw_132 : decode cX7_readLaw 132 = .ok (.iaload, 1) := by decide +kernel
theorem dX7_readLaw_133 : decode cX7_readLaw 133 = .ok (.iastore, 1) := by decide +kernel
theorem dX7_readLaw_134 : decode cX7_readLaw 134 = .ok (.aload_n 0, 1) := by decide +kernel
theorem dX7_readLaw_135 : decode cX7_readLaw 135 = .ok (.getfield 95, 3) := by decide +kernel
theorem dX7_readLaw_138 : decode cX7_readLaw 138 = .ok (.iload_n 2, 1) := by decide +kernel
theorem dX7_readLaw_139 : decode cX7_readLaw 139 = .ok (.iconst (-1), 1) := by decide +kernel
theorem dX7_readLaw_140 : decode cX7_readLaw 140 = .ok (.iastore, 1) := by decide +kernel
theorem dX7_readLaw_141 : decode cX7_readLaw 141 = .ok (.aload_n 0, 1) := by decide +kernel
theorem dX7_readLaw_142 : decode cX7_readLaw 142 = .ok (.bipush 9, 2) := by decide +kernel
theorem dX7_readLaw_144 : decode cX7_readLaw 144 = .ok (.invokevirtual 231, 3) := by decide +kernel
theorem dX7_readLaw_147 : decode cX7_readLaw 147 = .ok (.ifCond .eq 110, 3) := by decide +kernel
theorem dX7_readLaw_150 : decode cX7_readLaw 150 = .ok (.aload_n 0, 1) := by decide +kernel
theorem dX7_readLaw_151 : decode cX7_readLaw 151 = .ok (.getfield 216, 3) := by decide +kernel
theorem dX7_readLaw_154 : decode cX7_readLaw 154 = .ok (.istore_n 3, 1) := by decide +kernel
theorem dX7_readLaw_155 : decode cX7_readLaw 155 = .ok (.aload_n 0, 1) := by decide +kernel
theorem dX7_readLaw_156 : decode cX7_readLaw 156 = .ok (.getfield 92, 3) := by decide +kernel
theorem dX7_readLaw_159 : decode cX7_readLaw 159 = .ok (.iload_n 2, 1) := by decide +kernel
theorem dX7_readLaw_160 : decode cX7_readLaw 160 = .ok (.aload_n 0, 1) := by decide +kernel
theorem dX7_readLaw_161 : decode cX7_readLaw 161 = .ok (.aload_n 0, 1) := by decide +kernel
theorem dX7_readLaw_162 : decode cX7_readLaw 162 = .ok (.getfield 89, 3) := by decide +kernel
theorem dX7_readLaw_165 : decode cX7_readLaw 165 = .ok (.iload_n 2, 1) := by decide +kernel
theorem dX7_readLaw_166 : decode cX7_readLaw 166 = .ok (.iaload, 1) := by decide +kernel
theorem dX7_readLaw_167 : decode cX7_readLaw 167 = .ok (.iload_n 1, 1) := by decide +kernel
theorem dX7_readLaw_168 : decode cX7_readLaw 168 = .ok (.invokestatic 256, 3) := by decide +kernel
theorem dX7_readLaw_171 : decode cX7_readLaw 171 = .ok (.invokevirtual 259, 3) := by decide +kernel
theorem dX7_readLaw_174 : decode cX7_readLaw 174 = .ok (.iastore, 1) := by decide +kernel
theorem dX7_readLaw_175 : decode cX7_readLaw 175 = .ok (.aload_n 0, 1) := by decide +kernel
theorem dX7_readLaw_176 : decode cX7_readLaw 176 = .ok (.getfield 219, 3) := by decide +kernel
theorem dX7_readLaw_179 : decode cX7_readLaw 179 = .ok (.ifCond .ne 78, 3) := by decide +kernel
theorem dX7_readLaw_182 : decode cX7_readLaw 182 = .ok (.aload_n 0, 1) := by decide +kernel
theorem dX7_readLaw_183 : decode cX7_readLaw 183 = .ok (.getfield 92, 3) := by decide +kernel
theorem dX7_readLaw_186 : decode cX7_readLaw 186 = .ok (.iload_n 2, 1) := by decide +kernel
theorem dX7_readLaw_187 : decode cX7_readLaw 187 = .ok (.iaload, 1) := by decide +kernel
theorem dX7_readLaw_188 : decode cX7_readLaw 188 = .ok (.aload_n 0, 1) := by decide +kernel
theorem dX7_readLaw_189 : decode cX7_readLaw 189 = .ok (.getfield 89, 3) := by decide +kernel
theorem dX7_readLaw_192 : decode cX7_readLaw 192 = .ok (.iload_n 2, 1) := by decide +kernel
theorem dX7_readLaw_193 : decode cX7_readLaw 193 = .ok (.iaload, 1) := by decide +kernel
theorem dX7_readLaw_194 : decode cX7_readLaw 194 = .ok (.if_icmp .le 63, 3) := by decide +kernel
theorem dX7_readLaw_197 : decode cX7_readLaw 197 = .ok (.aload_n 0, 1) := by decide +kernel
theorem dX7_readLaw_198 : decode cX7_readLaw 198 = .ok (.getfield 95, 3) := by decide +kernel
theorem dX7_readLaw_201 : decode cX7_readLaw 201 = .ok (.iload_n 2, 1) := by decide +kernel
theorem dX7_readLaw_202 : decode cX7_readLaw 202 = .ok (.aload_n 0, 1) := by decide +kernel
theorem dX7_readLaw_203 : decode cX7_readLaw 203 = .ok (.getfield 101, 3) := by decide +kernel
theorem dX7_readLaw_206 : decode cX7_readLaw 206 = .ok (.aload_n 0, 1) := by decide +kernel
theorem dX7_readLaw_207 : decode cX7_readLaw 207 = .ok (.getfield 234, 3) := by decide +kernel
theorem dX7_readLaw_210 : decode cX7_readLaw 210 = .ok (.iaload, 1) := by decide +kernel
theorem dX7_readLaw_211 : decode cX7_readLaw 211 = .ok (.iastore, 1) := by decide +kernel
theorem dX7_readLaw_212 : decode cX7_readLaw 212 = .ok (.aload_n 0, 1) := by decide +kernel
theorem dX7_readLaw_213 : decode cX7_readLaw 213 = .ok (.aload_n 0, 1) := by decide +kernel
theorem dX7_readLaw_214 : decode cX7_readLaw 214 = .ok (.getfield 101, 3) := by decide +kernel
theorem dX7_readLaw_217 : decode cX7_readLaw 217 = .ok (.aload_n 0, 1) := by decide +kernel
theorem dX7_readLaw_218 : decode cX7_readLaw 218 = .ok (.getfield 234, 3) := by decide +kernel
theorem dX7_readLaw_221 : decode cX7_readLaw 221 = .ok (.iaload, 1) := by decide +kernel
theorem dX7_readLaw_222 : decode cX7_readLaw 222 = .ok (.iconst 4, 1) := by decide +kernel
theorem dX7_readLaw_223 : decode cX7_readLaw 223 = .ok (.if_icmp .ne 17, 3) := by decide +kernel
theorem dX7_readLaw_226 : decode cX7_readLaw 226 = .ok (.iconst 5, 1) := by decide +kernel
theorem dX7_readLaw_227 : decode cX7_readLaw 227 = .ok (.bipush 16, 2) := by decide +kernel
theorem dX7_readLaw_229 : decode cX7_readLaw 229 = .ok (.aload_n 0, 1) := by decide +kernel
theorem dX7_readLaw_230 : decode cX7_readLaw 230 = .ok (.getfield 27, 3) := by decide +kernel
theorem dX7_readLaw_233 : decode cX7_readLaw 233 = .ok (.iload_n 3, 1) := by decide +kernel
theorem dX7_readLaw_234 : decode cX7_readLaw 234 = .ok (.iaload, 1) := by decide +kernel
theorem dX7_readLaw_235 : decode cX7_readLaw 235 = .ok (.imul, 1) := by decide +kernel
theorem dX7_readLaw_236 : decode cX7_readLaw 236 = .ok (.iadd, 1) := by decide +kernel
theorem dX7_readLaw_237 : decode cX7_readLaw 237 = .ok (.goto 4, 3) := by decide +kernel
theorem dX7_readLaw_240 : decode cX7_readLaw 240 = .ok (.iconst 0, 1) := by decide +kernel
theorem dX7_readLaw_241 : decode cX7_readLaw 241 = .ok (.putfield 219, 3) := by decide +kernel
theorem dX7_readLaw_244 : decode cX7_readLaw 244 = .ok (.aload_n 0, 1) := by decide +kernel
theorem dX7_readLaw_245 : decode cX7_readLaw 245 = .ok (.getfield 101, 3) := by decide +kernel
theorem dX7_readLaw_248 : decode cX7_readLaw 248 = .ok (.aload_n 0, 1) := by decide +kernel
theorem dX7_readLaw_249 : decode cX7_readLaw 249 = .ok (.getfield 234, 3) := by decide +kernel
theorem dX7_readLaw_252 : decode cX7_readLaw 252 = .ok (.dup2, 1) := by decide +kernel
theorem dX7_readLaw_253 : decode cX7_readLaw 253 = .ok (.iaload, 1) := by decide +kernel
theorem dX7_readLaw_254 : decode cX7_readLaw 254 = .ok (.iconst 1, 1) := by decide +kernel
theorem dX7_readLaw_255 : decode cX7_readLaw 255 = .ok (.iadd, 1) := by decide +kernel
theorem dX7_readLaw_256 : decode cX7_readLaw 256 = .ok (.iastore, 1) := by decide +kernel
theorem dX7_readLaw_257 : decode cX7_readLaw 257 = .ok (.aload_n 0, 1) := by decide +kernel
theorem dX7_readLaw_258 : decode cX7_readLaw 258 = .ok (.bipush 10, 2) := by decide +kernel
theorem dX7_readLaw_260 : decode cX7_readLaw 260 = .ok (.invokevirtual 263, 3) := by decide +kernel
theorem dX7_readLaw_263 : decode cX7_readLaw 263 = .ok (.aload_n 0, 1) := by decide +kernel
theorem dX7_readLaw_264 : decode cX7_readLaw 264 = .ok (.getfield 98, 3) := by decide +kernel
theorem dX7_readLaw_267 : decode cX7_readLaw 267 = .ok (.iload_n 2, 1) := by decide +kernel
theorem dX7_readLaw_268 : decode cX7_readLaw 268 = .ok (.sipush 1100, 3) := by decide +kernel
theorem dX7_readLaw_271 : decode cX7_readLaw 271 = .ok (.aload_n 0, 1) := by decide +kernel
theorem dX7_readLaw_272 : decode cX7_readLaw 272 = .ok (.getfield 234, 3) := by decide +kernel
theorem dX7_readLaw_275 : decode cX7_readLaw 275 = .ok (.imul, 1) := by decide +kernel
theorem dX7_readLaw_276 : decode cX7_readLaw 276 = .ok (.aload_n 0, 1) := by decide +kernel
theorem dX7_readLaw_277 : decode cX7_readLaw 277 = .ok (.getfield 237, 3) := by decide +kernel
theorem dX7_readLaw_280 : decode cX7_readLaw 280 = .ok (.iadd, 1) := by decide +kernel
theorem dX7_readLaw_281 : decode cX7_readLaw 281 = .ok (.iastore, 1) := by decide +kernel
theorem dX7_readLaw_282 : decode cX7_readLaw 282 = .ok (.aload_n 0, 1) := by decide +kernel
theorem dX7_readLaw_283 : decode cX7_readLaw 283 = .ok (.iconst 0, 1) := by decide +kernel
theorem dX7_readLaw_284 : decode cX7_readLaw 284 = .ok (.invokevirtual 266, 3) := by decide +kernel
theorem dX7_readLaw_287 : decode cX7_readLaw 287 = .ok (.aload_n 0, 1) := by decide +kernel
theorem dX7_readLaw_288 : decode cX7_readLaw 288 = .ok (.iconst 0, 1) := by decide +kernel
theorem dX7_readLaw_289 : decode cX7_readLaw 289 = .ok (.iconst 0, 1) := by decide +kernel
theorem dX7_readLaw_290 : decode cX7_readLaw 290 = .ok (.invokevirtual 269, 3) := by decide +kernel
theorem dX7_readLaw_293 : decode cX7_readLaw 293 = .ok (.aload_n 0, 1) := by decide +kernel
theorem dX7_readLaw_294 : decode cX7_readLaw 294 = .ok (.getfield 83, 3) := by decide +kernel
theorem dX7_readLaw_297 : decode cX7_readLaw 297 = .ok (.aload_n 0, 1) := by decide +kernel
theorem dX7_readLaw_298 : decode cX7_readLaw 298 = .ok (.getfield 234, 3) := by decide +kernel
theorem dX7_readLaw_301 : decode cX7_readLaw 301 = .ok (.dup2, 1) := by decide +kernel
theorem dX7_readLaw_302 : decode cX7_readLaw 302 = .ok (.iaload, 1) := by decide +kernel
theorem dX7_readLaw_303 : decode cX7_readLaw 303 = .ok (.iconst 1, 1) := by decide +kernel
theorem dX7_readLaw_304 : decode cX7_readLaw 304 = .ok (.iadd, 1) := by decide +kernel
theorem dX7_readLaw_305 : decode cX7_readLaw 305 = .ok (.iastore, 1) := by decide +kernel
theorem dX7_readLaw_306 : decode cX7_readLaw 306 = .ok (.aload_n 0, 1) := by decide +kernel
theorem dX7_readLaw_307 : decode cX7_readLaw 307 = .ok (.bipush 59, 2) := by decide +kernel
theorem dX7_readLaw_309 : decode cX7_readLaw 309 = .ok (.invokevirtual 273, 3) := by decide +kernel
theorem dX7_readLaw_312 : decode cX7_readLaw 312 = .ok (.return_, 1) := by decide +kernel
theorem dX7_all_0 : decode cX7_all 0 = .ok (.aload_n 0, 1) := by decide +kernel
theorem dX7_all_1 : decode cX7_all 1 = .ok (.iload_n 1, 1) := by decide +kernel
theorem dX7_all_2 : decode cX7_all 2 = .ok (.invokevirtual 276, 3) := by decide +kernel
theorem dX7_all_5 : decode cX7_all 5 = .ok (.aload_n 0, 1) := by decide +kernel
theorem dX7_all_6 : decode cX7_all 6 = .ok (.bipush 11, 2) := by decide +kernel
end
section
theorem dX7_all_8 : decode cX7_all 8 = .ok (.invokevirtual 228, 3) := by decide +kernel
theorem dX7_all_11 : decode cX7_all 11 = .ok (.ifCond .ne 12, 3) := by decide +kernel
theorem dX7_all_14 : decode cX7_all 14 = .ok (.aload_n 0, 1) := by decide +kernel
theorem dX7_all_15 : decode cX7_all 15 = .ok (.bipush 12, 2) := by decide +kernel
theorem dX7_all_17 : decode cX7_all 17 = .ok (.invokevirtual 228, 3) := by decide +kernel
theorem dX7_all_20 : decode cX7_all 20 = .ok (.ifCond .eq 44, 3) := by decide +kernel
theorem dX7_all_23 : decode cX7_all 23 = .ok (.aload_n 0, 1) := by decide +kernel
theorem dX7_all_24 : decode cX7_all 24 = .ok (.bipush 11, 2) := by decide +kernel
theorem dX7_all_26 : decode cX7_all 26 = .ok (.invokevirtual 228, 3) := by decide +kernel
theorem dX7_all_29 : decode cX7_all 29 = .ok (.istore_n 2, 1) := by decide +kernel
theorem dX7_all_30 : decode cX7_all 30 = .ok (.aload_n 0, 1) := by decide +kernel
theorem dX7_all_31 : decode cX7_all 31 = .ok (.dup, 1) := by decide +kernel
theorem dX7_all_32 : decode cX7_all 32 = .ok (.getfield 216, 3) := by decide +kernel
theorem dX7_all_35 : decode cX7_all 35 = .ok (.iconst 1, 1) := by decide +kernel
theorem dX7_all_36 : decode cX7_all 36 = .ok (.iadd, 1) := by decide +kernel
theorem dX7_all_37 : decode cX7_all 37 = .ok (.putfield 216, 3) := by decide +kernel
theorem dX7_all_40 : decode cX7_all 40 = .ok (.aload_n 0, 1) := by decide +kernel
theorem dX7_all_41 : decode cX7_all 41 = .ok (.iload_n 1, 1) := by decide +kernel
theorem dX7_all_42 : decode cX7_all 42 = .ok (.invokevirtual 276, 3) := by decide +kernel
theorem dX7_all_45 : decode cX7_all 45 = .ok (.aload_n 0, 1) := by decide +kernel
theorem dX7_all_46 : decode cX7_all 46 = .ok (.iload_n 2, 1) := by decide +kernel
theorem dX7_all_47 : decode cX7_all 47 = .ok (.ifCond .eq 8, 3) := by decide +kernel
theorem dX7_all_50 : decode cX7_all 50 = .ok (.bipush 10, 2) := by decide +kernel
theorem dX7_all_52 : decode cX7_all 52 = .ok (.goto 5, 3) := by decide +kernel
theorem dX7_all_55 : decode cX7_all 55 = .ok (.bipush 11, 2) := by decide +kernel
theorem dX7_all_57 : decode cX7_all 57 = .ok (.iconst 0, 1) := by decide +kernel
theorem dX7_all_58 : decode cX7_all 58 = .ok (.invokevirtual 269, 3) := by decide +kernel
theorem dX7_all_61 : decode cX7_all 61 = .ok (.goto (-56), 3) := by decide +kernel
theorem dX7_all_64 : decode cX7_all 64 = .ok (.return_, 1) := by decide +kernel
theorem dX7_test_0 : decode cX7_test 0 = .ok (.aload_n 0, 1) := by decide +kernel
theorem dX7_test_1 : decode cX7_test 1 = .ok (.iload_n 1, 1) := by decide +kernel
theorem dX7_test_2 : decode cX7_test 2 = .ok (.invokevirtual 279, 3) := by decide +kernel
theorem dX7_test_5 : decode cX7_test 5 = .ok (.aload_n 0, 1) := by decide +kernel
theorem dX7_test_6 : decode cX7_test 6 = .ok (.bipush 60, 2) := by decide +kernel
theorem dX7_test_8 : decode cX7_test 8 = .ok (.invokevirtual 222, 3) := by decide +kernel
theorem dX7_test_11 : decode cX7_test 11 = .ok (.istore_n 2, 1) := by decide +kernel
theorem dX7_test_12 : decode cX7_test 12 = .ok (.aload_n 0, 1) := by decide +kernel
theorem dX7_test_13 : decode cX7_test 13 = .ok (.bipush 60, 2) := by decide +kernel
theorem dX7_test_15 : decode cX7_test 15 = .ok (.invokevirtual 282, 3) := by decide +kernel
theorem dX7_test_18 : decode cX7_test 18 = .ok (.ifCond .ne 12, 3) := by decide +kernel
theorem dX7_test_21 : decode cX7_test 21 = .ok (.aload_n 0, 1) := by decide +kernel
theorem dX7_test_22 : decode cX7_test 22 = .ok (.bipush 61, 2) := by decide +kernel
theorem dX7_test_24 : decode cX7_test 24 = .ok (.invokevirtual 282, 3) := by decide +kernel
theorem dX7_test_27 : decode cX7_test 27 = .ok (.ifCond .eq 24, 3) := by decide +kernel
theorem dX7_test_30 : decode cX7_test 30 = .ok (.aload_n 0, 1) := by decide +kernel
theorem dX7_test_31 : decode cX7_test 31 = .ok (.iload_n 1, 1) := by decide +kernel
theorem dX7_test_32 : decode cX7_test 32 = .ok (.invokevirtual 279, 3) := by decide +kernel
theorem dX7_test_35 : decode cX7_test 35 = .ok (.aload_n 0, 1) := by decide +kernel
theorem dX7_test_36 : decode cX7_test 36 = .ok (.iload_n 2, 1) := by decide +kernel
theorem dX7_test_37 : decode cX7_test 37 = .ok (.ifCond .eq 8, 3) := by decide +kernel
theorem dX7_test_40 : decode cX7_test 40 = .ok (.bipush 8, 2) := by decide +kernel
theorem dX7_test_42 : decode cX7_test 42 = .ok (.goto 5, 3) := by decide +kernel
theorem dX7_test_45 : decode cX7_test 45 = .ok (.bipush 9, 2) := by decide +kernel
theorem dX7_test_47 : decode cX7_test 47 = .ok (.iconst 0, 1) := by decide +kernel
theorem dX7_test_48 : decode cX7_test 48 = .ok (.invokevirtual 269, 3) := by decide +kernel
theorem dX7_test_51 : decode cX7_test 51 = .ok (.return_, 1) := by decide +kernel
theorem dX7_sums_0 : decode cX7_sums 0 = .ok (.aload_n 0, 1) := by decide +kernel
theorem dX7_sums_1 : decode cX7_sums 1 = .ok (.iload_n 1, 1) := by decide +kernel
theorem dX7_sums_2 : decode cX7_sums 2 = .ok (.invokevirtual 285, 3) := by decide +kernel
theorem dX7_sums_5 : decode cX7_sums 5 = .ok (.aload_n 0, 1) := by decide +kernel
theorem dX7_sums_6 : decode cX7_sums 6 = .ok (.bipush 43, 2) := by decide +kernel
theorem dX7_sums_8 : decode cX7_sums 8 = .ok (.invokevirtual 222, 3) := by decide +kernel
theorem dX7_sums_11 : decode cX7_sums 11 = .ok (.ifCond .ne 12, 3) := by decide +kernel
theorem dX7_sums_14 : decode cX7_sums 14 = .ok (.aload_n 0, 1) := by decide +kernel
theorem dX7_sums_15 : decode cX7_sums 15 = .ok (.bipush 45, 2) := by decide +kernel
theorem dX7_sums_17 : decode cX7_sums 17 = .ok (.invokevirtual 222, 3) := by decide +kernel
theorem dX7_sums_20 : decode cX7_sums 20 = .ok (.ifCond .eq 42, 3) := by decide +kernel
theorem dX7_sums_23 : decode cX7_sums 23 = .ok (.aload_n 0, 1) := by decide +kernel
theorem dX7_sums_24 : decode cX7_sums 24 = .ok (.bipush 43, 2) := by decide +kernel
theorem dX7_sums_26 : decode cX7_sums 26 = .ok (.invokevirtual 222, 3) := by decide +kernel
theorem dX7_sums_29 : decode cX7_sums 29 = .ok (.istore_n 2, 1) := by decide +kernel
theorem dX7_sums_30 : decode cX7_sums 30 = .ok (.aload_n 0, 1) := by decide +kernel
theorem dX7_sums_31 : decode cX7_sums 31 = .ok (.dup, 1) := by decide +kernel
theorem dX7_sums_32 : decode cX7_sums 32 = .ok (.getfield 216, 3) := by decide +kernel
theorem dX7_sums_35 : decode cX7_sums 35 = .ok (.iconst 1, 1) := by decide +kernel
theorem dX7_sums_36 : decode cX7_sums 36 = .ok (.iadd, 1) := by decide +kernel
theorem dX7_sums_37 : decode cX7_sums 37 = .ok (.putfield 216, 3) := by decide +kernel
theorem dX7_sums_40 : decode cX7_sums 40 = .ok (.aload_n 0, 1) := by decide +kernel
theorem dX7_sums_41 : decode cX7_sums 41 = .ok (.iload_n 1, 1) := by decide +kernel
theorem dX7_sums_42 : decode cX7_sums 42 = .ok (.invokevirtual 285, 3) := by decide +kernel
theorem dX7_sums_45 : decode cX7_sums 45 = .ok (.aload_n 0, 1) := by decide +kernel
theorem dX7_sums_46 : decode cX7_sums 46 = .ok (.iload_n 2, 1) := by decide +kernel
theorem dX7_sums_47 : decode cX7_sums 47 = .ok (.ifCond .eq 7, 3) := by decide +kernel
theorem dX7_sums_50 : decode cX7_sums 50 = .ok (.iconst 4, 1) := by decide +kernel
theorem dX7_sums_51 : decode cX7_sums 51 = .ok (.goto 4, 3) := by decide +kernel
theorem dX7_sums_54 : decode cX7_sums 54 = .ok (.iconst 5, 1) := by decide +kernel
theorem dX7_sums_55 : decode cX7_sums 55 = .ok (.iconst 0, 1) := by decide +kernel
theorem dX7_sums_56 : decode cX7_sums 56 = .ok (.invokevirtual 269, 3) := by decide +kernel
theorem dX7_sums_59 : decode cX7_sums 59 = .ok (.goto (-54), 3) := by decide +kernel
theorem dX7_sums_62 : decode cX7_sums 62 = .ok (.return_, 1) := by decide +kernel
theorem dX7_products_0 : decode cX7_products 0 = .ok (.aload_n 0, 1) := by decide +kernel
theorem dX7_products_1 : decode cX7_products 1 = .ok (.iload_n 1, 1) := by decide +kernel
theorem dX7_products_2 : decode cX7_products 2 = .ok (.invokevirtual 288, 3) := by decide +kernel
theorem dX7_products_5 : decode cX7_products 5 = .ok (.aload_n 0, 1) := by decide +kernel
theorem dX7_products_6 : decode cX7_products 6 = .ok (.bipush 42, 2) := by decide +kernel
theorem dX7_products_8 : decode cX7_products 8 = .ok (.invokevirtual 222, 3) := by decide +kernel
theorem dX7_products_11 : decode cX7_products 11 = .ok (.ifCond .ne 12, 3) := by decide +kernel
theorem dX7_products_14 : decode cX7_products 14 = .ok (.aload_n 0, 1) := by decide +kernel
theorem dX7_products_15 : decode cX7_products 15 = .ok (.bipush 47, 2) := by decide +kernel
theorem dX7_products_17 : decode cX7_products 17 = .ok (.invokevirtual 222, 3) := by decide +kernel
theorem dX7_products_20 : decode cX7_products 20 = .ok (.ifCond .eq 44, 3) := by decide +kernel
theorem dX7_products_23 : decode cX7_products 23 = .ok (.aload_n 0, 1) := by decide +kernel
theorem dX7_products_24 : decode cX7_products 24 = .ok (.bipush 42, 2) := by decide +kernel
theorem dX7_products_26 : decode cX7_products 26 = .ok (.invokevirtual 222, 3) := by decide +kernel
theorem dX7_products_29 : decode cX7_products 29 = .ok (.istore_n 2, 1) := by decide +kernel
theorem dX7_products_30 : decode cX7_products 30 = .ok (.aload_n 0, 1) := by decide +kernel
theorem dX7_products_31 : decode cX7_products 31 = .ok (.dup, 1) := by decide +kernel
theorem dX7_products_32 : decode cX7_products 32 = .ok (.getfield 216, 3) := by decide +kernel
theorem dX7_products_35 : decode cX7_products 35 = .ok (.iconst 1, 1) := by decide +kernel
theorem dX7_products_36 : decode cX7_products 36 = .ok (.iadd, 1) := by decide +kernel
theorem dX7_products_37 : decode cX7_products 37 = .ok (.putfield 216, 3) := by decide +kernel
theorem dX7_products_40 : decode cX7_products 40 = .ok (.aload_n 0, 1) := by decide +kernel
theorem dX7_products_41 : decode cX7_products 41 = .ok (.iload_n 1, 1) := by decide +kernel
theorem dX7_products_42 : decode cX7_products 42 = .ok (.invokevirtual 288, 3) := by decide +kernel
theorem dX7_products_45 : decode cX7_products 45 = .ok (.aload_n 0, 1) := by decide +kernel
theorem dX7_products_46 : decode cX7_products 46 = .ok (.iload_n 2, 1) := by decide +kernel
theorem dX7_products_47 : decode cX7_products 47 = .ok (.ifCond .eq 8, 3) := by decide +kernel
theorem dX7_products_50 : decode cX7_products 50 = .ok (.bipush 6, 2) := by decide +kernel
theorem dX7_products_52 : decode cX7_products 52 = .ok (.goto 5, 3) := by decide +kernel
theorem dX7_products_55 : decode cX7_products 55 = .ok (.bipush 7, 2) := by decide +kernel
theorem dX7_products_57 : decode cX7_products 57 = .ok (.iconst 0, 1) := by decide +kernel
theorem dX7_products_58 : decode cX7_products 58 = .ok (.invokevirtual 269, 3) := by decide +kernel
theorem dX7_products_61 : decode cX7_products 61 = .ok (.goto (-56), 3) := by decide +kernel
theorem dX7_products_64 : decode cX7_products 64 = .ok (.return_, 1) := by decide +kernel
theorem dX7_takePart_0 : decode cX7_takePart 0 = .ok (.aload_n 0, 1) := by decide +kernel
theorem dX7_takePart_1 : decode cX7_takePart 1 = .ok (.getfield 219, 3) := by decide +kernel
theorem dX7_takePart_4 : decode cX7_takePart 4 = .ok (.ifCond .le 4, 3) := by decide +kernel
theorem dX7_takePart_7 : decode cX7_takePart 7 = .ok (.return_, 1) := by decide +kernel
theorem dX7_takePart_8 : decode cX7_takePart 8 = .ok (.iconst (-1), 1) := by decide +kernel
theorem dX7_takePart_9 : decode cX7_takePart 9 = .ok (.istore_n 2, 1) := by decide +kernel
theorem dX7_takePart_10 : decode cX7_takePart 10 = .ok (.bipush 14, 2) := by decide +kernel
theorem dX7_takePart_12 : decode cX7_takePart 12 = .ok (.istore_n 3, 1) := by decide +kernel
theorem dX7_takePart_13 : decode cX7_takePart 13 = .ok (.iload_n 3, 1) := by decide +kernel
theorem dX7_takePart_14 : decode cX7_takePart 14 = .ok (.bipush 23, 2) := by decide +kernel
theorem dX7_takePart_16 : decode cX7_takePart 16 = .ok (.if_icmp .ge 26, 3) := by decide +kernel
theorem dX7_takePart_19 : decode cX7_takePart 19 = .ok (.aload_n 0, 1) := by decide +kernel
theorem dX7_takePart_20 : decode cX7_takePart 20 = .ok (.iload_n 3, 1) := by decide +kernel
theorem dX7_takePart_21 : decode cX7_takePart 21 = .ok (.invokevirtual 228, 3) := by decide +kernel
theorem dX7_takePart_24 : decode cX7_takePart 24 = .ok (.ifCond .eq 10, 3) := by decide +kernel
theorem dX7_takePart_27 : decode cX7_takePart 27 = .ok (.iload_n 3, 1) := by decide +kernel
theorem dX7_takePart_28 : decode cX7_takePart 28 = .ok (.bipush 14, 2) := by decide +kernel
theorem dX7_takePart_30 : decode cX7_takePart 30 = .ok (.isub, 1) := by decide +kernel
theorem dX7_takePart_31 : decode cX7_takePart 31 = .ok (.goto 4, 3) := by decide +kernel
theorem dX7_takePart_34 : decode cX7_takePart 34 = .ok (.iload_n 2, 1) := by decide +kernel
theorem dX7_takePart_35 : decode cX7_takePart 35 = .ok (.istore_n 2, 1) := by decide +kernel
theorem dX7_takePart_36 : decode cX7_takePart 36 = .ok (.iinc 3 1, 3) := by decide +kernel
theorem dX7_takePart_39 : decode cX7_takePart 39 = .ok (.goto (-26), 3) := by decide +kernel
theorem dX7_takePart_42 : decode cX7_takePart 42 = .ok (.aload_n 0, 1) := by decide +kernel
theorem dX7_takePart_43 : decode cX7_takePart 43 = .ok (.getfield 24, 3) := by decide +kernel
theorem dX7_takePart_46 : decode cX7_takePart 46 = .ok (.aload_n 0, 1) := by decide +kernel
theorem dX7_takePart_47 : decode cX7_takePart 47 = .ok (.getfield 216, 3) := by decide +kernel
theorem dX7_takePart_50 : decode cX7_takePart 50 = .ok (.iaload, 1) := by decide +kernel
theorem dX7_takePart_51 : decode cX7_takePart 51 = .ok (.iconst 2, 1) := by decide +kernel
theorem dX7_takePart_52 : decode cX7_takePart 52 = .ok (.if_icmp .ne 7, 3) := by decide +kernel
theorem dX7_takePart_55 : decode cX7_takePart 55 = .ok (.iconst 1, 1) := by decide +kernel
theorem dX7_takePart_56 : decode cX7_takePart 56 = .ok (.goto 4, 3) := by decide +kernel
theorem dX7_takePart_59 : decode cX7_takePart 59 = .ok (.iconst 0, 1) := by decide +kernel
theorem dX7_takePart_60 : decode cX7_takePart 60 = .ok (.istore_n 3, 1) := by decide +kernel
theorem dX7_takePart_61 : decode cX7_takePart 61 = .ok (.iload_n 2, 1) := by decide +kernel
theorem dX7_takePart_62 : decode cX7_takePart 62 = .ok (.ifCond .ge 33, 3) := by decide +kernel
theorem dX7_takePart_65 : decode cX7_takePart 65 = .ok (.iload_n 3, 1) := by decide +kernel
theorem dX7_takePart_66 : decode cX7_takePart 66 = .ok (.ifCond .ne 29, 3) := by decide +kernel
theorem dX7_takePart_69 : decode cX7_takePart 69 = .ok (.aload_n 0, 1) := by decide +kernel
theorem dX7_takePart_70 : decode cX7_takePart 70 = .ok (.bipush 40, 2) := by decide +kernel
theorem dX7_takePart_72 : decode cX7_takePart 72 = .ok (.invokevirtual 222, 3) := by decide +kernel
theorem dX7_takePart_75 : decode cX7_takePart 75 = .ok (.ifCond .ne 20, 3) := by decide +kernel
theorem dX7_takePart_78 : decode cX7_takePart 78 = .ok (.aload_n 0, 1) := by decide +kernel
theorem dX7_takePart_79 : decode cX7_takePart 79 = .ok (.bipush 13, 2) := by decide +kernel
theorem dX7_takePart_81 : decode cX7_takePart 81 = .ok (.invokevirtual 228, 3) := by decide +kernel
theorem dX7_takePart_84 : decode cX7_takePart 84 = .ok (.ifCond .ne 11, 3) := by decide +kernel
theorem dX7_takePart_87 : decode cX7_takePart 87 = .ok (.aload_n 0, 1) := by decide +kernel
theorem dX7_takePart_88 : decode cX7_takePart 88 = .ok (.iconst 1, 1) := by decide +kernel
theorem dX7_takePart_89 : decode cX7_takePart 89 = .ok (.invokevirtual 225, 3) := by decide +kernel
theorem dX7_takePart_92 : decode cX7_takePart 92 = .ok (.goto 13, 3) := by decide +kernel
theorem dX7_takePart_95 : decode cX7_takePart 95 = .ok (.iload_n 1, 1) := by decide +kernel
theorem dX7_takePart_96 : decode cX7_takePart 96 = .ok (.iconst 4, 1) := by decide +kernel
theorem dX7_takePart_97 : decode cX7_takePart 97 = .ok (.if_icmp .ne 8, 3) := by decide +kernel
theorem dX7_takePart_100 : decode cX7_takePart 100 = .ok (.aload_n 0, 1) := by decide +kernel
theorem dX7_takePart_101 : decode cX7_takePart 101 = .ok (.iconst 5, 1) := by decide +kernel
theorem dX7_takePart_102 : decode cX7_takePart 102 = .ok (.invokevirtual 225, 3) := by decide +kernel
theorem dX7_takePart_105 : decode cX7_takePart 105 = .ok (.aload_n 0, 1) := by decide +kernel
theorem dX7_takePart_106 : decode cX7_takePart 106 = .ok (.getfield 219, 3) := by decide +kernel
theorem dX7_takePart_109 : decode cX7_takePart 109 = .ok (.ifCond .le 4, 3) := by decide +kernel
theorem dX7_takePart_112 : decode cX7_takePart 112 = .ok (.return_, 1) := by decide +kernel
theorem dX7_takePart_113 : decode cX7_takePart 113 = .ok (.aload_n 0, 1) := by decide +kernel
theorem dX7_takePart_114 : decode cX7_takePart 114 = .ok (.bipush 13, 2) := by decide +kernel
theorem dX7_takePart_116 : decode cX7_takePart 116 = .ok (.invokevirtual 231, 3) := by decide +kernel
theorem dX7_takePart_119 : decode cX7_takePart 119 = .ok (.ifCond .eq 19, 3) := by decide +kernel
theorem dX7_takePart_122 : decode cX7_takePart 122 = .ok (.aload_n 0, 1) := by decide +kernel
theorem dX7_takePart_123 : decode cX7_takePart 123 = .ok (.iload_n 1, 1) := by decide +kernel
theorem dX7_takePart_124 : decode cX7_takePart 124 = .ok (.iconst 1, 1) := by decide +kernel
theorem dX7_takePart_125 : decode cX7_takePart 125 = .ok (.iadd, 1) := by decide +kernel
theorem dX7_takePart_126 : decode cX7_takePart 126 = .ok (.invokevirtual 288, 3) := by decide +kernel
theorem dX7_takePart_129 : decode cX7_takePart 129 = .ok (.aload_n 0, 1) := by decide +kernel
theorem dX7_takePart_130 : decode cX7_takePart 130 = .ok (.iconst 3, 1) := by decide +kernel
theorem dX7_takePart_131 : decode cX7_takePart 131 = .ok (.iconst 0, 1) := by decide +kernel
theorem dX7_takePart_132 : decode cX7_takePart 132 = .ok (.invokevirtual 269, 3) := by decide +kernel
theorem dX7_takePart_135 : decode cX7_takePart 135 = .ok (.goto 69, 3) := by decide +kernel
theorem dX7_takePart_138 : decode cX7_takePart 138 = .ok (.aload_n 0, 1) := by decide +kernel
theorem dX7_takePart_139 : decode cX7_takePart 139 = .ok (.bipush 40, 2) := by decide +kernel
theorem dX7_takePart_141 : decode cX7_takePart 141 = .ok (.invokevirtual 282, 3) := by decide +kernel
theorem dX7_takePart_144 : decode cX7_takePart 144 = .ok (.ifCond .eq 19, 3) := by decide +kernel
theorem dX7_takePart_147 : decode cX7_takePart 147 = .ok (.aload_n 0, 1) := by decide +kernel
theorem dX7_takePart_148 : decode cX7_takePart 148 = .ok (.iload_n 1, 1) := by decide +kernel
theorem dX7_takePart_149 : decode cX7_takePart 149 = .ok (.iconst 1, 1) := by decide +kernel
theorem dX7_takePart_150 : decode cX7_takePart 150 = .ok (.iadd, 1) := by decide +kernel
theorem dX7_takePart_151 : decode cX7_takePart 151 = .ok (.invokevirtual 266, 3) := by decide +kernel
theorem dX7_takePart_154 : decode cX7_takePart 154 = .ok (.aload_n 0, 1) := by decide +kernel
theorem dX7_takePart_155 : decode cX7_takePart 155 = .ok (.bipush 41, 2) := by decide +kernel
theorem dX7_takePart_157 : decode cX7_takePart 157 = .ok (.invokevirtual 273, 3) := by decide +kernel
theorem dX7_takePart_160 : decode cX7_takePart 160 = .ok (.goto 44, 3) := by decide +kernel
theorem dX7_takePart_163 : decode cX7_takePart 163 = .ok (.aload_n 0, 1) := by decide +kernel
theorem dX7_takePart_164 : decode cX7_takePart 164 = .ok (.iload_n 3, 1) := by decide +kernel
theorem dX7_takePart_165 : decode cX7_takePart 165 = .ok (.ifCond .eq 7, 3) := by decide +kernel
theorem dX7_takePart_168 : decode cX7_takePart 168 = .ok (.iconst 1, 1) := by decide +kernel
theorem dX7_takePart_169 : decode cX7_takePart 169 = .ok (.goto 4, 3) := by decide +kernel
theorem dX7_takePart_172 : decode cX7_takePart 172 = .ok (.iconst 2, 1) := by decide +kernel
theorem dX7_takePart_173 : decode cX7_takePart 173 = .ok (.iload_n 3, 1) := by decide +kernel
theorem dX7_takePart_174 : decode cX7_takePart 174 = .ok (.ifCond .eq 16, 3) := by decide +kernel
theorem dX7_takePart_177 : decode cX7_takePart 177 = .ok (.aload_n 0, 1) := by decide +kernel
theorem dX7_takePart_178 : decode cX7_takePart 178 = .ok (.getfield 30, 3) := by decide +kernel
theorem dX7_takePart_181 : decode cX7_takePart 181 = .ok (.aload_n 0, 1) := by decide +kernel
theorem dX7_takePart_182 : decode cX7_takePart 182 = .ok (.getfield 216, 3) := by decide +kernel
theorem dX7_takePart_185 : decode cX7_takePart 185 = .ok (.laload, 1) := by decide +kernel
theorem dX7_takePart_186 : decode cX7_takePart 186 = .ok (.l2i, 1) := by decide +kernel
theorem dX7_takePart_187 : decode cX7_takePart 187 = .ok (.goto 4, 3) := by decide +kernel
theorem dX7_takePart_190 : decode cX7_takePart 190 = .ok (.iload_n 2, 1) := by decide +kernel
theorem dX7_takePart_191 : decode cX7_takePart 191 = .ok (.invokevirtual 269, 3) := by decide +kernel
theorem dX7_takePart_194 : decode cX7_takePart 194 = .ok (.aload_n 0, 1) := by decide +kernel
theorem dX7_takePart_195 : decode cX7_takePart 195 = .ok (.dup, 1) := by decide +kernel
theorem dX7_takePart_196 : decode cX7_takePart 196 = .ok (.getfield 216, 3) := by decide +kernel
theorem dX7_takePart_199 : decode cX7_takePart 199 = .ok (.iconst 1, 1) := by decide +kernel
theorem dX7_takePart_200 : decode cX7_takePart 200 = .ok (.iadd, 1) := by decide +kernel
theorem dX7_takePart_201 : decode cX7_takePart 201 = .ok (.putfield 216, 3) := by decide +kernel
theorem dX7_takePart_204 : decode cX7_takePart 204 = .ok (.return_, 1) := by decide +kernel
theorem dX7_worth_0 : decode cX7_worth 0 = .ok (.iconst 0, 1) := by decide +kernel
theorem dX7_worth_1 : decode cX7_worth 1 = .ok (.istore_n 2, 1) := by decide +kernel
theorem dX7_worth_2 : decode cX7_worth 2 = .ok (.iload_n 1, 1) := by decide +kernel
theorem dX7_worth_3 : decode cX7_worth 3 = .ok (.istore_n 3, 1) := by decide +kernel
theorem dX7_worth_4 : decode cX7_worth 4 = .ok (.aload_n 0, 1) := by decide +kernel
theorem dX7_worth_5 : decode cX7_worth 5 = .ok (.getfield 104, 3) := by decide +kernel
theorem dX7_worth_8 : decode cX7_worth 8 = .ok (.iload_n 3, 1) := by decide +kernel
theorem dX7_worth_9 : decode cX7_worth 9 = .ok (.iaload, 1) := by decide +kernel
theorem dX7_worth_10 : decode cX7_worth 10 = .ok (.ifCond .eq 130, 3) := by decide +kernel
theorem dX7_worth_13 : decode cX7_worth 13 = .ok (.aload_n 0, 1) := by decide +kernel
theorem dX7_worth_14 : decode cX7_worth 14 = .ok (.getfield 104, 3) := by decide +kernel
theorem dX7_worth_17 : decode cX7_worth 17 = .ok (.iload_n 3, 1) := by decide +kernel
theorem dX7_worth_18 : decode cX7_worth 18 = .ok (.iaload, 1) := by decide +kernel
theorem dX7_worth_19 : decode cX7_worth 19 = .ok (.istore 4, 2) := by decide +kernel
theorem dX7_worth_21 : decode cX7_worth 21 = .ok (.iload 4, 2) := by decide +kernel
theorem dX7_worth_23 : decode cX7_worth 23 = .ok (.iconst 1, 1) := by decide +kernel
theorem dX7_worth_24 : decode cX7_worth 24 = .ok (.if_icmp .eq 9, 3) := by decide +kernel
theorem dX7_worth_27 : decode cX7_worth 27 = .ok (.iload 4, 2) := by decide +kernel
theorem dX7_worth_29 : decode cX7_worth 29 = .ok (.iconst 2, 1) := by decide +kernel
theorem dX7_worth_30 : decode cX7_worth 30 = .ok (.if_icmp .ne 41, 3) := by decide +kernel
theorem dX7_worth_33 : decode cX7_worth 33 = .ok (.aload_n 0, 1) := by decide +kernel
theorem dX7_worth_34 : decode cX7_worth 34 = .ok (.getfield 113, 3) := by decide +kernel
theorem dX7_worth_37 : decode cX7_worth 37 = .ok (.iload_n 2, 1) := by decide +kernel
theorem dX7_worth_38 : decode cX7_worth 38 = .ok (.iload 4, 2) := by decide +kernel
theorem dX7_worth_40 : decode cX7_worth 40 = .ok (.iconst 1, 1) := by decide +kernel
theorem dX7_worth_41 : decode cX7_worth 41 = .ok (.if_icmp .ne 12, 3) := by decide +kernel
theorem dX7_worth_44 : decode cX7_worth 44 = .ok (.aload_n 0, 1) := by decide +kernel
theorem dX7_worth_45 : decode cX7_worth 45 = .ok (.getfield 107, 3) := by decide +kernel
theorem dX7_worth_48 : decode cX7_worth 48 = .ok (.iload_n 3, 1) := by decide +kernel
theorem dX7_worth_49 : decode cX7_worth 49 = .ok (.iaload, 1) := by decide +kernel
theorem dX7_worth_50 : decode cX7_worth 50 = .ok (.goto 14, 3) := by decide +kernel
theorem dX7_worth_53 : decode cX7_worth 53 = .ok (.aload_n 0, 1) := by decide +kernel
theorem dX7_worth_54 : decode cX7_worth 54 = .ok (.getfield 110, 3) := by decide +kernel
theorem dX7_worth_57 : decode cX7_worth 57 = .ok (.aload_n 0, 1) := by decide +kernel
theorem dX7_worth_58 : decode cX7_worth 58 = .ok (.getfield 107, 3) := by decide +kernel
theorem dX7_worth_61 : decode cX7_worth 61 = .ok (.iload_n 3, 1) := by decide +kernel
theorem dX7_worth_62 : decode cX7_worth 62 = .ok (.iaload, 1) := by decide +kernel
theorem dX7_worth_63 : decode cX7_worth 63 = .ok (.iaload, 1) := by decide +kernel
theorem dX7_worth_64 : decode cX7_worth 64 = .ok (.iastore, 1) := by decide +kernel
theorem dX7_worth_65 : decode cX7_worth 65 = .ok (.iinc 2 1, 3) := by decide +kernel
theorem dX7_worth_68 : decode cX7_worth 68 = .ok (.goto 66, 3) := by decide +kernel
theorem dX7_worth_71 : decode cX7_worth 71 = .ok (.iload 4, 2) := by decide +kernel
theorem dX7_worth_73 : decode cX7_worth 73 = .ok (.iconst 3, 1) := by decide +kernel
theorem dX7_worth_74 : decode cX7_worth 74 = .ok (.if_icmp .ne 30, 3) := by decide +kernel
theorem dX7_worth_77 : decode cX7_worth 77 = .ok (.aload_n 0, 1) := by decide +kernel
theorem dX7_worth_78 : decode cX7_worth 78 = .ok (.getfield 113, 3) := by decide +kernel
theorem dX7_worth_81 : decode cX7_worth 81 = .ok (.iload_n 2, 1) := by decide +kernel
theorem dX7_worth_82 : decode cX7_worth 82 = .ok (.iconst 1, 1) := by decide +kernel
theorem dX7_worth_83 : decode cX7_worth 83 = .ok (.isub, 1) := by decide +kernel
theorem dX7_worth_84 : decode cX7_worth 84 = .ok (.aload_n 0, 1) := by decide +kernel
theorem dX7_worth_85 : decode cX7_worth 85 = .ok (.getfield 113, 3) := by decide +kernel
theorem dX7_worth_88 : decode cX7_worth 88 = .ok (.iload_n 2, 1) := by decide +kernel
theorem dX7_worth_89 : decode cX7_worth 89 = .ok (.iconst 1, 1) := by decide +kernel
theorem dX7_worth_90 : decode cX7_worth 90 = .ok (.isub, 1) := by decide +kernel
theorem dX7_worth_91 : decode cX7_worth 91 = .ok (.iaload, 1) := by decide +kernel
theorem dX7_worth_92 : decode cX7_worth 92 = .ok (.ifCond .ne 7, 3) := by decide +kernel
theorem dX7_worth_95 : decode cX7_worth 95 = .ok (.iconst 1, 1) := by decide +kernel
theorem dX7_worth_96 : decode cX7_worth 96 = .ok (.goto 4, 3) := by decide +kernel
theorem dX7_worth_99 : decode cX7_worth 99 = .ok (.iconst 0, 1) := by decide +kernel
theorem dX7_worth_100 : decode cX7_worth 100 = .ok (.iastore, 1) := by decide +kernel
theorem dX7_worth_101 : decode cX7_worth 101 = .ok (.goto 33, 3) := by decide +kernel
theorem dX7_worth_104 : decode cX7_worth 104 = .ok (.iinc 2 (-1), 3) := by decide +kernel
theorem dX7_worth_107 : decode cX7_worth 107 = .ok (.aload_n 0, 1) := by decide +kernel
theorem dX7_worth_108 : decode cX7_worth 108 = .ok (.getfield 113, 3) := by decide +kernel
theorem dX7_worth_111 : decode cX7_worth 111 = .ok (.iload_n 2, 1) := by decide +kernel
theorem dX7_worth_112 : decode cX7_worth 112 = .ok (.iconst 1, 1) := by decide +kernel
theorem dX7_worth_113 : decode cX7_worth 113 = .ok (.isub, 1) := by decide +kernel
theorem dX7_worth_114 : decode cX7_worth 114 = .ok (.iload 4, 2) := by decide +kernel
theorem dX7_worth_116 : decode cX7_worth 116 = .ok (.aload_n 0, 1) := by decide +kernel
theorem dX7_worth_117 : decode cX7_worth 117 = .ok (.getfield 113, 3) := by decide +kernel
theorem dX7_worth_120 : decode cX7_worth 120 = .ok (.iload_n 2, 1) := by decide +kernel
theorem dX7_worth_121 : decode cX7_worth 121 = .ok (.iconst 1, 1) := by decide +kernel
theorem dX7_worth_122 : decode cX7_worth 122 = .ok (.isub, 1) := by decide +kernel
theorem dX7_worth_123 : decode cX7_worth 123 = .ok (.iaload, 1) := by decide +kernel
theorem dX7_worth_124 : decode cX7_worth 124 = .ok (.aload_n 0, 1) := by decide +kernel
theorem dX7_worth_125 : decode cX7_worth 125 = .ok (.getfield 113, 3) := by decide +kernel
theorem dX7_worth_128 : decode cX7_worth 128 = .ok (.iload_n 2, 1) := by decide +kernel
theorem dX7_worth_129 : decode cX7_worth 129 = .ok (.iaload, 1) := by decide +kernel
theorem dX7_worth_130 : decode cX7_worth 130 = .ok (.invokestatic 291, 3) := by decide +kernel
theorem dX7_worth_133 : decode cX7_worth 133 = .ok (.iastore, 1) := by decide +kernel
theorem dX7_worth_134 : decode cX7_worth 134 = .ok (.iinc 3 1, 3) := by decide +kernel
theorem dX7_worth_137 : decode cX7_worth 137 = .ok (.goto (-133), 3) := by decide +kernel
theorem dX7_worth_140 : decode cX7_worth 140 = .ok (.aload_n 0, 1) := by decide +kernel
theorem dX7_worth_141 : decode cX7_worth 141 = .ok (.getfield 113, 3) := by decide +kernel
theorem dX7_worth_144 : decode cX7_worth 144 = .ok (.iconst 0, 1) := by decide +kernel
theorem dX7_worth_145 : decode cX7_worth 145 = .ok (.iaload, 1) := by decide +kernel
theorem dX7_worth_146 : decode cX7_worth 146 = .ok (.ireturn, 1) := by decide +kernel
theorem dX7_both_0 : decode cX7_both 0 = .ok (.iload_n 0, 1) := by decide +kernel
theorem dX7_both_1 : decode cX7_both 1 = .ok (.tableswitch 103 4 10 #[43, 47, 51, 55, 67, 78, 89], 43) := by decide +kernel
theorem dX7_both_44 : decode cX7_both 44 = .ok (.iload_n 1, 1) := by decide +kernel
theorem dX7_both_45 : decode cX7_both 45 = .ok (.iload_n 2, 1) := by decide +kernel
theorem dX7_both_46 : decode cX7_both 46 = .ok (.iadd, 1) := by decide +kernel
theorem dX7_both_47 : decode cX7_both 47 = .ok (.ireturn, 1) := by decide +kernel
theorem dX7_both_48 : decode cX7_both 48 = .ok (.iload_n 1, 1) := by decide +kernel
theorem dX7_both_49 : decode cX7_both 49 = .ok (.iload_n 2, 1) := by decide +kernel
theorem dX7_both_50 : decode cX7_both 50 = .ok (.isub, 1) := by decide +kernel
theorem dX7_both_51 : decode cX7_both 51 = .ok (.ireturn, 1) := by decide +kernel
theorem dX7_both_52 : decode cX7_both 52 = .ok (.iload_n 1, 1) := by decide +kernel
theorem dX7_both_53 : decode cX7_both 53 = .ok (.iload_n 2, 1) := by decide +kernel
theorem dX7_both_54 : decode cX7_both 54 = .ok (.imul, 1) := by decide +kernel
theorem dX7_both_55 : decode cX7_both 55 = .ok (.ireturn, 1) := by decide +kernel
theorem dX7_both_56 : decode cX7_both 56 = .ok (.iload_n 2, 1) := by decide +kernel
theorem dX7_both_57 : decode cX7_both 57 = .ok (.ifCond .ne 7, 3) := by decide +kernel
theorem dX7_both_60 : decode cX7_both 60 = .ok (.iconst 0, 1) := by decide +kernel
theorem dX7_both_61 : decode cX7_both 61 = .ok (.goto 6, 3) := by decide +kernel
theorem dX7_both_64 : decode cX7_both 64 = .ok (.iload_n 1, 1) := by decide +kernel
theorem dX7_both_65 : decode cX7_both 65 = .ok (.iload_n 2, 1) := by decide +kernel
theorem dX7_both_66 : decode cX7_both 66 = .ok (.idiv, 1) := by decide +kernel
theorem dX7_both_67 : decode cX7_both 67 = .ok (.ireturn, 1) := by decide +kernel
theorem dX7_both_68 : decode cX7_both 68 = .ok (.iload_n 1, 1) := by decide +kernel
theorem dX7_both_69 : decode cX7_both 69 = .ok (.iload_n 2, 1) := by decide +kernel
theorem dX7_both_70 : decode cX7_both 70 = .ok (.if_icmp .ge 7, 3) := by decide +kernel
theorem dX7_both_73 : decode cX7_both 73 = .ok (.iconst 1, 1) := by decide +kernel
theorem dX7_both_74 : decode cX7_both 74 = .ok (.goto 4, 3) := by decide +kernel
theorem dX7_both_77 : decode cX7_both 77 = .ok (.iconst 0, 1) := by decide +kernel
theorem dX7_both_78 : decode cX7_both 78 = .ok (.ireturn, 1) := by decide +kernel
theorem dX7_both_79 : decode cX7_both 79 = .ok (.iload_n 1, 1) := by decide +kernel
theorem dX7_both_80 : decode cX7_both 80 = .ok (.iload_n 2, 1) := by decide +kernel
theorem dX7_both_81 : decode cX7_both 81 = .ok (.if_icmp .ne 7, 3) := by decide +kernel
theorem dX7_both_84 : decode cX7_both 84 = .ok (.iconst 1, 1) := by decide +kernel
theorem dX7_both_85 : decode cX7_both 85 = .ok (.goto 4, 3) := by decide +kernel
theorem dX7_both_88 : decode cX7_both 88 = .ok (.iconst 0, 1) := by decide +kernel
theorem dX7_both_89 : decode cX7_both 89 = .ok (.ireturn, 1) := by decide +kernel
theorem dX7_both_90 : decode cX7_both 90 = .ok (.iload_n 1, 1) := by decide +kernel
theorem dX7_both_91 : decode cX7_both 91 = .ok (.ifCond .eq 11, 3) := by decide +kernel
theorem dX7_both_94 : decode cX7_both 94 = .ok (.iload_n 2, 1) := by decide +kernel
theorem dX7_both_95 : decode cX7_both 95 = .ok (.ifCond .eq 7, 3) := by decide +kernel
theorem dX7_both_98 : decode cX7_both 98 = .ok (.iconst 1, 1) := by decide +kernel
theorem dX7_both_99 : decode cX7_both 99 = .ok (.goto 4, 3) := by decide +kernel
theorem dX7_both_102 : decode cX7_both 102 = .ok (.iconst 0, 1) := by decide +kernel
theorem dX7_both_103 : decode cX7_both 103 = .ok (.ireturn, 1) := by decide +kernel
theorem dX7_both_104 : decode cX7_both 104 = .ok (.iload_n 1, 1) := by decide +kernel
theorem dX7_both_105 : decode cX7_both 105 = .ok (.ifCond .ne 7, 3) := by decide +kernel
theorem dX7_both_108 : decode cX7_both 108 = .ok (.iload_n 2, 1) := by decide +kernel
theorem dX7_both_109 : decode cX7_both 109 = .ok (.ifCond .eq 7, 3) := by decide +kernel
theorem dX7_both_112 : decode cX7_both 112 = .ok (.iconst 1, 1) := by decide +kernel
theorem dX7_both_113 : decode cX7_both 113 = .ok (.goto 4, 3) := by decide +kernel
theorem dX7_both_116 : decode cX7_both 116 = .ok (.iconst 0, 1) := by decide +kernel
theorem dX7_both_117 : decode cX7_both 117 = .ok (.ireturn, 1) := by decide +kernel
theorem dX7_lawFor_0 : decode cX7_lawFor 0 = .ok (.bipush 24, 2) := by decide +kernel
theorem dX7_lawFor_2 : decode cX7_lawFor 2 = .ok (.aload_n 0, 1) := by decide +kernel
theorem dX7_lawFor_3 : decode cX7_lawFor 3 = .ok (.getfield 243, 3) := by decide +kernel
theorem dX7_lawFor_6 : decode cX7_lawFor 6 = .ok (.imul, 1) := by decide +kernel
theorem dX7_lawFor_7 : decode cX7_lawFor 7 = .ok (.istore_n 2, 1) := by decide +kernel
theorem dX7_lawFor_8 : decode cX7_lawFor 8 = .ok (.iload_n 2, 1) := by decide +kernel
theorem dX7_lawFor_9 : decode cX7_lawFor 9 = .ok (.bipush 24, 2) := by decide +kernel
theorem dX7_lawFor_11 : decode cX7_lawFor 11 = .ok (.aload_n 0, 1) := by decide +kernel
theorem dX7_lawFor_12 : decode cX7_lawFor 12 = .ok (.getfield 243, 3) := by decide +kernel
theorem dX7_lawFor_15 : decode cX7_lawFor 15 = .ok (.imul, 1) := by decide +kernel
theorem dX7_lawFor_16 : decode cX7_lawFor 16 = .ok (.aload_n 0, 1) := by decide +kernel
theorem dX7_lawFor_17 : decode cX7_lawFor 17 = .ok (.getfield 83, 3) := by decide +kernel
theorem dX7_lawFor_20 : decode cX7_lawFor 20 = .ok (.aload_n 0, 1) := by decide +kernel
theorem dX7_lawFor_21 : decode cX7_lawFor 21 = .ok (.getfield 243, 3) := by decide +kernel
theorem dX7_lawFor_24 : decode cX7_lawFor 24 = .ok (.iaload, 1) := by decide +kernel
theorem dX7_lawFor_25 : decode cX7_lawFor 25 = .ok (.iadd, 1) := by decide +kernel
theorem dX7_lawFor_26 : decode cX7_lawFor 26 = .ok (.if_icmp .ge 74, 3) := by decide +kernel
theorem dX7_lawFor_29 : decode cX7_lawFor 29 = .ok (.aload_n 0, 1) := by decide +kernel
theorem dX7_lawFor_30 : decode cX7_lawFor 30 = .ok (.getfield 86, 3) := by decide +kernel
theorem dX7_lawFor_33 : decode cX7_lawFor 33 = .ok (.iload_n 2, 1) := by decide +kernel
theorem dX7_lawFor_34 : decode cX7_lawFor 34 = .ok (.iaload, 1) := by decide +kernel
theorem dX7_lawFor_35 : decode cX7_lawFor 35 = .ok (.iload_n 1, 1) := by decide +kernel
theorem dX7_lawFor_36 : decode cX7_lawFor 36 = .ok (.if_icmp .ne 58, 3) := by decide +kernel
theorem dX7_lawFor_39 : decode cX7_lawFor 39 = .ok (.aload_n 0, 1) := by decide +kernel
theorem dX7_lawFor_40 : decode cX7_lawFor 40 = .ok (.aload_n 0, 1) := by decide +kernel
theorem dX7_lawFor_41 : decode cX7_lawFor 41 = .ok (.getfield 98, 3) := by decide +kernel
theorem dX7_lawFor_44 : decode cX7_lawFor 44 = .ok (.iload_n 2, 1) := by decide +kernel
theorem dX7_lawFor_45 : decode cX7_lawFor 45 = .ok (.iaload, 1) := by decide +kernel
theorem dX7_lawFor_46 : decode cX7_lawFor 46 = .ok (.invokevirtual 295, 3) := by decide +kernel
theorem dX7_lawFor_49 : decode cX7_lawFor 49 = .ok (.ifCond .eq 45, 3) := by decide +kernel
theorem dX7_lawFor_52 : decode cX7_lawFor 52 = .ok (.aload_n 0, 1) := by decide +kernel
theorem dX7_lawFor_53 : decode cX7_lawFor 53 = .ok (.getfield 95, 3) := by decide +kernel
theorem dX7_lawFor_56 : decode cX7_lawFor 56 = .ok (.iload_n 2, 1) := by decide +kernel
theorem dX7_lawFor_57 : decode cX7_lawFor 57 = .ok (.iaload, 1) := by decide +kernel
theorem dX7_lawFor_58 : decode cX7_lawFor 58 = .ok (.ifCond .lt 29, 3) := by decide +kernel
theorem dX7_lawFor_61 : decode cX7_lawFor 61 = .ok (.aload_n 0, 1) := by decide +kernel
theorem dX7_lawFor_62 : decode cX7_lawFor 62 = .ok (.getfield 298, 3) := by decide +kernel
theorem dX7_lawFor_65 : decode cX7_lawFor 65 = .ok (.aload_n 0, 1) := by decide +kernel
theorem dX7_lawFor_66 : decode cX7_lawFor 66 = .ok (.getfield 95, 3) := by decide +kernel
theorem dX7_lawFor_69 : decode cX7_lawFor 69 = .ok (.iload_n 2, 1) := by decide +kernel
theorem dX7_lawFor_70 : decode cX7_lawFor 70 = .ok (.iaload, 1) := by decide +kernel
theorem dX7_lawFor_71 : decode cX7_lawFor 71 = .ok (.ishr, 1) := by decide +kernel
theorem dX7_lawFor_72 : decode cX7_lawFor 72 = .ok (.iconst 1, 1) := by decide +kernel
theorem dX7_lawFor_73 : decode cX7_lawFor 73 = .ok (.iand, 1) := by decide +kernel
theorem dX7_lawFor_74 : decode cX7_lawFor 74 = .ok (.iconst 1, 1) := by decide +kernel
theorem dX7_lawFor_75 : decode cX7_lawFor 75 = .ok (.if_icmp .ne 12, 3) := by decide +kernel
theorem dX7_lawFor_78 : decode cX7_lawFor 78 = .ok (.aload_n 0, 1) := by decide +kernel
theorem dX7_lawFor_79 : decode cX7_lawFor 79 = .ok (.getfield 92, 3) := by decide +kernel
theorem dX7_lawFor_82 : decode cX7_lawFor 82 = .ok (.iload_n 2, 1) := by decide +kernel
theorem dX7_lawFor_83 : decode cX7_lawFor 83 = .ok (.iaload, 1) := by decide +kernel
theorem dX7_lawFor_84 : decode cX7_lawFor 84 = .ok (.goto 9, 3) := by decide +kernel
theorem dX7_lawFor_87 : decode cX7_lawFor 87 = .ok (.aload_n 0, 1) := by decide +kernel
theorem dX7_lawFor_88 : decode cX7_lawFor 88 = .ok (.getfield 89, 3) := by decide +kernel
theorem dX7_lawFor_91 : decode cX7_lawFor 91 = .ok (.iload_n 2, 1) := by decide +kernel
theorem dX7_lawFor_92 : decode cX7_lawFor 92 = .ok (.iaload, 1) := by decide +kernel
theorem dX7_lawFor_93 : decode cX7_lawFor 93 = .ok (.ireturn, 1) := by decide +kernel
theorem dX7_lawFor_94 : decode cX7_lawFor 94 = .ok (.iinc 2 1, 3) := by decide +kernel
theorem dX7_lawFor_97 : decode cX7_lawFor 97 = .ok (.goto (-89), 3) := by decide +kernel
theorem dX7_lawFor_100 : decode cX7_lawFor 100 = .ok (.iconst (-1), 1) := by decide +kernel
theorem dX7_lawFor_101 : decode cX7_lawFor 101 = .ok (.ireturn, 1) := by decide +kernel
theorem dX7_within_0 : decode cX7_within 0 = .ok (.iload_n 0, 1) := by decide +kernel
theorem dX7_within_1 : decode cX7_within 1 = .ok (.iload_n 1, 1) := by decide +kernel
theorem dX7_within_2 : decode cX7_within 2 = .ok (.if_icmp .lt 12, 3) := by decide +kernel
theorem dX7_within_5 : decode cX7_within 5 = .ok (.iload_n 0, 1) := by decide +kernel
theorem dX7_within_6 : decode cX7_within 6 = .ok (.iload_n 2, 1) := by decide +kernel
theorem dX7_within_7 : decode cX7_within 7 = .ok (.if_icmp .gt 7, 3) := by decide +kernel
theorem dX7_within_10 : decode cX7_within 10 = .ok (.iconst 1, 1) := by decide +kernel
theorem dX7_within_11 : decode cX7_within 11 = .ok (.goto 4, 3) := by decide +kernel
theorem dX7_within_14 : decode cX7_within 14 = .ok (.iconst 0, 1) := by decide +kernel
theorem dX7_within_15 : decode cX7_within 15 = .ok (.ireturn, 1) := by decide +kernel
theorem dX7_clears_0 : decode cX7_clears 0 = .ok (.aload_n 0, 1) := by decide +kernel
theorem dX7_clears_1 : decode cX7_clears 1 = .ok (.getfield 116, 3) := by decide +kernel
theorem dX7_clears_4 : decode cX7_clears 4 = .ok (.iconst 0, 1) := by decide +kernel
theorem dX7_clears_5 : decode cX7_clears 5 = .ok (.iload_n 1, 1) := by decide +kernel
theorem dX7_clears_6 : decode cX7_clears 6 = .ok (.iastore, 1) := by decide +kernel
theorem dX7_clears_7 : decode cX7_clears 7 = .ok (.iconst 0, 1) := by decide +kernel
theorem dX7_clears_8 : decode cX7_clears 8 = .ok (.istore_n 2, 1) := by decide +kernel
theorem dX7_clears_9 : decode cX7_clears 9 = .ok (.iload_n 2, 1) := by decide +kernel
theorem dX7_clears_10 : decode cX7_clears 10 = .ok (.bipush 12, 2) := by decide +kernel
theorem dX7_clears_12 : decode cX7_clears 12 = .ok (.if_icmp .ge 35, 3) := by decide +kernel
theorem dX7_clears_15 : decode cX7_clears 15 = .ok (.aload_n 0, 1) := by decide +kernel
theorem dX7_clears_16 : decode cX7_clears 16 = .ok (.getfield 119, 3) := by decide +kernel
theorem dX7_clears_19 : decode cX7_clears 19 = .ok (.iload_n 2, 1) := by decide +kernel
theorem dX7_clears_20 : decode cX7_clears 20 = .ok (.iconst 0, 1) := by decide +kernel
theorem dX7_clears_21 : decode cX7_clears 21 = .ok (.iastore, 1) := by decide +kernel
theorem dX7_clears_22 : decode cX7_clears 22 = .ok (.aload_n 0, 1) := by decide +kernel
theorem dX7_clears_23 : decode cX7_clears 23 = .ok (.getfield 122, 3) := by decide +kernel
theorem dX7_clears_26 : decode cX7_clears 26 = .ok (.iload_n 2, 1) := by decide +kernel
theorem dX7_clears_27 : decode cX7_clears 27 = .ok (.iconst 0, 1) := by decide +kernel
theorem dX7_clears_28 : decode cX7_clears 28 = .ok (.iastore, 1) := by decide +kernel
theorem dX7_clears_29 : decode cX7_clears 29 = .ok (.aload_n 0, 1) := by decide +kernel
theorem dX7_clears_30 : decode cX7_clears 30 = .ok (.getfield 125, 3) := by decide +kernel
theorem dX7_clears_33 : decode cX7_clears 33 = .ok (.iload_n 2, 1) := by decide +kernel
theorem dX7_clears_34 : decode cX7_clears 34 = .ok (.bipush 100, 2) := by decide +kernel
theorem dX7_clears_36 : decode cX7_clears 36 = .ok (.iload_n 2, 1) := by decide +kernel
theorem dX7_clears_37 : decode cX7_clears 37 = .ok (.iconst 1, 1) := by decide +kernel
theorem dX7_clears_38 : decode cX7_clears 38 = .ok (.iadd, 1) := by decide +kernel
theorem dX7_clears_39 : decode cX7_clears 39 = .ok (.imul, 1) := by decide +kernel
theorem dX7_clears_40 : decode cX7_clears 40 = .ok (.iastore, 1) := by decide +kernel
theorem dX7_clears_41 : decode cX7_clears 41 = .ok (.iinc 2 1, 3) := by decide +kernel
theorem dX7_clears_44 : decode cX7_clears 44 = .ok (.goto (-35), 3) := by decide +kernel
theorem dX7_clears_47 : decode cX7_clears 47 = .ok (.iconst 0, 1) := by decide +kernel
theorem dX7_clears_48 : decode cX7_clears 48 = .ok (.istore_n 2, 1) := by decide +kernel
theorem dX7_clears_49 : decode cX7_clears 49 = .ok (.iload_n 2, 1) := by decide +kernel
theorem dX7_clears_50 : decode cX7_clears 50 = .ok (.bipush 60, 2) := by decide +kernel
theorem dX7_clears_52 : decode cX7_clears 52 = .ok (.if_icmp .ge 16, 3) := by decide +kernel
theorem dX7_clears_55 : decode cX7_clears 55 = .ok (.aload_n 0, 1) := by decide +kernel
theorem dX7_clears_56 : decode cX7_clears 56 = .ok (.getfield 128, 3) := by decide +kernel
theorem dX7_clears_59 : decode cX7_clears 59 = .ok (.iload_n 2, 1) := by decide +kernel
theorem dX7_clears_60 : decode cX7_clears 60 = .ok (.iconst 0, 1) := by decide +kernel
theorem dX7_clears_61 : decode cX7_clears 61 = .ok (.iastore, 1) := by decide +kernel
theorem dX7_clears_62 : decode cX7_clears 62 = .ok (.iinc 2 1, 3) := by decide +kernel
theorem dX7_clears_65 : decode cX7_clears 65 = .ok (.goto (-16), 3) := by decide +kernel
theorem dX7_clears_68 : decode cX7_clears 68 = .ok (.aload_n 0, 1) := by decide +kernel
theorem dX7_clears_69 : decode cX7_clears 69 = .ok (.getfield 146, 3) := by decide +kernel
theorem dX7_clears_72 : decode cX7_clears 72 = .ok (.iconst 0, 1) := by decide +kernel
theorem dX7_clears_73 : decode cX7_clears 73 = .ok (.iconst 0, 1) := by decide +kernel
theorem dX7_clears_74 : decode cX7_clears 74 = .ok (.iastore, 1) := by decide +kernel
theorem dX7_clears_75 : decode cX7_clears 75 = .ok (.aload_n 0, 1) := by decide +kernel
theorem dX7_clears_76 : decode cX7_clears 76 = .ok (.getfield 140, 3) := by decide +kernel
theorem dX7_clears_79 : decode cX7_clears 79 = .ok (.iconst 0, 1) := by decide +kernel
theorem dX7_clears_80 : decode cX7_clears 80 = .ok (.lconst 0, 1) := by decide +kernel
theorem dX7_clears_81 : decode cX7_clears 81 = .ok (.lastore, 1) := by decide +kernel
theorem dX7_clears_82 : decode cX7_clears 82 = .ok (.aload_n 0, 1) := by decide +kernel
theorem dX7_clears_83 : decode cX7_clears 83 = .ok (.getfield 143, 3) := by decide +kernel
theorem dX7_clears_86 : decode cX7_clears 86 = .ok (.iconst 0, 1) := by decide +kernel
theorem dX7_clears_87 : decode cX7_clears 87 = .ok (.lconst 0, 1) := by decide +kernel
theorem dX7_clears_88 : decode cX7_clears 88 = .ok (.lastore, 1) := by decide +kernel
theorem dX7_clears_89 : decode cX7_clears 89 = .ok (.return_, 1) := by decide +kernel
theorem dX7_copies_0 : decode cX7_copies 0 = .ok (.aload_n 0, 1) := by decide +kernel
theorem dX7_copies_1 : decode cX7_copies 1 = .ok (.getfield 116, 3) := by decide +kernel
theorem dX7_copies_4 : decode cX7_copies 4 = .ok (.iload_n 2, 1) := by decide +kernel
theorem dX7_copies_5 : decode cX7_copies 5 = .ok (.aload_n 0, 1) := by decide +kernel
theorem dX7_copies_6 : decode cX7_copies 6 = .ok (.getfield 116, 3) := by decide +kernel
theorem dX7_copies_9 : decode cX7_copies 9 = .ok (.iload_n 1, 1) := by decide +kernel
theorem dX7_copies_10 : decode cX7_copies 10 = .ok (.iaload, 1) := by decide +kernel
theorem dX7_copies_11 : decode cX7_copies 11 = .ok (.iastore, 1) := by decide +kernel
theorem dX7_copies_12 : decode cX7_copies 12 = .ok (.aload_n 0, 1) := by decide +kernel
theorem dX7_copies_13 : decode cX7_copies 13 = .ok (.getfield 131, 3) := by decide +kernel
theorem dX7_copies_16 : decode cX7_copies 16 = .ok (.iload_n 2, 1) := by decide +kernel
theorem dX7_copies_17 : decode cX7_copies 17 = .ok (.aload_n 0, 1) := by decide +kernel
theorem dX7_copies_18 : decode cX7_copies 18 = .ok (.getfield 131, 3) := by decide +kernel
theorem dX7_copies_21 : decode cX7_copies 21 = .ok (.iload_n 1, 1) := by decide +kernel
theorem dX7_copies_22 : decode cX7_copies 22 = .ok (.iaload, 1) := by decide +kernel
theorem dX7_copies_23 : decode cX7_copies 23 = .ok (.iastore, 1) := by decide +kernel
theorem dX7_copies_24 : decode cX7_copies 24 = .ok (.aload_n 0, 1) := by decide +kernel
theorem dX7_copies_25 : decode cX7_copies 25 = .ok (.getfield 134, 3) := by decide +kernel
theorem dX7_copies_28 : decode cX7_copies 28 = .ok (.iload_n 2, 1) := by decide +kernel
theorem dX7_copies_29 : decode cX7_copies 29 = .ok (.aload_n 0, 1) := by decide +kernel
theorem dX7_copies_30 : decode cX7_copies 30 = .ok (.getfield 134, 3) := by decide +kernel
theorem dX7_copies_33 : decode cX7_copies 33 = .ok (.iload_n 1, 1) := by decide +kernel
theorem dX7_copies_34 : decode cX7_copies 34 = .ok (.iaload, 1) := by decide +kernel
theorem dX7_copies_35 : decode cX7_copies 35 = .ok (.iastore, 1) := by decide +kernel
theorem dX7_copies_36 : decode cX7_copies 36 = .ok (.aload_n 0, 1) := by decide +kernel
theorem dX7_copies_37 : decode cX7_copies 37 = .ok (.getfield 137, 3) := by decide +kernel
theorem dX7_copies_40 : decode cX7_copies 40 = .ok (.iload_n 2, 1) := by decide +kernel
theorem dX7_copies_41 : decode cX7_copies 41 = .ok (.aload_n 0, 1) := by decide +kernel
theorem dX7_copies_42 : decode cX7_copies 42 = .ok (.getfield 137, 3) := by decide +kernel
theorem dX7_copies_45 : decode cX7_copies 45 = .ok (.iload_n 1, 1) := by decide +kernel
theorem dX7_copies_46 : decode cX7_copies 46 = .ok (.iaload, 1) := by decide +kernel
theorem dX7_copies_47 : decode cX7_copies 47 = .ok (.iastore, 1) := by decide +kernel
theorem dX7_copies_48 : decode cX7_copies 48 = .ok (.aload_n 0, 1) := by decide +kernel
theorem dX7_copies_49 : decode cX7_copies 49 = .ok (.getfield 140, 3) := by decide +kernel
theorem dX7_copies_52 : decode cX7_copies 52 = .ok (.iload_n 2, 1) := by decide +kernel
theorem dX7_copies_53 : decode cX7_copies 53 = .ok (.aload_n 0, 1) := by decide +kernel
theorem dX7_copies_54 : decode cX7_copies 54 = .ok (.getfield 140, 3) := by decide +kernel
theorem dX7_copies_57 : decode cX7_copies 57 = .ok (.iload_n 1, 1) := by decide +kernel
theorem dX7_copies_58 : decode cX7_copies 58 = .ok (.laload, 1) := by decide +kernel
theorem dX7_copies_59 : decode cX7_copies 59 = .ok (.lastore, 1) := by decide +kernel
theorem dX7_copies_60 : decode cX7_copies 60 = .ok (.aload_n 0, 1) := by decide +kernel
theorem dX7_copies_61 : decode cX7_copies 61 = .ok (.getfield 143, 3) := by decide +kernel
theorem dX7_copies_64 : decode cX7_copies 64 = .ok (.iload_n 2, 1) := by decide +kernel
theorem dX7_copies_65 : decode cX7_copies 65 = .ok (.aload_n 0, 1) := by decide +kernel
theorem dX7_copies_66 : decode cX7_copies 66 = .ok (.getfield 143, 3) := by decide +kernel
theorem dX7_copies_69 : decode cX7_copies 69 = .ok (.iload_n 1, 1) := by decide +kernel
theorem dX7_copies_70 : decode cX7_copies 70 = .ok (.laload, 1) := by decide +kernel
theorem dX7_copies_71 : decode cX7_copies 71 = .ok (.lastore, 1) := by decide +kernel
theorem dX7_copies_72 : decode cX7_copies 72 = .ok (.aload_n 0, 1) := by decide +kernel
theorem dX7_copies_73 : decode cX7_copies 73 = .ok (.getfield 146, 3) := by decide +kernel
theorem dX7_copies_76 : decode cX7_copies 76 = .ok (.iload_n 2, 1) := by decide +kernel
theorem dX7_copies_77 : decode cX7_copies 77 = .ok (.aload_n 0, 1) := by decide +kernel
theorem dX7_copies_78 : decode cX7_copies 78 = .ok (.getfield 146, 3) := by decide +kernel
theorem dX7_copies_81 : decode cX7_copies 81 = .ok (.iload_n 1, 1) := by decide +kernel
theorem dX7_copies_82 : decode cX7_copies 82 = .ok (.iaload, 1) := by decide +kernel
theorem dX7_copies_83 : decode cX7_copies 83 = .ok (.iastore, 1) := by decide +kernel
theorem dX7_copies_84 : decode cX7_copies 84 = .ok (.iconst 0, 1) := by decide +kernel
theorem dX7_copies_85 : decode cX7_copies 85 = .ok (.istore_n 3, 1) := by decide +kernel
theorem dX7_copies_86 : decode cX7_copies 86 = .ok (.iload_n 3, 1) := by decide +kernel
theorem dX7_copies_87 : decode cX7_copies 87 = .ok (.bipush 12, 2) := by decide +kernel
theorem dX7_copies_89 : decode cX7_copies 89 = .ok (.if_icmp .ge 75, 3) := by decide +kernel
theorem dX7_copies_92 : decode cX7_copies 92 = .ok (.aload_n 0, 1) := by decide +kernel
theorem dX7_copies_93 : decode cX7_copies 93 = .ok (.getfield 119, 3) := by decide +kernel
theorem dX7_copies_96 : decode cX7_copies 96 = .ok (.bipush 12, 2) := by decide +kernel
theorem dX7_copies_98 : decode cX7_copies 98 = .ok (.iload_n 2, 1) := by decide +kernel
theorem dX7_copies_99 : decode cX7_copies 99 = .ok (.imul, 1) := by decide +kernel
theorem dX7_copies_100 : decode cX7_copies 100 = .ok (.iload_n 3, 1) := by decide +kernel
theorem dX7_copies_101 : decode cX7_copies 101 = .ok (.iadd, 1) := by decide +kernel
theorem dX7_copies_102 : decode cX7_copies 102 = .ok (.aload_n 0, 1) := by decide +kernel
theorem dX7_copies_103 : decode cX7_copies 103 = .ok (.getfield 119, 3) := by decide +kernel
theorem dX7_copies_106 : decode cX7_copies 106 = .ok (.bipush 12, 2) := by decide +kernel
theorem dX7_copies_108 : decode cX7_copies 108 = .ok (.iload_n 1, 1) := by decide +kernel
theorem dX7_copies_109 : decode cX7_copies 109 = .ok (.imul, 1) := by decide +kernel
theorem dX7_copies_110 : decode cX7_copies 110 = .ok (.iload_n 3, 1) := by decide +kernel
theorem dX7_copies_111 : decode cX7_copies 111 = .ok (.iadd, 1) := by decide +kernel
theorem dX7_copies_112 : decode cX7_copies 112 = .ok (.iaload, 1) := by decide +kernel
theorem dX7_copies_113 : decode cX7_copies 113 = .ok (.iastore, 1) := by decide +kernel
theorem dX7_copies_114 : decode cX7_copies 114 = .ok (.aload_n 0, 1) := by decide +kernel
theorem dX7_copies_115 : decode cX7_copies 115 = .ok (.getfield 122, 3) := by decide +kernel
theorem dX7_copies_118 : decode cX7_copies 118 = .ok (.bipush 12, 2) := by decide +kernel
theorem dX7_copies_120 : decode cX7_copies 120 = .ok (.iload_n 2, 1) := by decide +kernel
theorem dX7_copies_121 : decode cX7_copies 121 = .ok (.imul, 1) := by decide +kernel
theorem dX7_copies_122 : decode cX7_copies 122 = .ok (.iload_n 3, 1) := by decide +kernel
theorem dX7_copies_123 : decode cX7_copies 123 = .ok (.iadd, 1) := by decide +kernel
theorem dX7_copies_124 : decode cX7_copies 124 = .ok (.aload_n 0, 1) := by decide +kernel
theorem dX7_copies_125 : decode cX7_copies 125 = .ok (.getfield 122, 3) := by decide +kernel
theorem dX7_copies_128 : decode cX7_copies 128 = .ok (.bipush 12, 2) := by decide +kernel
theorem dX7_copies_130 : decode cX7_copies 130 = .ok (.iload_n 1, 1) := by decide +kernel
theorem dX7_copies_131 : decode cX7_copies 131 = .ok (.imul, 1) := by decide +kernel
theorem dX7_copies_132 : decode cX7_copies 132 = .ok (.iload_n 3, 1) := by decide +kernel
theorem dX7_copies_133 : decode cX7_copies 133 = .ok (.iadd, 1) := by decide +kernel
theorem dX7_copies_134 : decode cX7_copies 134 = .ok (.iaload, 1) := by decide +kernel
theorem dX7_copies_135 : decode cX7_copies 135 = .ok (.iastore, 1) := by decide +kernel
theorem dX7_copies_136 : decode cX7_copies 136 = .ok (.aload_n 0, 1) := by decide +kernel
theorem dX7_copies_137 : decode cX7_copies 137 = .ok (.getfield 125, 3) := by decide +kernel
theorem dX7_copies_140 : decode cX7_copies 140 = .ok (.bipush 12, 2) := by decide +kernel
theorem dX7_copies_142 : decode cX7_copies 142 = .ok (.iload_n 2, 1) := by decide +kernel
theorem dX7_copies_143 : decode cX7_copies 143 = .ok (.imul, 1) := by decide +kernel
theorem dX7_copies_144 : decode cX7_copies 144 = .ok (.iload_n 3, 1) := by decide +kernel
theorem dX7_copies_145 : decode cX7_copies 145 = .ok (.iadd, 1) := by decide +kernel
theorem dX7_copies_146 : decode cX7_copies 146 = .ok (.aload_n 0, 1) := by decide +kernel
theorem dX7_copies_147 : decode cX7_copies 147 = .ok (.getfield 125, 3) := by decide +kernel
theorem dX7_copies_150 : decode cX7_copies 150 = .ok (.bipush 12, 2) := by decide +kernel
theorem dX7_copies_152 : decode cX7_copies 152 = .ok (.iload_n 1, 1) := by decide +kernel
theorem dX7_copies_153 : decode cX7_copies 153 = .ok (.imul, 1) := by decide +kernel
theorem dX7_copies_154 : decode cX7_copies 154 = .ok (.iload_n 3, 1) := by decide +kernel
theorem dX7_copies_155 : decode cX7_copies 155 = .ok (.iadd, 1) := by decide +kernel
theorem dX7_copies_156 : decode cX7_copies 156 = .ok (.iaload, 1) := by decide +kernel
theorem dX7_copies_157 : decode cX7_copies 157 = .ok (.iastore, 1) := by decide +kernel
theorem dX7_copies_158 : decode cX7_copies 158 = .ok (.iinc 3 1, 3) := by decide +kernel
theorem dX7_copies_161 : decode cX7_copies 161 = .ok (.goto (-75), 3) := by decide +kernel
theorem dX7_copies_164 : decode cX7_copies 164 = .ok (.iconst 0, 1) := by decide +kernel
theorem dX7_copies_165 : decode cX7_copies 165 = .ok (.istore_n 3, 1) := by decide +kernel
theorem dX7_copies_166 : decode cX7_copies 166 = .ok (.iload_n 3, 1) := by decide +kernel
theorem dX7_copies_167 : decode cX7_copies 167 = .ok (.bipush 60, 2) := by decide +kernel
theorem dX7_copies_169 : decode cX7_copies 169 = .ok (.if_icmp .ge 31, 3) := by decide +kernel
theorem dX7_copies_172 : decode cX7_copies 172 = .ok (.aload_n 0, 1) := by decide +kernel
theorem dX7_copies_173 : decode cX7_copies 173 = .ok (.getfield 128, 3) := by decide +kernel
theorem dX7_copies_176 : decode cX7_copies 176 = .ok (.bipush 60, 2) := by decide +kernel
theorem dX7_copies_178 : decode cX7_copies 178 = .ok (.iload_n 2, 1) := by decide +kernel
theorem dX7_copies_179 : decode cX7_copies 179 = .ok (.imul, 1) := by decide +kernel
theorem dX7_copies_180 : decode cX7_copies 180 = .ok (.iload_n 3, 1) := by decide +kernel
theorem dX7_copies_181 : decode cX7_copies 181 = .ok (.iadd, 1) := by decide +kernel
theorem dX7_copies_182 : decode cX7_copies 182 = .ok (.aload_n 0, 1) := by decide +kernel
theorem dX7_copies_183 : decode cX7_copies 183 = .ok (.getfield 128, 3) := by decide +kernel
theorem dX7_copies_186 : decode cX7_copies 186 = .ok (.bipush 60, 2) := by decide +kernel
theorem dX7_copies_188 : decode cX7_copies 188 = .ok (.iload_n 1, 1) := by decide +kernel
theorem dX7_copies_189 : decode cX7_copies 189 = .ok (.imul, 1) := by decide +kernel
theorem dX7_copies_190 : decode cX7_copies 190 = .ok (.iload_n 3, 1) := by decide +kernel
theorem dX7_copies_191 : decode cX7_copies 191 = .ok (.iadd, 1) := by decide +kernel
theorem dX7_copies_192 : decode cX7_copies 192 = .ok (.iaload, 1) := by decide +kernel
theorem dX7_copies_193 : decode cX7_copies 193 = .ok (.iastore, 1) := by decide +kernel
theorem dX7_copies_194 : decode cX7_copies 194 = .ok (.iinc 3 1, 3) := by decide +kernel
theorem dX7_copies_197 : decode cX7_copies 197 = .ok (.goto (-31), 3) := by decide +kernel
theorem dX7_copies_200 : decode cX7_copies 200 = .ok (.iconst 0, 1) := by decide +kernel
theorem dX7_copies_201 : decode cX7_copies 201 = .ok (.istore_n 3, 1) := by decide +kernel
theorem dX7_copies_202 : decode cX7_copies 202 = .ok (.iload_n 3, 1) := by decide +kernel
theorem dX7_copies_203 : decode cX7_copies 203 = .ok (.bipush 30, 2) := by decide +kernel
theorem dX7_copies_205 : decode cX7_copies 205 = .ok (.if_icmp .ge 151, 3) := by decide +kernel
theorem dX7_copies_208 : decode cX7_copies 208 = .ok (.bipush 30, 2) := by decide +kernel
theorem dX7_copies_210 : decode cX7_copies 210 = .ok (.iload_n 1, 1) := by decide +kernel
theorem dX7_copies_211 : decode cX7_copies 211 = .ok (.imul, 1) := by decide +kernel
theorem dX7_copies_212 : decode cX7_copies 212 = .ok (.iload_n 3, 1) := by decide +kernel
theorem dX7_copies_213 : decode cX7_copies 213 = .ok (.iadd, 1) := by decide +kernel
theorem dX7_copies_214 : decode cX7_copies 214 = .ok (.istore 4, 2) := by decide +kernel
theorem dX7_copies_216 : decode cX7_copies 216 = .ok (.bipush 30, 2) := by decide +kernel
theorem dX7_copies_218 : decode cX7_copies 218 = .ok (.iload_n 2, 1) := by decide +kernel
theorem dX7_copies_219 : decode cX7_copies 219 = .ok (.imul, 1) := by decide +kernel
theorem dX7_copies_220 : decode cX7_copies 220 = .ok (.iload_n 3, 1) := by decide +kernel
theorem dX7_copies_221 : decode cX7_copies 221 = .ok (.iadd, 1) := by decide +kernel
theorem dX7_copies_222 : decode cX7_copies 222 = .ok (.istore 5, 2) := by decide +kernel
theorem dX7_copies_224 : decode cX7_copies 224 = .ok (.aload_n 0, 1) := by decide +kernel
theorem dX7_copies_225 : decode cX7_copies 225 = .ok (.getfield 149, 3) := by decide +kernel
theorem dX7_copies_228 : decode cX7_copies 228 = .ok (.iload 5, 2) := by decide +kernel
theorem dX7_copies_230 : decode cX7_copies 230 = .ok (.aload_n 0, 1) := by decide +kernel
theorem dX7_copies_231 : decode cX7_copies 231 = .ok (.getfield 149, 3) := by decide +kernel
theorem dX7_copies_234 : decode cX7_copies 234 = .ok (.iload 4, 2) := by decide +kernel
theorem dX7_copies_236 : decode cX7_copies 236 = .ok (.iaload, 1) := by decide +kernel
theorem dX7_copies_237 : decode cX7_copies 237 = .ok (.iastore, 1) := by decide +kernel
theorem dX7_copies_238 : decode cX7_copies 238 = .ok (.aload_n 0, 1) := by decide +kernel
theorem dX7_copies_239 : decode cX7_copies 239 = .ok (.getfield 152, 3) := by decide +kernel
theorem dX7_copies_242 : decode cX7_copies 242 = .ok (.iload 5, 2) := by decide +kernel
theorem dX7_copies_244 : decode cX7_copies 244 = .ok (.aload_n 0, 1) := by decide +kernel
theorem dX7_copies_245 : decode cX7_copies 245 = .ok (.getfield 152, 3) := by decide +kernel
theorem dX7_copies_248 : decode cX7_copies 248 = .ok (.iload 4, 2) := by decide +kernel
theorem dX7_copies_250 : decode cX7_copies 250 = .ok (.iaload, 1) := by decide +kernel
theorem dX7_copies_251 : decode cX7_copies 251 = .ok (.iastore, 1) := by decide +kernel
theorem dX7_copies_252 : decode cX7_copies 252 = .ok (.aload_n 0, 1) := by decide +kernel
theorem dX7_copies_253 : decode cX7_copies 253 = .ok (.getfield 155, 3) := by decide +kernel
theorem dX7_copies_256 : decode cX7_copies 256 = .ok (.iload 5, 2) := by decide +kernel
theorem dX7_copies_258 : decode cX7_copies 258 = .ok (.aload_n 0, 1) := by decide +kernel
theorem dX7_copies_259 : decode cX7_copies 259 = .ok (.getfield 155, 3) := by decide +kernel
theorem dX7_copies_262 : decode cX7_copies 262 = .ok (.iload 4, 2) := by decide +kernel
theorem dX7_copies_264 : decode cX7_copies 264 = .ok (.iaload, 1) := by decide +kernel
theorem dX7_copies_265 : decode cX7_copies 265 = .ok (.iastore, 1) := by decide +kernel
theorem dX7_copies_266 : decode cX7_copies 266 = .ok (.aload_n 0, 1) := by decide +kernel
theorem dX7_copies_267 : decode cX7_copies 267 = .ok (.getfield 158, 3) := by decide +kernel
theorem dX7_copies_270 : decode cX7_copies 270 = .ok (.iload 5, 2) := by decide +kernel
theorem dX7_copies_272 : decode cX7_copies 272 = .ok (.aload_n 0, 1) := by decide +kernel
theorem dX7_copies_273 : decode cX7_copies 273 = .ok (.getfield 158, 3) := by decide +kernel
theorem dX7_copies_276 : decode cX7_copies 276 = .ok (.iload 4, 2) := by decide +kernel
theorem dX7_copies_278 : decode cX7_copies 278 = .ok (.iaload, 1) := by decide +kernel
theorem dX7_copies_279 : decode cX7_copies 279 = .ok (.iastore, 1) := by decide +kernel
theorem dX7_copies_280 : decode cX7_copies 280 = .ok (.aload_n 0, 1) := by decide +kernel
theorem dX7_copies_281 : decode cX7_copies 281 = .ok (.getfield 161, 3) := by decide +kernel
theorem dX7_copies_284 : decode cX7_copies 284 = .ok (.iload 5, 2) := by decide +kernel
theorem dX7_copies_286 : decode cX7_copies 286 = .ok (.aload_n 0, 1) := by decide +kernel
theorem dX7_copies_287 : decode cX7_copies 287 = .ok (.getfield 161, 3) := by decide +kernel
theorem dX7_copies_290 : decode cX7_copies 290 = .ok (.iload 4, 2) := by decide +kernel
theorem dX7_copies_292 : decode cX7_copies 292 = .ok (.iaload, 1) := by decide +kernel
theorem dX7_copies_293 : decode cX7_copies 293 = .ok (.iastore, 1) := by decide +kernel
theorem dX7_copies_294 : decode cX7_copies 294 = .ok (.aload_n 0, 1) := by decide +kernel
theorem dX7_copies_295 : decode cX7_copies 295 = .ok (.getfield 164, 3) := by decide +kernel
theorem dX7_copies_298 : decode cX7_copies 298 = .ok (.iload 5, 2) := by decide +kernel
theorem dX7_copies_300 : decode cX7_copies 300 = .ok (.aload_n 0, 1) := by decide +kernel
theorem dX7_copies_301 : decode cX7_copies 301 = .ok (.getfield 164, 3) := by decide +kernel
theorem dX7_copies_304 : decode cX7_copies 304 = .ok (.iload 4, 2) := by decide +kernel
theorem dX7_copies_306 : decode cX7_copies 306 = .ok (.iaload, 1) := by decide +kernel
theorem dX7_copies_307 : decode cX7_copies 307 = .ok (.iastore, 1) := by decide +kernel
theorem dX7_copies_308 : decode cX7_copies 308 = .ok (.iconst 0, 1) := by decide +kernel
theorem dX7_copies_309 : decode cX7_copies 309 = .ok (.istore 6, 2) := by decide +kernel
theorem dX7_copies_311 : decode cX7_copies 311 = .ok (.iload 6, 2) := by decide +kernel
theorem dX7_copies_313 : decode cX7_copies 313 = .ok (.bipush 12, 2) := by decide +kernel
theorem dX7_copies_315 : decode cX7_copies 315 = .ok (.if_icmp .ge 35, 3) := by decide +kernel
theorem dX7_copies_318 : decode cX7_copies 318 = .ok (.aload_n 0, 1) := by decide +kernel
theorem dX7_copies_319 : decode cX7_copies 319 = .ok (.getfield 167, 3) := by decide +kernel
theorem dX7_copies_322 : decode cX7_copies 322 = .ok (.bipush 12, 2) := by decide +kernel
theorem dX7_copies_324 : decode cX7_copies 324 = .ok (.iload 5, 2) := by decide +kernel
theorem dX7_copies_326 : decode cX7_copies 326 = .ok (.imul, 1) := by decide +kernel
theorem dX7_copies_327 : decode cX7_copies 327 = .ok (.iload 6, 2) := by decide +kernel
theorem dX7_copies_329 : decode cX7_copies 329 = .ok (.iadd, 1) := by decide +kernel
theorem dX7_copies_330 : decode cX7_copies 330 = .ok (.aload_n 0, 1) := by decide +kernel
theorem dX7_copies_331 : decode cX7_copies 331 = .ok (.getfield 167, 3) := by decide +kernel
theorem dX7_copies_334 : decode cX7_copies 334 = .ok (.bipush 12, 2) := by decide +kernel
theorem dX7_copies_336 : decode cX7_copies 336 = .ok (.iload 4, 2) := by decide +kernel
theorem dX7_copies_338 : decode cX7_copies 338 = .ok (.imul, 1) := by decide +kernel
theorem dX7_copies_339 : decode cX7_copies 339 = .ok (.iload 6, 2) := by decide +kernel
theorem dX7_copies_341 : decode cX7_copies 341 = .ok (.iadd, 1) := by decide +kernel
theorem dX7_copies_342 : decode cX7_copies 342 = .ok (.iaload, 1) := by decide +kernel
theorem dX7_copies_343 : decode cX7_copies 343 = .ok (.iastore, 1) := by decide +kernel
theorem dX7_copies_344 : decode cX7_copies 344 = .ok (.iinc 6 1, 3) := by decide +kernel
theorem dX7_copies_347 : decode cX7_copies 347 = .ok (.goto (-36), 3) := by decide +kernel
theorem dX7_copies_350 : decode cX7_copies 350 = .ok (.iinc 3 1, 3) := by decide +kernel
theorem dX7_copies_353 : decode cX7_copies 353 = .ok (.goto (-151), 3) := by decide +kernel
theorem dX7_copies_356 : decode cX7_copies 356 = .ok (.return_, 1) := by decide +kernel
theorem dX7_rings_0 : decode cX7_rings 0 = .ok (.aload_n 0, 1) := by decide +kernel
theorem dX7_rings_1 : decode cX7_rings 1 = .ok (.iconst 0, 1) := by decide +kernel
theorem dX7_rings_2 : decode cX7_rings 2 = .ok (.putfield 1, 3) := by decide +kernel
theorem dX7_rings_5 : decode cX7_rings 5 = .ok (.aload_n 0, 1) := by decide +kernel
theorem dX7_rings_6 : decode cX7_rings 6 = .ok (.getfield 137, 3) := by decide +kernel
theorem dX7_rings_9 : decode cX7_rings 9 = .ok (.iconst 0, 1) := by decide +kernel
theorem dX7_rings_10 : decode cX7_rings 10 = .ok (.iaload, 1) := by decide +kernel
theorem dX7_rings_11 : decode cX7_rings 11 = .ok (.ifCond .gt 13, 3) := by decide +kernel
theorem dX7_rings_14 : decode cX7_rings 14 = .ok (.iload_n 1, 1) := by decide +kernel
theorem dX7_rings_15 : decode cX7_rings 15 = .ok (.iconst 2, 1) := by decide +kernel
theorem dX7_rings_16 : decode cX7_rings 16 = .ok (.bipush 12, 2) := by decide +kernel
theorem dX7_rings_18 : decode cX7_rings 18 = .ok (.invokestatic 301, 3) := by decide +kernel
theorem dX7_rings_21 : decode cX7_rings 21 = .ok (.ifCond .ne 5, 3) := by decide +kernel
theorem dX7_rings_24 : decode cX7_rings 24 = .ok (.iconst 0, 1) := by decide +kernel
theorem dX7_rings_25 : decode cX7_rings 25 = .ok (.ireturn, 1) := by decide +kernel
theorem dX7_rings_26 : decode cX7_rings 26 = .ok (.aload_n 0, 1) := by decide +kernel
theorem dX7_rings_27 : decode cX7_rings 27 = .ok (.iload_n 1, 1) := by decide +kernel
theorem dX7_rings_28 : decode cX7_rings 28 = .ok (.invokevirtual 186, 3) := by decide +kernel
theorem dX7_rings_31 : decode cX7_rings 31 = .ok (.iconst 1, 1) := by decide +kernel
theorem dX7_rings_32 : decode cX7_rings 32 = .ok (.ireturn, 1) := by decide +kernel
theorem dX7_isRing_0 : decode cX7_isRing 0 = .ok (.iload_n 1, 1) := by decide +kernel
theorem dX7_isRing_1 : decode cX7_isRing 1 = .ok (.ifCond .lt 17, 3) := by decide +kernel
theorem dX7_isRing_4 : decode cX7_isRing 4 = .ok (.iload_n 1, 1) := by decide +kernel
theorem dX7_isRing_5 : decode cX7_isRing 5 = .ok (.aload_n 0, 1) := by decide +kernel
theorem dX7_isRing_6 : decode cX7_isRing 6 = .ok (.getfield 116, 3) := by decide +kernel
theorem dX7_isRing_9 : decode cX7_isRing 9 = .ok (.iconst 0, 1) := by decide +kernel
theorem dX7_isRing_10 : decode cX7_isRing 10 = .ok (.iaload, 1) := by decide +kernel
theorem dX7_isRing_11 : decode cX7_isRing 11 = .ok (.if_icmp .ge 7, 3) := by decide +kernel
theorem dX7_isRing_14 : decode cX7_isRing 14 = .ok (.iconst 1, 1) := by decide +kernel
theorem dX7_isRing_15 : decode cX7_isRing 15 = .ok (.goto 4, 3) := by decide +kernel
theorem dX7_isRing_18 : decode cX7_isRing 18 = .ok (.iconst 0, 1) := by decide +kernel
theorem dX7_isRing_19 : decode cX7_isRing 19 = .ok (.ireturn, 1) := by decide +kernel
theorem dX7_ring_0 : decode cX7_ring 0 = .ok (.aload_n 0, 1) := by decide +kernel
theorem dX7_ring_1 : decode cX7_ring 1 = .ok (.iconst 0, 1) := by decide +kernel
theorem dX7_ring_2 : decode cX7_ring 2 = .ok (.putfield 1, 3) := by decide +kernel
theorem dX7_ring_5 : decode cX7_ring 5 = .ok (.aload_n 0, 1) := by decide +kernel
theorem dX7_ring_6 : decode cX7_ring 6 = .ok (.getfield 137, 3) := by decide +kernel
theorem dX7_ring_9 : decode cX7_ring 9 = .ok (.iconst 0, 1) := by decide +kernel
theorem dX7_ring_10 : decode cX7_ring 10 = .ok (.iaload, 1) := by decide +kernel
theorem dX7_ring_11 : decode cX7_ring 11 = .ok (.ifCond .gt 44, 3) := by decide +kernel
theorem dX7_ring_14 : decode cX7_ring 14 = .ok (.aload_n 0, 1) := by decide +kernel
theorem dX7_ring_15 : decode cX7_ring 15 = .ok (.iload_n 1, 1) := by decide +kernel
theorem dX7_ring_16 : decode cX7_ring 16 = .ok (.invokevirtual 305, 3) := by decide +kernel
theorem dX7_ring_19 : decode cX7_ring 19 = .ok (.ifCond .eq 36, 3) := by decide +kernel
theorem dX7_ring_22 : decode cX7_ring 22 = .ok (.iload_n 2, 1) := by decide +kernel
theorem dX7_ring_23 : decode cX7_ring 23 = .ok (.iconst 0, 1) := by decide +kernel
theorem dX7_ring_24 : decode cX7_ring 24 = .ok (.ldc 252, 2) := by decide +kernel
theorem dX7_ring_26 : decode cX7_ring 26 = .ok (.invokestatic 301, 3) := by decide +kernel
theorem dX7_ring_29 : decode cX7_ring 29 = .ok (.ifCond .eq 26, 3) := by decide +kernel
theorem dX7_ring_32 : decode cX7_ring 32 = .ok (.iload_n 3, 1) := by decide +kernel
theorem dX7_ring_33 : decode cX7_ring 33 = .ok (.iconst 0, 1) := by decide +kernel
theorem dX7_ring_34 : decode cX7_ring 34 = .ok (.sipush 999, 3) := by decide +kernel
theorem dX7_ring_37 : decode cX7_ring 37 = .ok (.invokestatic 301, 3) := by decide +kernel
theorem dX7_ring_40 : decode cX7_ring 40 = .ok (.ifCond .eq 15, 3) := by decide +kernel
theorem dX7_ring_43 : decode cX7_ring 43 = .ok (.iload 4, 2) := by decide +kernel
theorem dX7_ring_45 : decode cX7_ring 45 = .ok (.iconst 1, 1) := by decide +kernel
theorem dX7_ring_46 : decode cX7_ring 46 = .ok (.sipush 9999, 3) := by decide +kernel
theorem dX7_ring_49 : decode cX7_ring 49 = .ok (.invokestatic 301, 3) := by decide +kernel
theorem dX7_ring_52 : decode cX7_ring 52 = .ok (.ifCond .ne 5, 3) := by decide +kernel
theorem dX7_ring_55 : decode cX7_ring 55 = .ok (.iconst 0, 1) := by decide +kernel
theorem dX7_ring_56 : decode cX7_ring 56 = .ok (.ireturn, 1) := by decide +kernel
theorem dX7_ring_57 : decode cX7_ring 57 = .ok (.aload_n 0, 1) := by decide +kernel
theorem dX7_ring_58 : decode cX7_ring 58 = .ok (.getfield 119, 3) := by decide +kernel
theorem dX7_ring_61 : decode cX7_ring 61 = .ok (.iload_n 1, 1) := by decide +kernel
theorem dX7_ring_62 : decode cX7_ring 62 = .ok (.iload_n 2, 1) := by decide +kernel
theorem dX7_ring_63 : decode cX7_ring 63 = .ok (.iastore, 1) := by decide +kernel
theorem dX7_ring_64 : decode cX7_ring 64 = .ok (.aload_n 0, 1) := by decide +kernel
theorem dX7_ring_65 : decode cX7_ring 65 = .ok (.getfield 122, 3) := by decide +kernel
theorem dX7_ring_68 : decode cX7_ring 68 = .ok (.iload_n 1, 1) := by decide +kernel
theorem dX7_ring_69 : decode cX7_ring 69 = .ok (.iload_n 3, 1) := by decide +kernel
theorem dX7_ring_70 : decode cX7_ring 70 = .ok (.iastore, 1) := by decide +kernel
theorem dX7_ring_71 : decode cX7_ring 71 = .ok (.aload_n 0, 1) := by decide +kernel
theorem dX7_ring_72 : decode cX7_ring 72 = .ok (.getfield 125, 3) := by decide +kernel
theorem dX7_ring_75 : decode cX7_ring 75 = .ok (.iload_n 1, 1) := by decide +kernel
theorem dX7_ring_76 : decode cX7_ring 76 = .ok (.iload 4, 2) := by decide +kernel
theorem dX7_ring_78 : decode cX7_ring 78 = .ok (.iastore, 1) := by decide +kernel
theorem dX7_ring_79 : decode cX7_ring 79 = .ok (.iconst 1, 1) := by decide +kernel
theorem dX7_ring_80 : decode cX7_ring 80 = .ok (.ireturn, 1) := by decide +kernel
theorem dX7_dust_0 : decode cX7_dust 0 = .ok (.aload_n 0, 1) := by decide +kernel
theorem dX7_dust_1 : decode cX7_dust 1 = .ok (.iconst 0, 1) := by decide +kernel
theorem dX7_dust_2 : decode cX7_dust 2 = .ok (.putfield 1, 3) := by decide +kernel
theorem dX7_dust_5 : decode cX7_dust 5 = .ok (.aload_n 0, 1) := by decide +kernel
theorem dX7_dust_6 : decode cX7_dust 6 = .ok (.getfield 137, 3) := by decide +kernel
theorem dX7_dust_9 : decode cX7_dust 9 = .ok (.iconst 0, 1) := by decide +kernel
theorem dX7_dust_10 : decode cX7_dust 10 = .ok (.iaload, 1) := by decide +kernel
theorem dX7_dust_11 : decode cX7_dust 11 = .ok (.ifCond .gt 30, 3) := by decide +kernel
theorem dX7_dust_14 : decode cX7_dust 14 = .ok (.aload_n 0, 1) := by decide +kernel
theorem dX7_dust_15 : decode cX7_dust 15 = .ok (.iload_n 1, 1) := by decide +kernel
theorem dX7_dust_16 : decode cX7_dust 16 = .ok (.invokevirtual 305, 3) := by decide +kernel
theorem dX7_dust_19 : decode cX7_dust 19 = .ok (.ifCond .eq 22, 3) := by decide +kernel
theorem dX7_dust_22 : decode cX7_dust 22 = .ok (.iload_n 2, 1) := by decide +kernel
theorem dX7_dust_23 : decode cX7_dust 23 = .ok (.iconst 0, 1) := by decide +kernel
theorem dX7_dust_24 : decode cX7_dust 24 = .ok (.iconst 4, 1) := by decide +kernel
theorem dX7_dust_25 : decode cX7_dust 25 = .ok (.invokestatic 301, 3) := by decide +kernel
theorem dX7_dust_28 : decode cX7_dust 28 = .ok (.ifCond .eq 13, 3) := by decide +kernel
theorem dX7_dust_31 : decode cX7_dust 31 = .ok (.iload_n 3, 1) := by decide +kernel
theorem dX7_dust_32 : decode cX7_dust 32 = .ok (.iconst 0, 1) := by decide +kernel
theorem dX7_dust_33 : decode cX7_dust 33 = .ok (.ldc 252, 2) := by decide +kernel
theorem dX7_dust_35 : decode cX7_dust 35 = .ok (.invokestatic 301, 3) := by decide +kernel
theorem dX7_dust_38 : decode cX7_dust 38 = .ok (.ifCond .ne 5, 3) := by decide +kernel
theorem dX7_dust_41 : decode cX7_dust 41 = .ok (.iconst 0, 1) := by decide +kernel
theorem dX7_dust_42 : decode cX7_dust 42 = .ok (.ireturn, 1) := by decide +kernel
theorem dX7_dust_43 : decode cX7_dust 43 = .ok (.aload_n 0, 1) := by decide +kernel
theorem dX7_dust_44 : decode cX7_dust 44 = .ok (.getfield 128, 3) := by decide +kernel
theorem dX7_dust_47 : decode cX7_dust 47 = .ok (.iconst 5, 1) := by decide +kernel
theorem dX7_dust_48 : decode cX7_dust 48 = .ok (.iload_n 1, 1) := by decide +kernel
theorem dX7_dust_49 : decode cX7_dust 49 = .ok (.imul, 1) := by decide +kernel
theorem dX7_dust_50 : decode cX7_dust 50 = .ok (.iload_n 2, 1) := by decide +kernel
theorem dX7_dust_51 : decode cX7_dust 51 = .ok (.iadd, 1) := by decide +kernel
theorem dX7_dust_52 : decode cX7_dust 52 = .ok (.iload_n 3, 1) := by decide +kernel
theorem dX7_dust_53 : decode cX7_dust 53 = .ok (.iastore, 1) := by decide +kernel
theorem dX7_dust_54 : decode cX7_dust 54 = .ok (.iconst 1, 1) := by decide +kernel
theorem dX7_dust_55 : decode cX7_dust 55 = .ok (.ireturn, 1) := by decide +kernel
theorem dX7_star_0 : decode cX7_star 0 = .ok (.aload_n 0, 1) := by decide +kernel
theorem dX7_star_1 : decode cX7_star 1 = .ok (.iconst 0, 1) := by decide +kernel
theorem dX7_star_2 : decode cX7_star 2 = .ok (.putfield 1, 3) := by decide +kernel
theorem dX7_star_5 : decode cX7_star 5 = .ok (.iload_n 1, 1) := by decide +kernel
theorem dX7_star_6 : decode cX7_star 6 = .ok (.iconst 0, 1) := by decide +kernel
theorem dX7_star_7 : decode cX7_star 7 = .ok (.ldc 252, 2) := by decide +kernel
theorem dX7_star_9 : decode cX7_star 9 = .ok (.invokestatic 301, 3) := by decide +kernel
theorem dX7_star_12 : decode cX7_star 12 = .ok (.ifCond .eq 23, 3) := by decide +kernel
theorem dX7_star_15 : decode cX7_star 15 = .ok (.iload_n 2, 1) := by decide +kernel
theorem dX7_star_16 : decode cX7_star 16 = .ok (.iconst 0, 1) := by decide +kernel
theorem dX7_star_17 : decode cX7_star 17 = .ok (.bipush 20, 2) := by decide +kernel
theorem dX7_star_19 : decode cX7_star 19 = .ok (.invokestatic 301, 3) := by decide +kernel
theorem dX7_star_22 : decode cX7_star 22 = .ok (.ifCond .eq 13, 3) := by decide +kernel
theorem dX7_star_25 : decode cX7_star 25 = .ok (.iload_n 3, 1) := by decide +kernel
theorem dX7_star_26 : decode cX7_star 26 = .ok (.iconst 1, 1) := by decide +kernel
theorem dX7_star_27 : decode cX7_star 27 = .ok (.bipush 101, 2) := by decide +kernel
theorem dX7_star_29 : decode cX7_star 29 = .ok (.invokestatic 301, 3) := by decide +kernel
theorem dX7_star_32 : decode cX7_star 32 = .ok (.ifCond .ne 5, 3) := by decide +kernel
theorem dX7_star_35 : decode cX7_star 35 = .ok (.iconst 0, 1) := by decide +kernel
theorem dX7_star_36 : decode cX7_star 36 = .ok (.ireturn, 1) := by decide +kernel
theorem dX7_star_37 : decode cX7_star 37 = .ok (.aload_n 0, 1) := by decide +kernel
theorem dX7_star_38 : decode cX7_star 38 = .ok (.getfield 131, 3) := by decide +kernel
theorem dX7_star_41 : decode cX7_star 41 = .ok (.iconst 0, 1) := by decide +kernel
theorem dX7_star_42 : decode cX7_star 42 = .ok (.iload_n 1, 1) := by decide +kernel
theorem dX7_star_43 : decode cX7_star 43 = .ok (.iastore, 1) := by decide +kernel
theorem dX7_star_44 : decode cX7_star 44 = .ok (.aload_n 0, 1) := by decide +kernel
theorem dX7_star_45 : decode cX7_star 45 = .ok (.iload_n 2, 1) := by decide +kernel
theorem dX7_star_46 : decode cX7_star 46 = .ok (.putfield 308, 3) := by decide +kernel
theorem dX7_star_49 : decode cX7_star 49 = .ok (.aload_n 0, 1) := by decide +kernel
theorem dX7_star_50 : decode cX7_star 50 = .ok (.iload_n 3, 1) := by decide +kernel
theorem dX7_star_51 : decode cX7_star 51 = .ok (.putfield 190, 3) := by decide +kernel
theorem dX7_star_54 : decode cX7_star 54 = .ok (.iconst 1, 1) := by decide +kernel
theorem dX7_star_55 : decode cX7_star 55 = .ok (.ireturn, 1) := by decide +kernel
theorem dX7_seed_0 : decode cX7_seed 0 = .ok (.aload_n 0, 1) := by decide +kernel
theorem dX7_seed_1 : decode cX7_seed 1 = .ok (.iconst 0, 1) := by decide +kernel
theorem dX7_seed_2 : decode cX7_seed 2 = .ok (.putfield 1, 3) := by decide +kernel
theorem dX7_seed_5 : decode cX7_seed 5 = .ok (.iload_n 1, 1) := by decide +kernel
theorem dX7_seed_6 : decode cX7_seed 6 = .ok (.ifCond .ge 5, 3) := by decide +kernel
theorem dX7_seed_9 : decode cX7_seed 9 = .ok (.iconst 0, 1) := by decide +kernel
theorem dX7_seed_10 : decode cX7_seed 10 = .ok (.ireturn, 1) := by decide +kernel
theorem dX7_seed_11 : decode cX7_seed 11 = .ok (.aload_n 0, 1) := by decide +kernel
theorem dX7_seed_12 : decode cX7_seed 12 = .ok (.getfield 134, 3) := by decide +kernel
theorem dX7_seed_15 : decode cX7_seed 15 = .ok (.iconst 0, 1) := by decide +kernel
theorem dX7_seed_16 : decode cX7_seed 16 = .ok (.iload_n 1, 1) := by decide +kernel
theorem dX7_seed_17 : decode cX7_seed 17 = .ok (.iastore, 1) := by decide +kernel
theorem dX7_seed_18 : decode cX7_seed 18 = .ok (.iconst 1, 1) := by decide +kernel
theorem dX7_seed_19 : decode cX7_seed 19 = .ok (.ireturn, 1) := by decide +kernel
theorem dX7_end_0 : decode cX7_end 0 = .ok (.aload_n 0, 1) := by decide +kernel
theorem dX7_end_1 : decode cX7_end 1 = .ok (.iconst 0, 1) := by decide +kernel
theorem dX7_end_2 : decode cX7_end 2 = .ok (.putfield 1, 3) := by decide +kernel
theorem dX7_end_5 : decode cX7_end 5 = .ok (.aload_n 0, 1) := by decide +kernel
theorem dX7_end_6 : decode cX7_end 6 = .ok (.iload_n 1, 1) := by decide +kernel
theorem dX7_end_7 : decode cX7_end 7 = .ok (.invokevirtual 311, 3) := by decide +kernel
theorem dX7_end_10 : decode cX7_end 10 = .ok (.ifCond .ne 5, 3) := by decide +kernel
theorem dX7_end_13 : decode cX7_end 13 = .ok (.iconst 0, 1) := by decide +kernel
theorem dX7_end_14 : decode cX7_end 14 = .ok (.ireturn, 1) := by decide +kernel
theorem dX7_end_15 : decode cX7_end 15 = .ok (.aload_n 0, 1) := by decide +kernel
theorem dX7_end_16 : decode cX7_end 16 = .ok (.iload_n 1, 1) := by decide +kernel
theorem dX7_end_17 : decode cX7_end 17 = .ok (.putfield 249, 3) := by decide +kernel
theorem dX7_end_20 : decode cX7_end 20 = .ok (.iconst 1, 1) := by decide +kernel
theorem dX7_end_21 : decode cX7_end 21 = .ok (.ireturn, 1) := by decide +kernel
theorem dX7_isEnd_0 : decode cX7_isEnd 0 = .ok (.iload_n 1, 1) := by decide +kernel
theorem dX7_isEnd_1 : decode cX7_isEnd 1 = .ok (.ifCond .lt 22, 3) := by decide +kernel
theorem dX7_isEnd_4 : decode cX7_isEnd 4 = .ok (.iload_n 1, 1) := by decide +kernel
theorem dX7_isEnd_5 : decode cX7_isEnd 5 = .ok (.iconst 1, 1) := by decide +kernel
theorem dX7_isEnd_6 : decode cX7_isEnd 6 = .ok (.aload_n 0, 1) := by decide +kernel
theorem dX7_isEnd_7 : decode cX7_isEnd 7 = .ok (.getfield 101, 3) := by decide +kernel
theorem dX7_isEnd_10 : decode cX7_isEnd 10 = .ok (.aload_n 0, 1) := by decide +kernel
theorem dX7_isEnd_11 : decode cX7_isEnd 11 = .ok (.getfield 243, 3) := by decide +kernel
theorem dX7_isEnd_14 : decode cX7_isEnd 14 = .ok (.iaload, 1) := by decide +kernel
theorem dX7_isEnd_15 : decode cX7_isEnd 15 = .ok (.ishl, 1) := by decide +kernel
theorem dX7_isEnd_16 : decode cX7_isEnd 16 = .ok (.if_icmp .ge 7, 3) := by decide +kernel
theorem dX7_isEnd_19 : decode cX7_isEnd 19 = .ok (.iconst 1, 1) := by decide +kernel
theorem dX7_isEnd_20 : decode cX7_isEnd 20 = .ok (.goto 4, 3) := by decide +kernel
theorem dX7_isEnd_23 : decode cX7_isEnd 23 = .ok (.iconst 0, 1) := by decide +kernel
theorem dX7_isEnd_24 : decode cX7_isEnd 24 = .ok (.ireturn, 1) := by decide +kernel
theorem dX7_allDust_0 : decode cX7_allDust 0 = .ok (.iconst 0, 1) := by decide +kernel
theorem dX7_allDust_1 : decode cX7_allDust 1 = .ok (.istore_n 3, 1) := by decide +kernel
theorem dX7_allDust_2 : decode cX7_allDust 2 = .ok (.iconst 0, 1) := by decide +kernel
theorem dX7_allDust_3 : decode cX7_allDust 3 = .ok (.istore 4, 2) := by decide +kernel
theorem dX7_allDust_5 : decode cX7_allDust 5 = .ok (.iload 4, 2) := by decide +kernel
theorem dX7_allDust_7 : decode cX7_allDust 7 = .ok (.iconst 5, 1) := by decide +kernel
theorem dX7_allDust_8 : decode cX7_allDust 8 = .ok (.if_icmp .ge 28, 3) := by decide +kernel
theorem dX7_allDust_11 : decode cX7_allDust 11 = .ok (.iload_n 3, 1) := by decide +kernel
theorem dX7_allDust_12 : decode cX7_allDust 12 = .ok (.aload_n 0, 1) := by decide +kernel
theorem dX7_allDust_13 : decode cX7_allDust 13 = .ok (.getfield 128, 3) := by decide +kernel
theorem dX7_allDust_16 : decode cX7_allDust 16 = .ok (.bipush 60, 2) := by decide +kernel
theorem dX7_allDust_18 : decode cX7_allDust 18 = .ok (.iload_n 1, 1) := by decide +kernel
theorem dX7_allDust_19 : decode cX7_allDust 19 = .ok (.imul, 1) := by decide +kernel
theorem dX7_allDust_20 : decode cX7_allDust 20 = .ok (.iconst 5, 1) := by decide +kernel
theorem dX7_allDust_21 : decode cX7_allDust 21 = .ok (.iload_n 2, 1) := by decide +kernel
theorem dX7_allDust_22 : decode cX7_allDust 22 = .ok (.imul, 1) := by decide +kernel
theorem dX7_allDust_23 : decode cX7_allDust 23 = .ok (.iadd, 1) := by decide +kernel
theorem dX7_allDust_24 : decode cX7_allDust 24 = .ok (.iload 4, 2) := by decide +kernel
theorem dX7_allDust_26 : decode cX7_allDust 26 = .ok (.iadd, 1) := by decide +kernel
theorem dX7_allDust_27 : decode cX7_allDust 27 = .ok (.iaload, 1) := by decide +kernel
theorem dX7_allDust_28 : decode cX7_allDust 28 = .ok (.iadd, 1) := by decide +kernel
theorem dX7_allDust_29 : decode cX7_allDust 29 = .ok (.istore_n 3, 1) := by decide +kernel
theorem dX7_allDust_30 : decode cX7_allDust 30 = .ok (.iinc 4 1, 3) := by decide +kernel
theorem dX7_allDust_33 : decode cX7_allDust 33 = .ok (.goto (-28), 3) := by decide +kernel
theorem dX7_allDust_36 : decode cX7_allDust 36 = .ok (.iload_n 3, 1) := by decide +kernel
theorem dX7_allDust_37 : decode cX7_allDust 37 = .ok (.ireturn, 1) := by decide +kernel
theorem dX7_there_0 : decode cX7_there 0 = .ok (.iconst 0, 1) := by decide +kernel
theorem dX7_there_1 : decode cX7_there 1 = .ok (.istore_n 2, 1) := by decide +kernel
theorem dX7_there_2 : decode cX7_there 2 = .ok (.iconst 0, 1) := by decide +kernel
theorem dX7_there_3 : decode cX7_there 3 = .ok (.istore_n 3, 1) := by decide +kernel
theorem dX7_there_4 : decode cX7_there 4 = .ok (.iload_n 3, 1) := by decide +kernel
theorem dX7_there_5 : decode cX7_there 5 = .ok (.aload_n 0, 1) := by decide +kernel
theorem dX7_there_6 : decode cX7_there 6 = .ok (.getfield 146, 3) := by decide +kernel
theorem dX7_there_9 : decode cX7_there 9 = .ok (.iload_n 1, 1) := by decide +kernel
theorem dX7_there_10 : decode cX7_there 10 = .ok (.iaload, 1) := by decide +kernel
theorem dX7_there_11 : decode cX7_there 11 = .ok (.if_icmp .ge 31, 3) := by decide +kernel
theorem dX7_there_14 : decode cX7_there 14 = .ok (.iload_n 2, 1) := by decide +kernel
theorem dX7_there_15 : decode cX7_there 15 = .ok (.aload_n 0, 1) := by decide +kernel
theorem dX7_there_16 : decode cX7_there 16 = .ok (.getfield 149, 3) := by decide +kernel
theorem dX7_there_19 : decode cX7_there 19 = .ok (.bipush 30, 2) := by decide +kernel
theorem dX7_there_21 : decode cX7_there 21 = .ok (.iload_n 1, 1) := by decide +kernel
theorem dX7_there_22 : decode cX7_there 22 = .ok (.imul, 1) := by decide +kernel
theorem dX7_there_23 : decode cX7_there 23 = .ok (.iload_n 3, 1) := by decide +kernel
theorem dX7_there_24 : decode cX7_there 24 = .ok (.iadd, 1) := by decide +kernel
theorem dX7_there_25 : decode cX7_there 25 = .ok (.iaload, 1) := by decide +kernel
theorem dX7_there_26 : decode cX7_there 26 = .ok (.ifCond .ne 7, 3) := by decide +kernel
theorem dX7_there_29 : decode cX7_there 29 = .ok (.iconst 1, 1) := by decide +kernel
theorem dX7_there_30 : decode cX7_there 30 = .ok (.goto 4, 3) := by decide +kernel
theorem dX7_there_33 : decode cX7_there 33 = .ok (.iconst 0, 1) := by decide +kernel
theorem dX7_there_34 : decode cX7_there 34 = .ok (.iadd, 1) := by decide +kernel
theorem dX7_there_35 : decode cX7_there 35 = .ok (.istore_n 2, 1) := by decide +kernel
theorem dX7_there_36 : decode cX7_there 36 = .ok (.iinc 3 1, 3) := by decide +kernel
theorem dX7_there_39 : decode cX7_there 39 = .ok (.goto (-35), 3) := by decide +kernel
theorem dX7_there_42 : decode cX7_there 42 = .ok (.iload_n 2, 1) := by decide +kernel
theorem dX7_there_43 : decode cX7_there 43 = .ok (.ireturn, 1) := by decide +kernel
theorem dX7_knowsRing_0 : decode cX7_knowsRing 0 = .ok (.aload_n 0, 1) := by decide +kernel
theorem dX7_knowsRing_1 : decode cX7_knowsRing 1 = .ok (.getfield 110, 3) := by decide +kernel
theorem dX7_knowsRing_4 : decode cX7_knowsRing 4 = .ok (.iconst 0, 1) := by decide +kernel
theorem dX7_knowsRing_5 : decode cX7_knowsRing 5 = .ok (.iload_n 2, 1) := by decide +kernel
theorem dX7_knowsRing_6 : decode cX7_knowsRing 6 = .ok (.iastore, 1) := by decide +kernel
theorem dX7_knowsRing_7 : decode cX7_knowsRing 7 = .ok (.aload_n 0, 1) := by decide +kernel
theorem dX7_knowsRing_8 : decode cX7_knowsRing 8 = .ok (.getfield 110, 3) := by decide +kernel
theorem dX7_knowsRing_11 : decode cX7_knowsRing 11 = .ok (.iconst 1, 1) := by decide +kernel
theorem dX7_knowsRing_12 : decode cX7_knowsRing 12 = .ok (.iconst 0, 1) := by decide +kernel
theorem dX7_knowsRing_13 : decode cX7_knowsRing 13 = .ok (.iastore, 1) := by decide +kernel
theorem dX7_knowsRing_14 : decode cX7_knowsRing 14 = .ok (.aload_n 0, 1) := by decide +kernel
theorem dX7_knowsRing_15 : decode cX7_knowsRing 15 = .ok (.getfield 110, 3) := by decide +kernel
theorem dX7_knowsRing_18 : decode cX7_knowsRing 18 = .ok (.iconst 2, 1) := by decide +kernel
theorem dX7_knowsRing_19 : decode cX7_knowsRing 19 = .ok (.aload_n 0, 1) := by decide +kernel
theorem dX7_knowsRing_20 : decode cX7_knowsRing 20 = .ok (.getfield 119, 3) := by decide +kernel
theorem dX7_knowsRing_23 : decode cX7_knowsRing 23 = .ok (.bipush 12, 2) := by decide +kernel
theorem dX7_knowsRing_25 : decode cX7_knowsRing 25 = .ok (.iload_n 1, 1) := by decide +kernel
theorem dX7_knowsRing_26 : decode cX7_knowsRing 26 = .ok (.imul, 1) := by decide +kernel
theorem dX7_knowsRing_27 : decode cX7_knowsRing 27 = .ok (.iload_n 2, 1) := by decide +kernel
theorem dX7_knowsRing_28 : decode cX7_knowsRing 28 = .ok (.iadd, 1) := by decide +kernel
theorem dX7_knowsRing_29 : decode cX7_knowsRing 29 = .ok (.iaload, 1) := by decide +kernel
theorem dX7_knowsRing_30 : decode cX7_knowsRing 30 = .ok (.iastore, 1) := by decide +kernel
theorem dX7_knowsRing_31 : decode cX7_knowsRing 31 = .ok (.aload_n 0, 1) := by decide +kernel
theorem dX7_knowsRing_32 : decode cX7_knowsRing 32 = .ok (.getfield 110, 3) := by decide +kernel
theorem dX7_knowsRing_35 : decode cX7_knowsRing 35 = .ok (.iconst 3, 1) := by decide +kernel
theorem dX7_knowsRing_36 : decode cX7_knowsRing 36 = .ok (.aload_n 0, 1) := by decide +kernel
theorem dX7_knowsRing_37 : decode cX7_knowsRing 37 = .ok (.getfield 122, 3) := by decide +kernel
theorem dX7_knowsRing_40 : decode cX7_knowsRing 40 = .ok (.bipush 12, 2) := by decide +kernel
end
section
theorem dX7_knowsRing_42 : decode cX7_knowsRing 42 = .ok (.iload_n 1, 1) := by decide +kernel
theorem dX7_knowsRing_43 : decode cX7_knowsRing 43 = .ok (.imul, 1) := by decide +kernel
theorem dX7_knowsRing_44 : decode cX7_knowsRing 44 = .ok (.iload_n 2, 1) := by decide +kernel
theorem dX7_knowsRing_45 : decode cX7_knowsRing 45 = .ok (.iadd, 1) := by decide +kernel
theorem dX7_knowsRing_46 : decode cX7_knowsRing 46 = .ok (.iaload, 1) := by decide +kernel
theorem dX7_knowsRing_47 : decode cX7_knowsRing 47 = .ok (.iastore, 1) := by decide +kernel
theorem dX7_knowsRing_48 : decode cX7_knowsRing 48 = .ok (.aload_n 0, 1) := by decide +kernel
theorem dX7_knowsRing_49 : decode cX7_knowsRing 49 = .ok (.getfield 110, 3) := by decide +kernel
theorem dX7_knowsRing_52 : decode cX7_knowsRing 52 = .ok (.iconst 4, 1) := by decide +kernel
theorem dX7_knowsRing_53 : decode cX7_knowsRing 53 = .ok (.iconst 0, 1) := by decide +kernel
theorem dX7_knowsRing_54 : decode cX7_knowsRing 54 = .ok (.iastore, 1) := by decide +kernel
theorem dX7_knowsRing_55 : decode cX7_knowsRing 55 = .ok (.aload_n 0, 1) := by decide +kernel
theorem dX7_knowsRing_56 : decode cX7_knowsRing 56 = .ok (.getfield 110, 3) := by decide +kernel
theorem dX7_knowsRing_59 : decode cX7_knowsRing 59 = .ok (.iconst 5, 1) := by decide +kernel
theorem dX7_knowsRing_60 : decode cX7_knowsRing 60 = .ok (.aload_n 0, 1) := by decide +kernel
theorem dX7_knowsRing_61 : decode cX7_knowsRing 61 = .ok (.iload_n 1, 1) := by decide +kernel
theorem dX7_knowsRing_62 : decode cX7_knowsRing 62 = .ok (.iload_n 2, 1) := by decide +kernel
theorem dX7_knowsRing_63 : decode cX7_knowsRing 63 = .ok (.invokevirtual 314, 3) := by decide +kernel
theorem dX7_knowsRing_66 : decode cX7_knowsRing 66 = .ok (.iastore, 1) := by decide +kernel
theorem dX7_knowsRing_67 : decode cX7_knowsRing 67 = .ok (.aload_n 0, 1) := by decide +kernel
theorem dX7_knowsRing_68 : decode cX7_knowsRing 68 = .ok (.getfield 110, 3) := by decide +kernel
theorem dX7_knowsRing_71 : decode cX7_knowsRing 71 = .ok (.bipush 6, 2) := by decide +kernel
theorem dX7_knowsRing_73 : decode cX7_knowsRing 73 = .ok (.iconst 0, 1) := by decide +kernel
theorem dX7_knowsRing_74 : decode cX7_knowsRing 74 = .ok (.iastore, 1) := by decide +kernel
theorem dX7_knowsRing_75 : decode cX7_knowsRing 75 = .ok (.aload_n 0, 1) := by decide +kernel
theorem dX7_knowsRing_76 : decode cX7_knowsRing 76 = .ok (.getfield 110, 3) := by decide +kernel
theorem dX7_knowsRing_79 : decode cX7_knowsRing 79 = .ok (.bipush 7, 2) := by decide +kernel
theorem dX7_knowsRing_81 : decode cX7_knowsRing 81 = .ok (.aload_n 0, 1) := by decide +kernel
theorem dX7_knowsRing_82 : decode cX7_knowsRing 82 = .ok (.getfield 137, 3) := by decide +kernel
theorem dX7_knowsRing_85 : decode cX7_knowsRing 85 = .ok (.iload_n 1, 1) := by decide +kernel
theorem dX7_knowsRing_86 : decode cX7_knowsRing 86 = .ok (.iaload, 1) := by decide +kernel
theorem dX7_knowsRing_87 : decode cX7_knowsRing 87 = .ok (.iastore, 1) := by decide +kernel
theorem dX7_knowsRing_88 : decode cX7_knowsRing 88 = .ok (.aload_n 0, 1) := by decide +kernel
theorem dX7_knowsRing_89 : decode cX7_knowsRing 89 = .ok (.getfield 110, 3) := by decide +kernel
theorem dX7_knowsRing_92 : decode cX7_knowsRing 92 = .ok (.bipush 8, 2) := by decide +kernel
theorem dX7_knowsRing_94 : decode cX7_knowsRing 94 = .ok (.aload_n 0, 1) := by decide +kernel
theorem dX7_knowsRing_95 : decode cX7_knowsRing 95 = .ok (.iload_n 1, 1) := by decide +kernel
theorem dX7_knowsRing_96 : decode cX7_knowsRing 96 = .ok (.invokevirtual 317, 3) := by decide +kernel
theorem dX7_knowsRing_99 : decode cX7_knowsRing 99 = .ok (.iastore, 1) := by decide +kernel
theorem dX7_knowsRing_100 : decode cX7_knowsRing 100 = .ok (.return_, 1) := by decide +kernel
theorem dX7_knowsDust_0 : decode cX7_knowsDust 0 = .ok (.aload_n 0, 1) := by decide +kernel
theorem dX7_knowsDust_1 : decode cX7_knowsDust 1 = .ok (.iload_n 1, 1) := by decide +kernel
theorem dX7_knowsDust_2 : decode cX7_knowsDust 2 = .ok (.iload_n 2, 1) := by decide +kernel
theorem dX7_knowsDust_3 : decode cX7_knowsDust 3 = .ok (.invokevirtual 320, 3) := by decide +kernel
theorem dX7_knowsDust_6 : decode cX7_knowsDust 6 = .ok (.aload_n 0, 1) := by decide +kernel
theorem dX7_knowsDust_7 : decode cX7_knowsDust 7 = .ok (.getfield 110, 3) := by decide +kernel
theorem dX7_knowsDust_10 : decode cX7_knowsDust 10 = .ok (.iconst 1, 1) := by decide +kernel
theorem dX7_knowsDust_11 : decode cX7_knowsDust 11 = .ok (.iload_n 3, 1) := by decide +kernel
theorem dX7_knowsDust_12 : decode cX7_knowsDust 12 = .ok (.iastore, 1) := by decide +kernel
theorem dX7_knowsDust_13 : decode cX7_knowsDust 13 = .ok (.aload_n 0, 1) := by decide +kernel
theorem dX7_knowsDust_14 : decode cX7_knowsDust 14 = .ok (.getfield 110, 3) := by decide +kernel
theorem dX7_knowsDust_17 : decode cX7_knowsDust 17 = .ok (.iconst 4, 1) := by decide +kernel
theorem dX7_knowsDust_18 : decode cX7_knowsDust 18 = .ok (.aload_n 0, 1) := by decide +kernel
theorem dX7_knowsDust_19 : decode cX7_knowsDust 19 = .ok (.getfield 128, 3) := by decide +kernel
theorem dX7_knowsDust_22 : decode cX7_knowsDust 22 = .ok (.bipush 60, 2) := by decide +kernel
theorem dX7_knowsDust_24 : decode cX7_knowsDust 24 = .ok (.iload_n 1, 1) := by decide +kernel
theorem dX7_knowsDust_25 : decode cX7_knowsDust 25 = .ok (.imul, 1) := by decide +kernel
theorem dX7_knowsDust_26 : decode cX7_knowsDust 26 = .ok (.iconst 5, 1) := by decide +kernel
theorem dX7_knowsDust_27 : decode cX7_knowsDust 27 = .ok (.iload_n 2, 1) := by decide +kernel
theorem dX7_knowsDust_28 : decode cX7_knowsDust 28 = .ok (.imul, 1) := by decide +kernel
theorem dX7_knowsDust_29 : decode cX7_knowsDust 29 = .ok (.iadd, 1) := by decide +kernel
theorem dX7_knowsDust_30 : decode cX7_knowsDust 30 = .ok (.iload_n 3, 1) := by decide +kernel
theorem dX7_knowsDust_31 : decode cX7_knowsDust 31 = .ok (.iadd, 1) := by decide +kernel
theorem dX7_knowsDust_32 : decode cX7_knowsDust 32 = .ok (.iaload, 1) := by decide +kernel
theorem dX7_knowsDust_33 : decode cX7_knowsDust 33 = .ok (.iastore, 1) := by decide +kernel
theorem dX7_knowsDust_34 : decode cX7_knowsDust 34 = .ok (.return_, 1) := by decide +kernel
theorem dX7_dustOf_0 : decode cX7_dustOf 0 = .ok (.iconst 0, 1) := by decide +kernel
theorem dX7_dustOf_1 : decode cX7_dustOf 1 = .ok (.istore_n 3, 1) := by decide +kernel
theorem dX7_dustOf_2 : decode cX7_dustOf 2 = .ok (.iconst 0, 1) := by decide +kernel
theorem dX7_dustOf_3 : decode cX7_dustOf 3 = .ok (.istore 4, 2) := by decide +kernel
theorem dX7_dustOf_5 : decode cX7_dustOf 5 = .ok (.iload 4, 2) := by decide +kernel
theorem dX7_dustOf_7 : decode cX7_dustOf 7 = .ok (.bipush 12, 2) := by decide +kernel
theorem dX7_dustOf_9 : decode cX7_dustOf 9 = .ok (.if_icmp .ge 29, 3) := by decide +kernel
theorem dX7_dustOf_12 : decode cX7_dustOf 12 = .ok (.iload_n 3, 1) := by decide +kernel
theorem dX7_dustOf_13 : decode cX7_dustOf 13 = .ok (.aload_n 0, 1) := by decide +kernel
theorem dX7_dustOf_14 : decode cX7_dustOf 14 = .ok (.getfield 167, 3) := by decide +kernel
theorem dX7_dustOf_17 : decode cX7_dustOf 17 = .ok (.bipush 12, 2) := by decide +kernel
theorem dX7_dustOf_19 : decode cX7_dustOf 19 = .ok (.bipush 30, 2) := by decide +kernel
theorem dX7_dustOf_21 : decode cX7_dustOf 21 = .ok (.iload_n 1, 1) := by decide +kernel
theorem dX7_dustOf_22 : decode cX7_dustOf 22 = .ok (.imul, 1) := by decide +kernel
theorem dX7_dustOf_23 : decode cX7_dustOf 23 = .ok (.iload_n 2, 1) := by decide +kernel
theorem dX7_dustOf_24 : decode cX7_dustOf 24 = .ok (.iadd, 1) := by decide +kernel
theorem dX7_dustOf_25 : decode cX7_dustOf 25 = .ok (.imul, 1) := by decide +kernel
theorem dX7_dustOf_26 : decode cX7_dustOf 26 = .ok (.iload 4, 2) := by decide +kernel
theorem dX7_dustOf_28 : decode cX7_dustOf 28 = .ok (.iadd, 1) := by decide +kernel
theorem dX7_dustOf_29 : decode cX7_dustOf 29 = .ok (.iaload, 1) := by decide +kernel
theorem dX7_dustOf_30 : decode cX7_dustOf 30 = .ok (.iadd, 1) := by decide +kernel
theorem dX7_dustOf_31 : decode cX7_dustOf 31 = .ok (.istore_n 3, 1) := by decide +kernel
theorem dX7_dustOf_32 : decode cX7_dustOf 32 = .ok (.iinc 4 1, 3) := by decide +kernel
theorem dX7_dustOf_35 : decode cX7_dustOf 35 = .ok (.goto (-30), 3) := by decide +kernel
theorem dX7_dustOf_38 : decode cX7_dustOf 38 = .ok (.iload_n 3, 1) := by decide +kernel
theorem dX7_dustOf_39 : decode cX7_dustOf 39 = .ok (.ireturn, 1) := by decide +kernel
theorem dX7_weightOf_0 : decode cX7_weightOf 0 = .ok (.aload_n 0, 1) := by decide +kernel
theorem dX7_weightOf_1 : decode cX7_weightOf 1 = .ok (.iload_n 1, 1) := by decide +kernel
theorem dX7_weightOf_2 : decode cX7_weightOf 2 = .ok (.iload_n 2, 1) := by decide +kernel
theorem dX7_weightOf_3 : decode cX7_weightOf 3 = .ok (.invokevirtual 323, 3) := by decide +kernel
theorem dX7_weightOf_6 : decode cX7_weightOf 6 = .ok (.aload_n 0, 1) := by decide +kernel
theorem dX7_weightOf_7 : decode cX7_weightOf 7 = .ok (.getfield 155, 3) := by decide +kernel
theorem dX7_weightOf_10 : decode cX7_weightOf 10 = .ok (.bipush 30, 2) := by decide +kernel
theorem dX7_weightOf_12 : decode cX7_weightOf 12 = .ok (.iload_n 1, 1) := by decide +kernel
theorem dX7_weightOf_13 : decode cX7_weightOf 13 = .ok (.imul, 1) := by decide +kernel
theorem dX7_weightOf_14 : decode cX7_weightOf 14 = .ok (.iload_n 2, 1) := by decide +kernel
theorem dX7_weightOf_15 : decode cX7_weightOf 15 = .ok (.iadd, 1) := by decide +kernel
theorem dX7_weightOf_16 : decode cX7_weightOf 16 = .ok (.iaload, 1) := by decide +kernel
theorem dX7_weightOf_17 : decode cX7_weightOf 17 = .ok (.iadd, 1) := by decide +kernel
theorem dX7_weightOf_18 : decode cX7_weightOf 18 = .ok (.ireturn, 1) := by decide +kernel
theorem dX7_knowsLump_0 : decode cX7_knowsLump 0 = .ok (.aload_n 0, 1) := by decide +kernel
theorem dX7_knowsLump_1 : decode cX7_knowsLump 1 = .ok (.iload_n 1, 1) := by decide +kernel
theorem dX7_knowsLump_2 : decode cX7_knowsLump 2 = .ok (.aload_n 0, 1) := by decide +kernel
theorem dX7_knowsLump_3 : decode cX7_knowsLump 3 = .ok (.getfield 152, 3) := by decide +kernel
theorem dX7_knowsLump_6 : decode cX7_knowsLump 6 = .ok (.bipush 30, 2) := by decide +kernel
theorem dX7_knowsLump_8 : decode cX7_knowsLump 8 = .ok (.iload_n 1, 1) := by decide +kernel
theorem dX7_knowsLump_9 : decode cX7_knowsLump 9 = .ok (.imul, 1) := by decide +kernel
theorem dX7_knowsLump_10 : decode cX7_knowsLump 10 = .ok (.iload_n 2, 1) := by decide +kernel
theorem dX7_knowsLump_11 : decode cX7_knowsLump 11 = .ok (.iadd, 1) := by decide +kernel
theorem dX7_knowsLump_12 : decode cX7_knowsLump 12 = .ok (.iaload, 1) := by decide +kernel
theorem dX7_knowsLump_13 : decode cX7_knowsLump 13 = .ok (.invokevirtual 320, 3) := by decide +kernel
theorem dX7_knowsLump_16 : decode cX7_knowsLump 16 = .ok (.aload_n 0, 1) := by decide +kernel
theorem dX7_knowsLump_17 : decode cX7_knowsLump 17 = .ok (.getfield 110, 3) := by decide +kernel
theorem dX7_knowsLump_20 : decode cX7_knowsLump 20 = .ok (.bipush 6, 2) := by decide +kernel
theorem dX7_knowsLump_22 : decode cX7_knowsLump 22 = .ok (.aload_n 0, 1) := by decide +kernel
theorem dX7_knowsLump_23 : decode cX7_knowsLump 23 = .ok (.iload_n 1, 1) := by decide +kernel
theorem dX7_knowsLump_24 : decode cX7_knowsLump 24 = .ok (.iload_n 2, 1) := by decide +kernel
theorem dX7_knowsLump_25 : decode cX7_knowsLump 25 = .ok (.invokevirtual 326, 3) := by decide +kernel
theorem dX7_knowsLump_28 : decode cX7_knowsLump 28 = .ok (.iastore, 1) := by decide +kernel
theorem dX7_knowsLump_29 : decode cX7_knowsLump 29 = .ok (.return_, 1) := by decide +kernel
theorem dX7_isThere_0 : decode cX7_isThere 0 = .ok (.aload_n 0, 1) := by decide +kernel
theorem dX7_isThere_1 : decode cX7_isThere 1 = .ok (.getfield 149, 3) := by decide +kernel
theorem dX7_isThere_4 : decode cX7_isThere 4 = .ok (.bipush 30, 2) := by decide +kernel
theorem dX7_isThere_6 : decode cX7_isThere 6 = .ok (.iload_n 1, 1) := by decide +kernel
theorem dX7_isThere_7 : decode cX7_isThere 7 = .ok (.imul, 1) := by decide +kernel
theorem dX7_isThere_8 : decode cX7_isThere 8 = .ok (.iload_n 2, 1) := by decide +kernel
theorem dX7_isThere_9 : decode cX7_isThere 9 = .ok (.iadd, 1) := by decide +kernel
theorem dX7_isThere_10 : decode cX7_isThere 10 = .ok (.iaload, 1) := by decide +kernel
theorem dX7_isThere_11 : decode cX7_isThere 11 = .ok (.ifCond .ne 7, 3) := by decide +kernel
theorem dX7_isThere_14 : decode cX7_isThere 14 = .ok (.iconst 1, 1) := by decide +kernel
theorem dX7_isThere_15 : decode cX7_isThere 15 = .ok (.goto 4, 3) := by decide +kernel
theorem dX7_isThere_18 : decode cX7_isThere 18 = .ok (.iconst 0, 1) := by decide +kernel
theorem dX7_isThere_19 : decode cX7_isThere 19 = .ok (.ireturn, 1) := by decide +kernel
theorem dX7_wayOf_0 : decode cX7_wayOf 0 = .ok (.aload_n 0, 1) := by decide +kernel
theorem dX7_wayOf_1 : decode cX7_wayOf 1 = .ok (.getfield 119, 3) := by decide +kernel
theorem dX7_wayOf_4 : decode cX7_wayOf 4 = .ok (.bipush 12, 2) := by decide +kernel
theorem dX7_wayOf_6 : decode cX7_wayOf 6 = .ok (.iload_n 1, 1) := by decide +kernel
theorem dX7_wayOf_7 : decode cX7_wayOf 7 = .ok (.imul, 1) := by decide +kernel
theorem dX7_wayOf_8 : decode cX7_wayOf 8 = .ok (.iload_n 2, 1) := by decide +kernel
theorem dX7_wayOf_9 : decode cX7_wayOf 9 = .ok (.iadd, 1) := by decide +kernel
theorem dX7_wayOf_10 : decode cX7_wayOf 10 = .ok (.iaload, 1) := by decide +kernel
theorem dX7_wayOf_11 : decode cX7_wayOf 11 = .ok (.istore_n 3, 1) := by decide +kernel
theorem dX7_wayOf_12 : decode cX7_wayOf 12 = .ok (.iload_n 2, 1) := by decide +kernel
theorem dX7_wayOf_13 : decode cX7_wayOf 13 = .ok (.ifCond .ne 12, 3) := by decide +kernel
theorem dX7_wayOf_16 : decode cX7_wayOf 16 = .ok (.aload_n 0, 1) := by decide +kernel
theorem dX7_wayOf_17 : decode cX7_wayOf 17 = .ok (.getfield 131, 3) := by decide +kernel
theorem dX7_wayOf_20 : decode cX7_wayOf 20 = .ok (.iload_n 1, 1) := by decide +kernel
theorem dX7_wayOf_21 : decode cX7_wayOf 21 = .ok (.iaload, 1) := by decide +kernel
theorem dX7_wayOf_22 : decode cX7_wayOf 22 = .ok (.goto 16, 3) := by decide +kernel
theorem dX7_wayOf_25 : decode cX7_wayOf 25 = .ok (.aload_n 0, 1) := by decide +kernel
theorem dX7_wayOf_26 : decode cX7_wayOf 26 = .ok (.getfield 119, 3) := by decide +kernel
theorem dX7_wayOf_29 : decode cX7_wayOf 29 = .ok (.bipush 12, 2) := by decide +kernel
theorem dX7_wayOf_31 : decode cX7_wayOf 31 = .ok (.iload_n 1, 1) := by decide +kernel
theorem dX7_wayOf_32 : decode cX7_wayOf 32 = .ok (.imul, 1) := by decide +kernel
theorem dX7_wayOf_33 : decode cX7_wayOf 33 = .ok (.iload_n 2, 1) := by decide +kernel
theorem dX7_wayOf_34 : decode cX7_wayOf 34 = .ok (.iadd, 1) := by decide +kernel
theorem dX7_wayOf_35 : decode cX7_wayOf 35 = .ok (.iconst 1, 1) := by decide +kernel
theorem dX7_wayOf_36 : decode cX7_wayOf 36 = .ok (.isub, 1) := by decide +kernel
theorem dX7_wayOf_37 : decode cX7_wayOf 37 = .ok (.iaload, 1) := by decide +kernel
theorem dX7_wayOf_38 : decode cX7_wayOf 38 = .ok (.istore 4, 2) := by decide +kernel
theorem dX7_wayOf_40 : decode cX7_wayOf 40 = .ok (.iload_n 2, 1) := by decide +kernel
theorem dX7_wayOf_41 : decode cX7_wayOf 41 = .ok (.aload_n 0, 1) := by decide +kernel
theorem dX7_wayOf_42 : decode cX7_wayOf 42 = .ok (.getfield 116, 3) := by decide +kernel
theorem dX7_wayOf_45 : decode cX7_wayOf 45 = .ok (.iload_n 1, 1) := by decide +kernel
theorem dX7_wayOf_46 : decode cX7_wayOf 46 = .ok (.iaload, 1) := by decide +kernel
theorem dX7_wayOf_47 : decode cX7_wayOf 47 = .ok (.iconst 1, 1) := by decide +kernel
theorem dX7_wayOf_48 : decode cX7_wayOf 48 = .ok (.isub, 1) := by decide +kernel
theorem dX7_wayOf_49 : decode cX7_wayOf 49 = .ok (.if_icmp .ne 7, 3) := by decide +kernel
theorem dX7_wayOf_52 : decode cX7_wayOf 52 = .ok (.iconst 0, 1) := by decide +kernel
theorem dX7_wayOf_53 : decode cX7_wayOf 53 = .ok (.goto 16, 3) := by decide +kernel
theorem dX7_wayOf_56 : decode cX7_wayOf 56 = .ok (.aload_n 0, 1) := by decide +kernel
theorem dX7_wayOf_57 : decode cX7_wayOf 57 = .ok (.getfield 119, 3) := by decide +kernel
theorem dX7_wayOf_60 : decode cX7_wayOf 60 = .ok (.bipush 12, 2) := by decide +kernel
theorem dX7_wayOf_62 : decode cX7_wayOf 62 = .ok (.iload_n 1, 1) := by decide +kernel
theorem dX7_wayOf_63 : decode cX7_wayOf 63 = .ok (.imul, 1) := by decide +kernel
theorem dX7_wayOf_64 : decode cX7_wayOf 64 = .ok (.iload_n 2, 1) := by decide +kernel
theorem dX7_wayOf_65 : decode cX7_wayOf 65 = .ok (.iadd, 1) := by decide +kernel
theorem dX7_wayOf_66 : decode cX7_wayOf 66 = .ok (.iconst 1, 1) := by decide +kernel
theorem dX7_wayOf_67 : decode cX7_wayOf 67 = .ok (.iadd, 1) := by decide +kernel
theorem dX7_wayOf_68 : decode cX7_wayOf 68 = .ok (.iaload, 1) := by decide +kernel
theorem dX7_wayOf_69 : decode cX7_wayOf 69 = .ok (.istore 5, 2) := by decide +kernel
theorem dX7_wayOf_71 : decode cX7_wayOf 71 = .ok (.iload 4, 2) := by decide +kernel
theorem dX7_wayOf_73 : decode cX7_wayOf 73 = .ok (.iload_n 3, 1) := by decide +kernel
theorem dX7_wayOf_74 : decode cX7_wayOf 74 = .ok (.if_icmp .le 8, 3) := by decide +kernel
theorem dX7_wayOf_77 : decode cX7_wayOf 77 = .ok (.iload 4, 2) := by decide +kernel
theorem dX7_wayOf_79 : decode cX7_wayOf 79 = .ok (.goto 4, 3) := by decide +kernel
theorem dX7_wayOf_82 : decode cX7_wayOf 82 = .ok (.iload_n 3, 1) := by decide +kernel
theorem dX7_wayOf_83 : decode cX7_wayOf 83 = .ok (.istore 6, 2) := by decide +kernel
theorem dX7_wayOf_85 : decode cX7_wayOf 85 = .ok (.iload 5, 2) := by decide +kernel
theorem dX7_wayOf_87 : decode cX7_wayOf 87 = .ok (.iload 6, 2) := by decide +kernel
theorem dX7_wayOf_89 : decode cX7_wayOf 89 = .ok (.if_icmp .le 7, 3) := by decide +kernel
theorem dX7_wayOf_92 : decode cX7_wayOf 92 = .ok (.iconst 1, 1) := by decide +kernel
theorem dX7_wayOf_93 : decode cX7_wayOf 93 = .ok (.goto 14, 3) := by decide +kernel
theorem dX7_wayOf_96 : decode cX7_wayOf 96 = .ok (.iload 4, 2) := by decide +kernel
theorem dX7_wayOf_98 : decode cX7_wayOf 98 = .ok (.iload_n 3, 1) := by decide +kernel
theorem dX7_wayOf_99 : decode cX7_wayOf 99 = .ok (.if_icmp .le 7, 3) := by decide +kernel
theorem dX7_wayOf_102 : decode cX7_wayOf 102 = .ok (.iconst (-1), 1) := by decide +kernel
theorem dX7_wayOf_103 : decode cX7_wayOf 103 = .ok (.goto 4, 3) := by decide +kernel
theorem dX7_wayOf_106 : decode cX7_wayOf 106 = .ok (.iconst 0, 1) := by decide +kernel
theorem dX7_wayOf_107 : decode cX7_wayOf 107 = .ok (.ireturn, 1) := by decide +kernel
theorem dX7_steps1_0 : decode cX7_steps1 0 = .ok (.aload_n 0, 1) := by decide +kernel
theorem dX7_steps1_1 : decode cX7_steps1 1 = .ok (.iload_n 1, 1) := by decide +kernel
theorem dX7_steps1_2 : decode cX7_steps1 2 = .ok (.invokevirtual 329, 3) := by decide +kernel
theorem dX7_steps1_5 : decode cX7_steps1 5 = .ok (.aload_n 0, 1) := by decide +kernel
theorem dX7_steps1_6 : decode cX7_steps1 6 = .ok (.iload_n 1, 1) := by decide +kernel
theorem dX7_steps1_7 : decode cX7_steps1 7 = .ok (.invokevirtual 332, 3) := by decide +kernel
theorem dX7_steps1_10 : decode cX7_steps1 10 = .ok (.aload_n 0, 1) := by decide +kernel
theorem dX7_steps1_11 : decode cX7_steps1 11 = .ok (.iload_n 1, 1) := by decide +kernel
theorem dX7_steps1_12 : decode cX7_steps1 12 = .ok (.invokevirtual 335, 3) := by decide +kernel
theorem dX7_steps1_15 : decode cX7_steps1 15 = .ok (.aload_n 0, 1) := by decide +kernel
theorem dX7_steps1_16 : decode cX7_steps1 16 = .ok (.iload_n 1, 1) := by decide +kernel
theorem dX7_steps1_17 : decode cX7_steps1 17 = .ok (.invokevirtual 338, 3) := by decide +kernel
theorem dX7_steps1_20 : decode cX7_steps1 20 = .ok (.aload_n 0, 1) := by decide +kernel
theorem dX7_steps1_21 : decode cX7_steps1 21 = .ok (.iload_n 1, 1) := by decide +kernel
theorem dX7_steps1_22 : decode cX7_steps1 22 = .ok (.invokevirtual 341, 3) := by decide +kernel
theorem dX7_steps1_25 : decode cX7_steps1 25 = .ok (.aload_n 0, 1) := by decide +kernel
theorem dX7_steps1_26 : decode cX7_steps1 26 = .ok (.iload_n 1, 1) := by decide +kernel
theorem dX7_steps1_27 : decode cX7_steps1 27 = .ok (.invokevirtual 344, 3) := by decide +kernel
theorem dX7_steps1_30 : decode cX7_steps1 30 = .ok (.aload_n 0, 1) := by decide +kernel
theorem dX7_steps1_31 : decode cX7_steps1 31 = .ok (.iload_n 1, 1) := by decide +kernel
theorem dX7_steps1_32 : decode cX7_steps1 32 = .ok (.invokevirtual 347, 3) := by decide +kernel
theorem dX7_steps1_35 : decode cX7_steps1 35 = .ok (.aload_n 0, 1) := by decide +kernel
theorem dX7_steps1_36 : decode cX7_steps1 36 = .ok (.iload_n 1, 1) := by decide +kernel
theorem dX7_steps1_37 : decode cX7_steps1 37 = .ok (.invokevirtual 350, 3) := by decide +kernel
theorem dX7_steps1_40 : decode cX7_steps1 40 = .ok (.aload_n 0, 1) := by decide +kernel
theorem dX7_steps1_41 : decode cX7_steps1 41 = .ok (.getfield 137, 3) := by decide +kernel
theorem dX7_steps1_44 : decode cX7_steps1 44 = .ok (.iload_n 1, 1) := by decide +kernel
theorem dX7_steps1_45 : decode cX7_steps1 45 = .ok (.dup2, 1) := by decide +kernel
theorem dX7_steps1_46 : decode cX7_steps1 46 = .ok (.iaload, 1) := by decide +kernel
theorem dX7_steps1_47 : decode cX7_steps1 47 = .ok (.iconst 1, 1) := by decide +kernel
theorem dX7_steps1_48 : decode cX7_steps1 48 = .ok (.iadd, 1) := by decide +kernel
theorem dX7_steps1_49 : decode cX7_steps1 49 = .ok (.iastore, 1) := by decide +kernel
theorem dX7_steps1_50 : decode cX7_steps1 50 = .ok (.return_, 1) := by decide +kernel
theorem dX7_part_0 : decode cX7_part 0 = .ok (.iload_n 0, 1) := by decide +kernel
theorem dX7_part_1 : decode cX7_part 1 = .ok (.i2l, 1) := by decide +kernel
theorem dX7_part_2 : decode cX7_part 2 = .ok (.iload_n 1, 1) := by decide +kernel
theorem dX7_part_3 : decode cX7_part 3 = .ok (.i2l, 1) := by decide +kernel
theorem dX7_part_4 : decode cX7_part 4 = .ok (.lmul, 1) := by decide +kernel
theorem dX7_part_5 : decode cX7_part 5 = .ok (.ldc2_w 353, 3) := by decide +kernel
theorem dX7_part_8 : decode cX7_part 8 = .ok (.ldiv, 1) := by decide +kernel
theorem dX7_part_9 : decode cX7_part 9 = .ok (.l2i, 1) := by decide +kernel
theorem dX7_part_10 : decode cX7_part 10 = .ok (.ireturn, 1) := by decide +kernel
theorem dX7_sticks_0 : decode cX7_sticks 0 = .ok (.iconst 0, 1) := by decide +kernel
theorem dX7_sticks_1 : decode cX7_sticks 1 = .ok (.istore_n 2, 1) := by decide +kernel
theorem dX7_sticks_2 : decode cX7_sticks 2 = .ok (.iload_n 2, 1) := by decide +kernel
theorem dX7_sticks_3 : decode cX7_sticks 3 = .ok (.aload_n 0, 1) := by decide +kernel
theorem dX7_sticks_4 : decode cX7_sticks 4 = .ok (.getfield 116, 3) := by decide +kernel
theorem dX7_sticks_7 : decode cX7_sticks 7 = .ok (.iload_n 1, 1) := by decide +kernel
theorem dX7_sticks_8 : decode cX7_sticks 8 = .ok (.iaload, 1) := by decide +kernel
theorem dX7_sticks_9 : decode cX7_sticks 9 = .ok (.if_icmp .ge 184, 3) := by decide +kernel
theorem dX7_sticks_12 : decode cX7_sticks 12 = .ok (.iconst 3, 1) := by decide +kernel
theorem dX7_sticks_13 : decode cX7_sticks 13 = .ok (.istore_n 3, 1) := by decide +kernel
theorem dX7_sticks_14 : decode cX7_sticks 14 = .ok (.iload_n 3, 1) := by decide +kernel
theorem dX7_sticks_15 : decode cX7_sticks 15 = .ok (.ifCond .lt 172, 3) := by decide +kernel
theorem dX7_sticks_18 : decode cX7_sticks 18 = .ok (.aload_n 0, 1) := by decide +kernel
theorem dX7_sticks_19 : decode cX7_sticks 19 = .ok (.iload_n 1, 1) := by decide +kernel
theorem dX7_sticks_20 : decode cX7_sticks 20 = .ok (.iload_n 2, 1) := by decide +kernel
theorem dX7_sticks_21 : decode cX7_sticks 21 = .ok (.iload_n 3, 1) := by decide +kernel
theorem dX7_sticks_22 : decode cX7_sticks 22 = .ok (.invokevirtual 355, 3) := by decide +kernel
theorem dX7_sticks_25 : decode cX7_sticks 25 = .ok (.aload_n 0, 1) := by decide +kernel
theorem dX7_sticks_26 : decode cX7_sticks 26 = .ok (.iconst 0, 1) := by decide +kernel
theorem dX7_sticks_27 : decode cX7_sticks 27 = .ok (.invokevirtual 359, 3) := by decide +kernel
theorem dX7_sticks_30 : decode cX7_sticks 30 = .ok (.istore 4, 2) := by decide +kernel
theorem dX7_sticks_32 : decode cX7_sticks 32 = .ok (.iload 4, 2) := by decide +kernel
theorem dX7_sticks_34 : decode cX7_sticks 34 = .ok (.ifCond .lt 90, 3) := by decide +kernel
theorem dX7_sticks_37 : decode cX7_sticks 37 = .ok (.aload_n 0, 1) := by decide +kernel
theorem dX7_sticks_38 : decode cX7_sticks 38 = .ok (.getfield 308, 3) := by decide +kernel
theorem dX7_sticks_41 : decode cX7_sticks 41 = .ok (.ifCond .le 83, 3) := by decide +kernel
theorem dX7_sticks_44 : decode cX7_sticks 44 = .ok (.aload_n 0, 1) := by decide +kernel
theorem dX7_sticks_45 : decode cX7_sticks 45 = .ok (.getfield 134, 3) := by decide +kernel
theorem dX7_sticks_48 : decode cX7_sticks 48 = .ok (.iload_n 1, 1) := by decide +kernel
theorem dX7_sticks_49 : decode cX7_sticks 49 = .ok (.aload_n 0, 1) := by decide +kernel
theorem dX7_sticks_50 : decode cX7_sticks 50 = .ok (.getfield 134, 3) := by decide +kernel
theorem dX7_sticks_53 : decode cX7_sticks 53 = .ok (.iload_n 1, 1) := by decide +kernel
theorem dX7_sticks_54 : decode cX7_sticks 54 = .ok (.iaload, 1) := by decide +kernel
theorem dX7_sticks_55 : decode cX7_sticks 55 = .ok (.i2l, 1) := by decide +kernel
theorem dX7_sticks_56 : decode cX7_sticks 56 = .ok (.ldc2_w 362, 3) := by decide +kernel
theorem dX7_sticks_59 : decode cX7_sticks 59 = .ok (.lmul, 1) := by decide +kernel
theorem dX7_sticks_60 : decode cX7_sticks 60 = .ok (.ldc2_w 364, 3) := by decide +kernel
theorem dX7_sticks_63 : decode cX7_sticks 63 = .ok (.ladd, 1) := by decide +kernel
theorem dX7_sticks_64 : decode cX7_sticks 64 = .ok (.ldc2_w 366, 3) := by decide +kernel
theorem dX7_sticks_67 : decode cX7_sticks 67 = .ok (.lrem, 1) := by decide +kernel
theorem dX7_sticks_68 : decode cX7_sticks 68 = .ok (.l2i, 1) := by decide +kernel
theorem dX7_sticks_69 : decode cX7_sticks 69 = .ok (.iastore, 1) := by decide +kernel
theorem dX7_sticks_70 : decode cX7_sticks 70 = .ok (.iload 4, 2) := by decide +kernel
theorem dX7_sticks_72 : decode cX7_sticks 72 = .ok (.aload_n 0, 1) := by decide +kernel
theorem dX7_sticks_73 : decode cX7_sticks 73 = .ok (.getfield 134, 3) := by decide +kernel
theorem dX7_sticks_76 : decode cX7_sticks 76 = .ok (.iload_n 1, 1) := by decide +kernel
theorem dX7_sticks_77 : decode cX7_sticks 77 = .ok (.iaload, 1) := by decide +kernel
theorem dX7_sticks_78 : decode cX7_sticks 78 = .ok (.ldc_w 368, 3) := by decide +kernel
theorem dX7_sticks_81 : decode cX7_sticks 81 = .ok (.idiv, 1) := by decide +kernel
theorem dX7_sticks_82 : decode cX7_sticks 82 = .ok (.iconst 2, 1) := by decide +kernel
theorem dX7_sticks_83 : decode cX7_sticks 83 = .ok (.aload_n 0, 1) := by decide +kernel
theorem dX7_sticks_84 : decode cX7_sticks 84 = .ok (.getfield 308, 3) := by decide +kernel
theorem dX7_sticks_87 : decode cX7_sticks 87 = .ok (.imul, 1) := by decide +kernel
theorem dX7_sticks_88 : decode cX7_sticks 88 = .ok (.iconst 1, 1) := by decide +kernel
theorem dX7_sticks_89 : decode cX7_sticks 89 = .ok (.iadd, 1) := by decide +kernel
theorem dX7_sticks_90 : decode cX7_sticks 90 = .ok (.irem, 1) := by decide +kernel
theorem dX7_sticks_91 : decode cX7_sticks 91 = .ok (.iadd, 1) := by decide +kernel
theorem dX7_sticks_92 : decode cX7_sticks 92 = .ok (.aload_n 0, 1) := by decide +kernel
theorem dX7_sticks_93 : decode cX7_sticks 93 = .ok (.getfield 308, 3) := by decide +kernel
theorem dX7_sticks_96 : decode cX7_sticks 96 = .ok (.isub, 1) := by decide +kernel
theorem dX7_sticks_97 : decode cX7_sticks 97 = .ok (.istore 4, 2) := by decide +kernel
theorem dX7_sticks_99 : decode cX7_sticks 99 = .ok (.iload 4, 2) := by decide +kernel
theorem dX7_sticks_101 : decode cX7_sticks 101 = .ok (.ifCond .ge 7, 3) := by decide +kernel
theorem dX7_sticks_104 : decode cX7_sticks 104 = .ok (.iconst 0, 1) := by decide +kernel
theorem dX7_sticks_105 : decode cX7_sticks 105 = .ok (.goto 17, 3) := by decide +kernel
theorem dX7_sticks_108 : decode cX7_sticks 108 = .ok (.iload 4, 2) := by decide +kernel
theorem dX7_sticks_110 : decode cX7_sticks 110 = .ok (.bipush 100, 2) := by decide +kernel
theorem dX7_sticks_112 : decode cX7_sticks 112 = .ok (.if_icmp .le 8, 3) := by decide +kernel
theorem dX7_sticks_115 : decode cX7_sticks 115 = .ok (.bipush 100, 2) := by decide +kernel
theorem dX7_sticks_117 : decode cX7_sticks 117 = .ok (.goto 5, 3) := by decide +kernel
theorem dX7_sticks_120 : decode cX7_sticks 120 = .ok (.iload 4, 2) := by decide +kernel
theorem dX7_sticks_122 : decode cX7_sticks 122 = .ok (.istore 4, 2) := by decide +kernel
theorem dX7_sticks_124 : decode cX7_sticks 124 = .ok (.iload 4, 2) := by decide +kernel
theorem dX7_sticks_126 : decode cX7_sticks 126 = .ok (.ifCond .le 55, 3) := by decide +kernel
theorem dX7_sticks_129 : decode cX7_sticks 129 = .ok (.bipush 60, 2) := by decide +kernel
theorem dX7_sticks_131 : decode cX7_sticks 131 = .ok (.iload_n 1, 1) := by decide +kernel
theorem dX7_sticks_132 : decode cX7_sticks 132 = .ok (.imul, 1) := by decide +kernel
theorem dX7_sticks_133 : decode cX7_sticks 133 = .ok (.iconst 5, 1) := by decide +kernel
theorem dX7_sticks_134 : decode cX7_sticks 134 = .ok (.iload_n 2, 1) := by decide +kernel
theorem dX7_sticks_135 : decode cX7_sticks 135 = .ok (.imul, 1) := by decide +kernel
theorem dX7_sticks_136 : decode cX7_sticks 136 = .ok (.iadd, 1) := by decide +kernel
theorem dX7_sticks_137 : decode cX7_sticks 137 = .ok (.iload_n 3, 1) := by decide +kernel
theorem dX7_sticks_138 : decode cX7_sticks 138 = .ok (.iadd, 1) := by decide +kernel
theorem dX7_sticks_139 : decode cX7_sticks 139 = .ok (.istore 5, 2) := by decide +kernel
theorem dX7_sticks_141 : decode cX7_sticks 141 = .ok (.aload_n 0, 1) := by decide +kernel
theorem dX7_sticks_142 : decode cX7_sticks 142 = .ok (.getfield 128, 3) := by decide +kernel
theorem dX7_sticks_145 : decode cX7_sticks 145 = .ok (.iload 5, 2) := by decide +kernel
theorem dX7_sticks_147 : decode cX7_sticks 147 = .ok (.iaload, 1) := by decide +kernel
theorem dX7_sticks_148 : decode cX7_sticks 148 = .ok (.iload 4, 2) := by decide +kernel
theorem dX7_sticks_150 : decode cX7_sticks 150 = .ok (.invokestatic 369, 3) := by decide +kernel
theorem dX7_sticks_153 : decode cX7_sticks 153 = .ok (.istore 6, 2) := by decide +kernel
theorem dX7_sticks_155 : decode cX7_sticks 155 = .ok (.aload_n 0, 1) := by decide +kernel
theorem dX7_sticks_156 : decode cX7_sticks 156 = .ok (.getfield 128, 3) := by decide +kernel
theorem dX7_sticks_159 : decode cX7_sticks 159 = .ok (.iload 5, 2) := by decide +kernel
theorem dX7_sticks_161 : decode cX7_sticks 161 = .ok (.dup2, 1) := by decide +kernel
theorem dX7_sticks_162 : decode cX7_sticks 162 = .ok (.iaload, 1) := by decide +kernel
theorem dX7_sticks_163 : decode cX7_sticks 163 = .ok (.iload 6, 2) := by decide +kernel
theorem dX7_sticks_165 : decode cX7_sticks 165 = .ok (.isub, 1) := by decide +kernel
theorem dX7_sticks_166 : decode cX7_sticks 166 = .ok (.iastore, 1) := by decide +kernel
theorem dX7_sticks_167 : decode cX7_sticks 167 = .ok (.aload_n 0, 1) := by decide +kernel
theorem dX7_sticks_168 : decode cX7_sticks 168 = .ok (.getfield 128, 3) := by decide +kernel
theorem dX7_sticks_171 : decode cX7_sticks 171 = .ok (.iload 5, 2) := by decide +kernel
theorem dX7_sticks_173 : decode cX7_sticks 173 = .ok (.iconst 1, 1) := by decide +kernel
theorem dX7_sticks_174 : decode cX7_sticks 174 = .ok (.iadd, 1) := by decide +kernel
theorem dX7_sticks_175 : decode cX7_sticks 175 = .ok (.dup2, 1) := by decide +kernel
theorem dX7_sticks_176 : decode cX7_sticks 176 = .ok (.iaload, 1) := by decide +kernel
theorem dX7_sticks_177 : decode cX7_sticks 177 = .ok (.iload 6, 2) := by decide +kernel
theorem dX7_sticks_179 : decode cX7_sticks 179 = .ok (.iadd, 1) := by decide +kernel
theorem dX7_sticks_180 : decode cX7_sticks 180 = .ok (.iastore, 1) := by decide +kernel
theorem dX7_sticks_181 : decode cX7_sticks 181 = .ok (.iinc 3 (-1), 3) := by decide +kernel
theorem dX7_sticks_184 : decode cX7_sticks 184 = .ok (.goto (-170), 3) := by decide +kernel
theorem dX7_sticks_187 : decode cX7_sticks 187 = .ok (.iinc 2 1, 3) := by decide +kernel
theorem dX7_sticks_190 : decode cX7_sticks 190 = .ok (.goto (-188), 3) := by decide +kernel
theorem dX7_sticks_193 : decode cX7_sticks 193 = .ok (.return_, 1) := by decide +kernel
theorem dX7_breaks_0 : decode cX7_breaks 0 = .ok (.iconst 0, 1) := by decide +kernel
theorem dX7_breaks_1 : decode cX7_breaks 1 = .ok (.istore_n 2, 1) := by decide +kernel
theorem dX7_breaks_2 : decode cX7_breaks 2 = .ok (.iload_n 2, 1) := by decide +kernel
theorem dX7_breaks_3 : decode cX7_breaks 3 = .ok (.aload_n 0, 1) := by decide +kernel
theorem dX7_breaks_4 : decode cX7_breaks 4 = .ok (.getfield 116, 3) := by decide +kernel
theorem dX7_breaks_7 : decode cX7_breaks 7 = .ok (.iload_n 1, 1) := by decide +kernel
theorem dX7_breaks_8 : decode cX7_breaks 8 = .ok (.iaload, 1) := by decide +kernel
theorem dX7_breaks_9 : decode cX7_breaks 9 = .ok (.if_icmp .ge 93, 3) := by decide +kernel
theorem dX7_breaks_12 : decode cX7_breaks 12 = .ok (.iconst 1, 1) := by decide +kernel
theorem dX7_breaks_13 : decode cX7_breaks 13 = .ok (.istore_n 3, 1) := by decide +kernel
theorem dX7_breaks_14 : decode cX7_breaks 14 = .ok (.iload_n 3, 1) := by decide +kernel
theorem dX7_breaks_15 : decode cX7_breaks 15 = .ok (.iconst 5, 1) := by decide +kernel
theorem dX7_breaks_16 : decode cX7_breaks 16 = .ok (.if_icmp .ge 80, 3) := by decide +kernel
theorem dX7_breaks_19 : decode cX7_breaks 19 = .ok (.aload_n 0, 1) := by decide +kernel
theorem dX7_breaks_20 : decode cX7_breaks 20 = .ok (.iload_n 1, 1) := by decide +kernel
theorem dX7_breaks_21 : decode cX7_breaks 21 = .ok (.iload_n 2, 1) := by decide +kernel
theorem dX7_breaks_22 : decode cX7_breaks 22 = .ok (.iload_n 3, 1) := by decide +kernel
theorem dX7_breaks_23 : decode cX7_breaks 23 = .ok (.invokevirtual 355, 3) := by decide +kernel
theorem dX7_breaks_26 : decode cX7_breaks 26 = .ok (.aload_n 0, 1) := by decide +kernel
theorem dX7_breaks_27 : decode cX7_breaks 27 = .ok (.iconst 1, 1) := by decide +kernel
theorem dX7_breaks_28 : decode cX7_breaks 28 = .ok (.invokevirtual 359, 3) := by decide +kernel
theorem dX7_breaks_31 : decode cX7_breaks 31 = .ok (.istore 4, 2) := by decide +kernel
theorem dX7_breaks_33 : decode cX7_breaks 33 = .ok (.iload 4, 2) := by decide +kernel
theorem dX7_breaks_35 : decode cX7_breaks 35 = .ok (.ifCond .le 55, 3) := by decide +kernel
theorem dX7_breaks_38 : decode cX7_breaks 38 = .ok (.bipush 60, 2) := by decide +kernel
theorem dX7_breaks_40 : decode cX7_breaks 40 = .ok (.iload_n 1, 1) := by decide +kernel
theorem dX7_breaks_41 : decode cX7_breaks 41 = .ok (.imul, 1) := by decide +kernel
theorem dX7_breaks_42 : decode cX7_breaks 42 = .ok (.iconst 5, 1) := by decide +kernel
theorem dX7_breaks_43 : decode cX7_breaks 43 = .ok (.iload_n 2, 1) := by decide +kernel
theorem dX7_breaks_44 : decode cX7_breaks 44 = .ok (.imul, 1) := by decide +kernel
theorem dX7_breaks_45 : decode cX7_breaks 45 = .ok (.iadd, 1) := by decide +kernel
theorem dX7_breaks_46 : decode cX7_breaks 46 = .ok (.iload_n 3, 1) := by decide +kernel
theorem dX7_breaks_47 : decode cX7_breaks 47 = .ok (.iadd, 1) := by decide +kernel
theorem dX7_breaks_48 : decode cX7_breaks 48 = .ok (.istore 5, 2) := by decide +kernel
theorem dX7_breaks_50 : decode cX7_breaks 50 = .ok (.aload_n 0, 1) := by decide +kernel
theorem dX7_breaks_51 : decode cX7_breaks 51 = .ok (.getfield 128, 3) := by decide +kernel
theorem dX7_breaks_54 : decode cX7_breaks 54 = .ok (.iload 5, 2) := by decide +kernel
theorem dX7_breaks_56 : decode cX7_breaks 56 = .ok (.iaload, 1) := by decide +kernel
theorem dX7_breaks_57 : decode cX7_breaks 57 = .ok (.iload 4, 2) := by decide +kernel
theorem dX7_breaks_59 : decode cX7_breaks 59 = .ok (.invokestatic 369, 3) := by decide +kernel
theorem dX7_breaks_62 : decode cX7_breaks 62 = .ok (.istore 6, 2) := by decide +kernel
theorem dX7_breaks_64 : decode cX7_breaks 64 = .ok (.aload_n 0, 1) := by decide +kernel
theorem dX7_breaks_65 : decode cX7_breaks 65 = .ok (.getfield 128, 3) := by decide +kernel
theorem dX7_breaks_68 : decode cX7_breaks 68 = .ok (.iload 5, 2) := by decide +kernel
theorem dX7_breaks_70 : decode cX7_breaks 70 = .ok (.dup2, 1) := by decide +kernel
theorem dX7_breaks_71 : decode cX7_breaks 71 = .ok (.iaload, 1) := by decide +kernel
theorem dX7_breaks_72 : decode cX7_breaks 72 = .ok (.iload 6, 2) := by decide +kernel
theorem dX7_breaks_74 : decode cX7_breaks 74 = .ok (.isub, 1) := by decide +kernel
theorem dX7_breaks_75 : decode cX7_breaks 75 = .ok (.iastore, 1) := by decide +kernel
theorem dX7_breaks_76 : decode cX7_breaks 76 = .ok (.aload_n 0, 1) := by decide +kernel
theorem dX7_breaks_77 : decode cX7_breaks 77 = .ok (.getfield 128, 3) := by decide +kernel
theorem dX7_breaks_80 : decode cX7_breaks 80 = .ok (.iload 5, 2) := by decide +kernel
theorem dX7_breaks_82 : decode cX7_breaks 82 = .ok (.iload_n 3, 1) := by decide +kernel
theorem dX7_breaks_83 : decode cX7_breaks 83 = .ok (.isub, 1) := by decide +kernel
theorem dX7_breaks_84 : decode cX7_breaks 84 = .ok (.dup2, 1) := by decide +kernel
theorem dX7_breaks_85 : decode cX7_breaks 85 = .ok (.iaload, 1) := by decide +kernel
theorem dX7_breaks_86 : decode cX7_breaks 86 = .ok (.iload 6, 2) := by decide +kernel
theorem dX7_breaks_88 : decode cX7_breaks 88 = .ok (.iadd, 1) := by decide +kernel
theorem dX7_breaks_89 : decode cX7_breaks 89 = .ok (.iastore, 1) := by decide +kernel
theorem dX7_breaks_90 : decode cX7_breaks 90 = .ok (.iinc 3 1, 3) := by decide +kernel
theorem dX7_breaks_93 : decode cX7_breaks 93 = .ok (.goto (-79), 3) := by decide +kernel
theorem dX7_breaks_96 : decode cX7_breaks 96 = .ok (.iinc 2 1, 3) := by decide +kernel
theorem dX7_breaks_99 : decode cX7_breaks 99 = .ok (.goto (-97), 3) := by decide +kernel
theorem dX7_breaks_102 : decode cX7_breaks 102 = .ok (.return_, 1) := by decide +kernel
theorem dX7_findHeld_0 : decode cX7_findHeld 0 = .ok (.iconst 0, 1) := by decide +kernel
theorem dX7_findHeld_1 : decode cX7_findHeld 1 = .ok (.istore_n 2, 1) := by decide +kernel
theorem dX7_findHeld_2 : decode cX7_findHeld 2 = .ok (.iload_n 2, 1) := by decide +kernel
theorem dX7_findHeld_3 : decode cX7_findHeld 3 = .ok (.bipush 12, 2) := by decide +kernel
theorem dX7_findHeld_5 : decode cX7_findHeld 5 = .ok (.if_icmp .ge 16, 3) := by decide +kernel
theorem dX7_findHeld_8 : decode cX7_findHeld 8 = .ok (.aload_n 0, 1) := by decide +kernel
theorem dX7_findHeld_9 : decode cX7_findHeld 9 = .ok (.getfield 173, 3) := by decide +kernel
theorem dX7_findHeld_12 : decode cX7_findHeld 12 = .ok (.iload_n 2, 1) := by decide +kernel
theorem dX7_findHeld_13 : decode cX7_findHeld 13 = .ok (.iconst 5, 1) := by decide +kernel
theorem dX7_findHeld_14 : decode cX7_findHeld 14 = .ok (.iastore, 1) := by decide +kernel
theorem dX7_findHeld_15 : decode cX7_findHeld 15 = .ok (.iinc 2 1, 3) := by decide +kernel
theorem dX7_findHeld_18 : decode cX7_findHeld 18 = .ok (.goto (-16), 3) := by decide +kernel
theorem dX7_findHeld_21 : decode cX7_findHeld 21 = .ok (.iconst 0, 1) := by decide +kernel
theorem dX7_findHeld_22 : decode cX7_findHeld 22 = .ok (.istore_n 2, 1) := by decide +kernel
theorem dX7_findHeld_23 : decode cX7_findHeld 23 = .ok (.iload_n 2, 1) := by decide +kernel
theorem dX7_findHeld_24 : decode cX7_findHeld 24 = .ok (.aload_n 0, 1) := by decide +kernel
theorem dX7_findHeld_25 : decode cX7_findHeld 25 = .ok (.getfield 146, 3) := by decide +kernel
theorem dX7_findHeld_28 : decode cX7_findHeld 28 = .ok (.iload_n 1, 1) := by decide +kernel
theorem dX7_findHeld_29 : decode cX7_findHeld 29 = .ok (.iaload, 1) := by decide +kernel
theorem dX7_findHeld_30 : decode cX7_findHeld 30 = .ok (.if_icmp .ge 77, 3) := by decide +kernel
theorem dX7_findHeld_33 : decode cX7_findHeld 33 = .ok (.aload_n 0, 1) := by decide +kernel
theorem dX7_findHeld_34 : decode cX7_findHeld 34 = .ok (.iload_n 1, 1) := by decide +kernel
theorem dX7_findHeld_35 : decode cX7_findHeld 35 = .ok (.iload_n 2, 1) := by decide +kernel
theorem dX7_findHeld_36 : decode cX7_findHeld 36 = .ok (.invokevirtual 372, 3) := by decide +kernel
theorem dX7_findHeld_39 : decode cX7_findHeld 39 = .ok (.ifCond .eq 62, 3) := by decide +kernel
theorem dX7_findHeld_42 : decode cX7_findHeld 42 = .ok (.aload_n 0, 1) := by decide +kernel
theorem dX7_findHeld_43 : decode cX7_findHeld 43 = .ok (.iload_n 1, 1) := by decide +kernel
theorem dX7_findHeld_44 : decode cX7_findHeld 44 = .ok (.iload_n 2, 1) := by decide +kernel
theorem dX7_findHeld_45 : decode cX7_findHeld 45 = .ok (.invokevirtual 376, 3) := by decide +kernel
theorem dX7_findHeld_48 : decode cX7_findHeld 48 = .ok (.aload_n 0, 1) := by decide +kernel
theorem dX7_findHeld_49 : decode cX7_findHeld 49 = .ok (.bipush 7, 2) := by decide +kernel
theorem dX7_findHeld_51 : decode cX7_findHeld 51 = .ok (.invokevirtual 359, 3) := by decide +kernel
theorem dX7_findHeld_54 : decode cX7_findHeld 54 = .ok (.istore_n 3, 1) := by decide +kernel
theorem dX7_findHeld_55 : decode cX7_findHeld 55 = .ok (.aload_n 0, 1) := by decide +kernel
theorem dX7_findHeld_56 : decode cX7_findHeld 56 = .ok (.getfield 152, 3) := by decide +kernel
theorem dX7_findHeld_59 : decode cX7_findHeld 59 = .ok (.bipush 30, 2) := by decide +kernel
theorem dX7_findHeld_61 : decode cX7_findHeld 61 = .ok (.iload_n 1, 1) := by decide +kernel
theorem dX7_findHeld_62 : decode cX7_findHeld 62 = .ok (.imul, 1) := by decide +kernel
theorem dX7_findHeld_63 : decode cX7_findHeld 63 = .ok (.iload_n 2, 1) := by decide +kernel
theorem dX7_findHeld_64 : decode cX7_findHeld 64 = .ok (.iadd, 1) := by decide +kernel
theorem dX7_findHeld_65 : decode cX7_findHeld 65 = .ok (.iaload, 1) := by decide +kernel
theorem dX7_findHeld_66 : decode cX7_findHeld 66 = .ok (.istore 4, 2) := by decide +kernel
theorem dX7_findHeld_68 : decode cX7_findHeld 68 = .ok (.aload_n 0, 1) := by decide +kernel
theorem dX7_findHeld_69 : decode cX7_findHeld 69 = .ok (.getfield 173, 3) := by decide +kernel
theorem dX7_findHeld_72 : decode cX7_findHeld 72 = .ok (.iload 4, 2) := by decide +kernel
theorem dX7_findHeld_74 : decode cX7_findHeld 74 = .ok (.iload_n 3, 1) := by decide +kernel
theorem dX7_findHeld_75 : decode cX7_findHeld 75 = .ok (.ifCond .lt 18, 3) := by decide +kernel
theorem dX7_findHeld_78 : decode cX7_findHeld 78 = .ok (.iload_n 3, 1) := by decide +kernel
theorem dX7_findHeld_79 : decode cX7_findHeld 79 = .ok (.aload_n 0, 1) := by decide +kernel
theorem dX7_findHeld_80 : decode cX7_findHeld 80 = .ok (.getfield 173, 3) := by decide +kernel
theorem dX7_findHeld_83 : decode cX7_findHeld 83 = .ok (.iload 4, 2) := by decide +kernel
theorem dX7_findHeld_85 : decode cX7_findHeld 85 = .ok (.iaload, 1) := by decide +kernel
theorem dX7_findHeld_86 : decode cX7_findHeld 86 = .ok (.if_icmp .ge 7, 3) := by decide +kernel
theorem dX7_findHeld_89 : decode cX7_findHeld 89 = .ok (.iload_n 3, 1) := by decide +kernel
theorem dX7_findHeld_90 : decode cX7_findHeld 90 = .ok (.goto 10, 3) := by decide +kernel
theorem dX7_findHeld_93 : decode cX7_findHeld 93 = .ok (.aload_n 0, 1) := by decide +kernel
theorem dX7_findHeld_94 : decode cX7_findHeld 94 = .ok (.getfield 173, 3) := by decide +kernel
theorem dX7_findHeld_97 : decode cX7_findHeld 97 = .ok (.iload 4, 2) := by decide +kernel
theorem dX7_findHeld_99 : decode cX7_findHeld 99 = .ok (.iaload, 1) := by decide +kernel
theorem dX7_findHeld_100 : decode cX7_findHeld 100 = .ok (.iastore, 1) := by decide +kernel
theorem dX7_findHeld_101 : decode cX7_findHeld 101 = .ok (.iinc 2 1, 3) := by decide +kernel
theorem dX7_findHeld_104 : decode cX7_findHeld 104 = .ok (.goto (-81), 3) := by decide +kernel
theorem dX7_findHeld_107 : decode cX7_findHeld 107 = .ok (.return_, 1) := by decide +kernel
theorem dX7_drifts_0 : decode cX7_drifts 0 = .ok (.aload_n 0, 1) := by decide +kernel
theorem dX7_drifts_1 : decode cX7_drifts 1 = .ok (.iload_n 1, 1) := by decide +kernel
theorem dX7_drifts_2 : decode cX7_drifts 2 = .ok (.invokevirtual 379, 3) := by decide +kernel
theorem dX7_drifts_5 : decode cX7_drifts 5 = .ok (.iconst 0, 1) := by decide +kernel
theorem dX7_drifts_6 : decode cX7_drifts 6 = .ok (.istore_n 2, 1) := by decide +kernel
theorem dX7_drifts_7 : decode cX7_drifts 7 = .ok (.iload_n 2, 1) := by decide +kernel
theorem dX7_drifts_8 : decode cX7_drifts 8 = .ok (.aload_n 0, 1) := by decide +kernel
theorem dX7_drifts_9 : decode cX7_drifts 9 = .ok (.getfield 116, 3) := by decide +kernel
theorem dX7_drifts_12 : decode cX7_drifts 12 = .ok (.iload_n 1, 1) := by decide +kernel
theorem dX7_drifts_13 : decode cX7_drifts 13 = .ok (.iaload, 1) := by decide +kernel
theorem dX7_drifts_14 : decode cX7_drifts 14 = .ok (.if_icmp .ge 118, 3) := by decide +kernel
theorem dX7_drifts_17 : decode cX7_drifts 17 = .ok (.aload_n 0, 1) := by decide +kernel
theorem dX7_drifts_18 : decode cX7_drifts 18 = .ok (.iload_n 1, 1) := by decide +kernel
theorem dX7_drifts_19 : decode cX7_drifts 19 = .ok (.iload_n 2, 1) := by decide +kernel
theorem dX7_drifts_20 : decode cX7_drifts 20 = .ok (.invokevirtual 382, 3) := by decide +kernel
theorem dX7_drifts_23 : decode cX7_drifts 23 = .ok (.istore_n 3, 1) := by decide +kernel
theorem dX7_drifts_24 : decode cX7_drifts 24 = .ok (.iconst 0, 1) := by decide +kernel
theorem dX7_drifts_25 : decode cX7_drifts 25 = .ok (.istore 4, 2) := by decide +kernel
theorem dX7_drifts_27 : decode cX7_drifts 27 = .ok (.iload 4, 2) := by decide +kernel
theorem dX7_drifts_29 : decode cX7_drifts 29 = .ok (.iconst 5, 1) := by decide +kernel
theorem dX7_drifts_30 : decode cX7_drifts 30 = .ok (.if_icmp .ge 96, 3) := by decide +kernel
theorem dX7_drifts_33 : decode cX7_drifts 33 = .ok (.aload_n 0, 1) := by decide +kernel
theorem dX7_drifts_34 : decode cX7_drifts 34 = .ok (.iload_n 1, 1) := by decide +kernel
theorem dX7_drifts_35 : decode cX7_drifts 35 = .ok (.iload_n 2, 1) := by decide +kernel
theorem dX7_drifts_36 : decode cX7_drifts 36 = .ok (.iload 4, 2) := by decide +kernel
theorem dX7_drifts_38 : decode cX7_drifts 38 = .ok (.invokevirtual 355, 3) := by decide +kernel
theorem dX7_drifts_41 : decode cX7_drifts 41 = .ok (.iload_n 3, 1) := by decide +kernel
theorem dX7_drifts_42 : decode cX7_drifts 42 = .ok (.ifCond .ne 7, 3) := by decide +kernel
theorem dX7_drifts_45 : decode cX7_drifts 45 = .ok (.iconst (-1), 1) := by decide +kernel
theorem dX7_drifts_46 : decode cX7_drifts 46 = .ok (.goto 8, 3) := by decide +kernel
theorem dX7_drifts_49 : decode cX7_drifts 49 = .ok (.aload_n 0, 1) := by decide +kernel
theorem dX7_drifts_50 : decode cX7_drifts 50 = .ok (.iconst 2, 1) := by decide +kernel
theorem dX7_drifts_51 : decode cX7_drifts 51 = .ok (.invokevirtual 359, 3) := by decide +kernel
theorem dX7_drifts_54 : decode cX7_drifts 54 = .ok (.istore 5, 2) := by decide +kernel
theorem dX7_drifts_56 : decode cX7_drifts 56 = .ok (.iload_n 3, 1) := by decide +kernel
theorem dX7_drifts_57 : decode cX7_drifts 57 = .ok (.ifCond .ge 24, 3) := by decide +kernel
theorem dX7_drifts_60 : decode cX7_drifts 60 = .ok (.iload_n 2, 1) := by decide +kernel
theorem dX7_drifts_61 : decode cX7_drifts 61 = .ok (.ifCond .le 20, 3) := by decide +kernel
theorem dX7_drifts_64 : decode cX7_drifts 64 = .ok (.aload_n 0, 1) := by decide +kernel
theorem dX7_drifts_65 : decode cX7_drifts 65 = .ok (.getfield 173, 3) := by decide +kernel
theorem dX7_drifts_68 : decode cX7_drifts 68 = .ok (.iload_n 2, 1) := by decide +kernel
theorem dX7_drifts_69 : decode cX7_drifts 69 = .ok (.iconst 1, 1) := by decide +kernel
theorem dX7_drifts_70 : decode cX7_drifts 70 = .ok (.isub, 1) := by decide +kernel
theorem dX7_drifts_71 : decode cX7_drifts 71 = .ok (.iaload, 1) := by decide +kernel
theorem dX7_drifts_72 : decode cX7_drifts 72 = .ok (.iload 4, 2) := by decide +kernel
theorem dX7_drifts_74 : decode cX7_drifts 74 = .ok (.if_icmp .gt 7, 3) := by decide +kernel
theorem dX7_drifts_77 : decode cX7_drifts 77 = .ok (.iconst 1, 1) := by decide +kernel
theorem dX7_drifts_78 : decode cX7_drifts 78 = .ok (.goto 4, 3) := by decide +kernel
theorem dX7_drifts_81 : decode cX7_drifts 81 = .ok (.iconst 0, 1) := by decide +kernel
theorem dX7_drifts_82 : decode cX7_drifts 82 = .ok (.istore 6, 2) := by decide +kernel
theorem dX7_drifts_84 : decode cX7_drifts 84 = .ok (.aload_n 0, 1) := by decide +kernel
theorem dX7_drifts_85 : decode cX7_drifts 85 = .ok (.getfield 170, 3) := by decide +kernel
theorem dX7_drifts_88 : decode cX7_drifts 88 = .ok (.iconst 5, 1) := by decide +kernel
theorem dX7_drifts_89 : decode cX7_drifts 89 = .ok (.iload_n 2, 1) := by decide +kernel
theorem dX7_drifts_90 : decode cX7_drifts 90 = .ok (.imul, 1) := by decide +kernel
theorem dX7_drifts_91 : decode cX7_drifts 91 = .ok (.iload 4, 2) := by decide +kernel
theorem dX7_drifts_93 : decode cX7_drifts 93 = .ok (.iadd, 1) := by decide +kernel
theorem dX7_drifts_94 : decode cX7_drifts 94 = .ok (.iload 5, 2) := by decide +kernel
theorem dX7_drifts_96 : decode cX7_drifts 96 = .ok (.ifCond .lt 8, 3) := by decide +kernel
theorem dX7_drifts_99 : decode cX7_drifts 99 = .ok (.iload 6, 2) := by decide +kernel
theorem dX7_drifts_101 : decode cX7_drifts 101 = .ok (.ifCond .eq 7, 3) := by decide +kernel
theorem dX7_drifts_104 : decode cX7_drifts 104 = .ok (.iconst 0, 1) := by decide +kernel
theorem dX7_drifts_105 : decode cX7_drifts 105 = .ok (.goto 14, 3) := by decide +kernel
theorem dX7_drifts_108 : decode cX7_drifts 108 = .ok (.aload_n 0, 1) := by decide +kernel
theorem dX7_drifts_109 : decode cX7_drifts 109 = .ok (.getfield 110, 3) := by decide +kernel
theorem dX7_drifts_112 : decode cX7_drifts 112 = .ok (.iconst 4, 1) := by decide +kernel
theorem dX7_drifts_113 : decode cX7_drifts 113 = .ok (.iaload, 1) := by decide +kernel
theorem dX7_drifts_114 : decode cX7_drifts 114 = .ok (.iload 5, 2) := by decide +kernel
theorem dX7_drifts_116 : decode cX7_drifts 116 = .ok (.invokestatic 369, 3) := by decide +kernel
theorem dX7_drifts_119 : decode cX7_drifts 119 = .ok (.iastore, 1) := by decide +kernel
theorem dX7_drifts_120 : decode cX7_drifts 120 = .ok (.iinc 4 1, 3) := by decide +kernel
theorem dX7_drifts_123 : decode cX7_drifts 123 = .ok (.goto (-96), 3) := by decide +kernel
theorem dX7_drifts_126 : decode cX7_drifts 126 = .ok (.iinc 2 1, 3) := by decide +kernel
theorem dX7_drifts_129 : decode cX7_drifts 129 = .ok (.goto (-122), 3) := by decide +kernel
theorem dX7_drifts_132 : decode cX7_drifts 132 = .ok (.iconst 0, 1) := by decide +kernel
theorem dX7_drifts_133 : decode cX7_drifts 133 = .ok (.istore_n 2, 1) := by decide +kernel
theorem dX7_drifts_134 : decode cX7_drifts 134 = .ok (.iload_n 2, 1) := by decide +kernel
theorem dX7_drifts_135 : decode cX7_drifts 135 = .ok (.aload_n 0, 1) := by decide +kernel
theorem dX7_drifts_136 : decode cX7_drifts 136 = .ok (.getfield 116, 3) := by decide +kernel
theorem dX7_drifts_139 : decode cX7_drifts 139 = .ok (.iload_n 1, 1) := by decide +kernel
theorem dX7_drifts_140 : decode cX7_drifts 140 = .ok (.iaload, 1) := by decide +kernel
theorem dX7_drifts_141 : decode cX7_drifts 141 = .ok (.if_icmp .ge 109, 3) := by decide +kernel
theorem dX7_drifts_144 : decode cX7_drifts 144 = .ok (.aload_n 0, 1) := by decide +kernel
theorem dX7_drifts_145 : decode cX7_drifts 145 = .ok (.iload_n 1, 1) := by decide +kernel
theorem dX7_drifts_146 : decode cX7_drifts 146 = .ok (.iload_n 2, 1) := by decide +kernel
theorem dX7_drifts_147 : decode cX7_drifts 147 = .ok (.invokevirtual 382, 3) := by decide +kernel
theorem dX7_drifts_150 : decode cX7_drifts 150 = .ok (.istore_n 3, 1) := by decide +kernel
theorem dX7_drifts_151 : decode cX7_drifts 151 = .ok (.iconst 0, 1) := by decide +kernel
theorem dX7_drifts_152 : decode cX7_drifts 152 = .ok (.istore 4, 2) := by decide +kernel
theorem dX7_drifts_154 : decode cX7_drifts 154 = .ok (.iload 4, 2) := by decide +kernel
theorem dX7_drifts_156 : decode cX7_drifts 156 = .ok (.iconst 5, 1) := by decide +kernel
theorem dX7_drifts_157 : decode cX7_drifts 157 = .ok (.if_icmp .ge 87, 3) := by decide +kernel
theorem dX7_drifts_160 : decode cX7_drifts 160 = .ok (.aload_n 0, 1) := by decide +kernel
theorem dX7_drifts_161 : decode cX7_drifts 161 = .ok (.getfield 170, 3) := by decide +kernel
theorem dX7_drifts_164 : decode cX7_drifts 164 = .ok (.iconst 5, 1) := by decide +kernel
theorem dX7_drifts_165 : decode cX7_drifts 165 = .ok (.iload_n 2, 1) := by decide +kernel
theorem dX7_drifts_166 : decode cX7_drifts 166 = .ok (.imul, 1) := by decide +kernel
theorem dX7_drifts_167 : decode cX7_drifts 167 = .ok (.iload 4, 2) := by decide +kernel
theorem dX7_drifts_169 : decode cX7_drifts 169 = .ok (.iadd, 1) := by decide +kernel
theorem dX7_drifts_170 : decode cX7_drifts 170 = .ok (.iaload, 1) := by decide +kernel
theorem dX7_drifts_171 : decode cX7_drifts 171 = .ok (.istore 5, 2) := by decide +kernel
theorem dX7_drifts_173 : decode cX7_drifts 173 = .ok (.aload_n 0, 1) := by decide +kernel
theorem dX7_drifts_174 : decode cX7_drifts 174 = .ok (.getfield 128, 3) := by decide +kernel
theorem dX7_drifts_177 : decode cX7_drifts 177 = .ok (.bipush 60, 2) := by decide +kernel
theorem dX7_drifts_179 : decode cX7_drifts 179 = .ok (.iload_n 1, 1) := by decide +kernel
theorem dX7_drifts_180 : decode cX7_drifts 180 = .ok (.imul, 1) := by decide +kernel
theorem dX7_drifts_181 : decode cX7_drifts 181 = .ok (.iconst 5, 1) := by decide +kernel
theorem dX7_drifts_182 : decode cX7_drifts 182 = .ok (.iload_n 2, 1) := by decide +kernel
theorem dX7_drifts_183 : decode cX7_drifts 183 = .ok (.imul, 1) := by decide +kernel
theorem dX7_drifts_184 : decode cX7_drifts 184 = .ok (.iadd, 1) := by decide +kernel
theorem dX7_drifts_185 : decode cX7_drifts 185 = .ok (.iload 4, 2) := by decide +kernel
theorem dX7_drifts_187 : decode cX7_drifts 187 = .ok (.iadd, 1) := by decide +kernel
theorem dX7_drifts_188 : decode cX7_drifts 188 = .ok (.dup2, 1) := by decide +kernel
theorem dX7_drifts_189 : decode cX7_drifts 189 = .ok (.iaload, 1) := by decide +kernel
theorem dX7_drifts_190 : decode cX7_drifts 190 = .ok (.iload 5, 2) := by decide +kernel
theorem dX7_drifts_192 : decode cX7_drifts 192 = .ok (.isub, 1) := by decide +kernel
theorem dX7_drifts_193 : decode cX7_drifts 193 = .ok (.iastore, 1) := by decide +kernel
theorem dX7_drifts_194 : decode cX7_drifts 194 = .ok (.iload_n 2, 1) := by decide +kernel
theorem dX7_drifts_195 : decode cX7_drifts 195 = .ok (.iload_n 3, 1) := by decide +kernel
theorem dX7_drifts_196 : decode cX7_drifts 196 = .ok (.iadd, 1) := by decide +kernel
theorem dX7_drifts_197 : decode cX7_drifts 197 = .ok (.ifCond .ge 18, 3) := by decide +kernel
theorem dX7_drifts_200 : decode cX7_drifts 200 = .ok (.aload_n 0, 1) := by decide +kernel
theorem dX7_drifts_201 : decode cX7_drifts 201 = .ok (.getfield 140, 3) := by decide +kernel
theorem dX7_drifts_204 : decode cX7_drifts 204 = .ok (.iload_n 1, 1) := by decide +kernel
theorem dX7_drifts_205 : decode cX7_drifts 205 = .ok (.dup2, 1) := by decide +kernel
theorem dX7_drifts_206 : decode cX7_drifts 206 = .ok (.laload, 1) := by decide +kernel
theorem dX7_drifts_207 : decode cX7_drifts 207 = .ok (.iload 5, 2) := by decide +kernel
theorem dX7_drifts_209 : decode cX7_drifts 209 = .ok (.i2l, 1) := by decide +kernel
theorem dX7_drifts_210 : decode cX7_drifts 210 = .ok (.ladd, 1) := by decide +kernel
theorem dX7_drifts_211 : decode cX7_drifts 211 = .ok (.lastore, 1) := by decide +kernel
theorem dX7_drifts_212 : decode cX7_drifts 212 = .ok (.goto 26, 3) := by decide +kernel
theorem dX7_drifts_215 : decode cX7_drifts 215 = .ok (.aload_n 0, 1) := by decide +kernel
theorem dX7_drifts_216 : decode cX7_drifts 216 = .ok (.getfield 128, 3) := by decide +kernel
theorem dX7_drifts_219 : decode cX7_drifts 219 = .ok (.bipush 60, 2) := by decide +kernel
theorem dX7_drifts_221 : decode cX7_drifts 221 = .ok (.iload_n 1, 1) := by decide +kernel
theorem dX7_drifts_222 : decode cX7_drifts 222 = .ok (.imul, 1) := by decide +kernel
theorem dX7_drifts_223 : decode cX7_drifts 223 = .ok (.iconst 5, 1) := by decide +kernel
theorem dX7_drifts_224 : decode cX7_drifts 224 = .ok (.iload_n 2, 1) := by decide +kernel
theorem dX7_drifts_225 : decode cX7_drifts 225 = .ok (.iload_n 3, 1) := by decide +kernel
theorem dX7_drifts_226 : decode cX7_drifts 226 = .ok (.iadd, 1) := by decide +kernel
theorem dX7_drifts_227 : decode cX7_drifts 227 = .ok (.imul, 1) := by decide +kernel
theorem dX7_drifts_228 : decode cX7_drifts 228 = .ok (.iadd, 1) := by decide +kernel
theorem dX7_drifts_229 : decode cX7_drifts 229 = .ok (.iload 4, 2) := by decide +kernel
theorem dX7_drifts_231 : decode cX7_drifts 231 = .ok (.iadd, 1) := by decide +kernel
theorem dX7_drifts_232 : decode cX7_drifts 232 = .ok (.dup2, 1) := by decide +kernel
theorem dX7_drifts_233 : decode cX7_drifts 233 = .ok (.iaload, 1) := by decide +kernel
theorem dX7_drifts_234 : decode cX7_drifts 234 = .ok (.iload 5, 2) := by decide +kernel
theorem dX7_drifts_236 : decode cX7_drifts 236 = .ok (.iadd, 1) := by decide +kernel
theorem dX7_drifts_237 : decode cX7_drifts 237 = .ok (.iastore, 1) := by decide +kernel
theorem dX7_drifts_238 : decode cX7_drifts 238 = .ok (.iinc 4 1, 3) := by decide +kernel
theorem dX7_drifts_241 : decode cX7_drifts 241 = .ok (.goto (-87), 3) := by decide +kernel
theorem dX7_drifts_244 : decode cX7_drifts 244 = .ok (.iinc 2 1, 3) := by decide +kernel
theorem dX7_drifts_247 : decode cX7_drifts 247 = .ok (.goto (-113), 3) := by decide +kernel
theorem dX7_drifts_250 : decode cX7_drifts 250 = .ok (.return_, 1) := by decide +kernel
theorem dX7_gathers_0 : decode cX7_gathers 0 = .ok (.iconst 0, 1) := by decide +kernel
theorem dX7_gathers_1 : decode cX7_gathers 1 = .ok (.istore_n 2, 1) := by decide +kernel
theorem dX7_gathers_2 : decode cX7_gathers 2 = .ok (.iload_n 2, 1) := by decide +kernel
theorem dX7_gathers_3 : decode cX7_gathers 3 = .ok (.aload_n 0, 1) := by decide +kernel
theorem dX7_gathers_4 : decode cX7_gathers 4 = .ok (.getfield 116, 3) := by decide +kernel
theorem dX7_gathers_7 : decode cX7_gathers 7 = .ok (.iload_n 1, 1) := by decide +kernel
theorem dX7_gathers_8 : decode cX7_gathers 8 = .ok (.iaload, 1) := by decide +kernel
theorem dX7_gathers_9 : decode cX7_gathers 9 = .ok (.if_icmp .ge 199, 3) := by decide +kernel
theorem dX7_gathers_12 : decode cX7_gathers 12 = .ok (.iconst 4, 1) := by decide +kernel
theorem dX7_gathers_13 : decode cX7_gathers 13 = .ok (.istore_n 3, 1) := by decide +kernel
theorem dX7_gathers_14 : decode cX7_gathers 14 = .ok (.iload_n 3, 1) := by decide +kernel
theorem dX7_gathers_15 : decode cX7_gathers 15 = .ok (.ifCond .lt 187, 3) := by decide +kernel
theorem dX7_gathers_18 : decode cX7_gathers 18 = .ok (.aload_n 0, 1) := by decide +kernel
theorem dX7_gathers_19 : decode cX7_gathers 19 = .ok (.iload_n 1, 1) := by decide +kernel
theorem dX7_gathers_20 : decode cX7_gathers 20 = .ok (.iload_n 2, 1) := by decide +kernel
theorem dX7_gathers_21 : decode cX7_gathers 21 = .ok (.iload_n 3, 1) := by decide +kernel
theorem dX7_gathers_22 : decode cX7_gathers 22 = .ok (.invokevirtual 355, 3) := by decide +kernel
theorem dX7_gathers_25 : decode cX7_gathers 25 = .ok (.aload_n 0, 1) := by decide +kernel
theorem dX7_gathers_26 : decode cX7_gathers 26 = .ok (.iconst 3, 1) := by decide +kernel
theorem dX7_gathers_27 : decode cX7_gathers 27 = .ok (.invokevirtual 359, 3) := by decide +kernel
theorem dX7_gathers_30 : decode cX7_gathers 30 = .ok (.istore 4, 2) := by decide +kernel
theorem dX7_gathers_32 : decode cX7_gathers 32 = .ok (.iload 4, 2) := by decide +kernel
theorem dX7_gathers_34 : decode cX7_gathers 34 = .ok (.ifCond .lt 162, 3) := by decide +kernel
theorem dX7_gathers_37 : decode cX7_gathers 37 = .ok (.aload_n 0, 1) := by decide +kernel
theorem dX7_gathers_38 : decode cX7_gathers 38 = .ok (.getfield 110, 3) := by decide +kernel
theorem dX7_gathers_41 : decode cX7_gathers 41 = .ok (.iconst 4, 1) := by decide +kernel
theorem dX7_gathers_42 : decode cX7_gathers 42 = .ok (.iaload, 1) := by decide +kernel
theorem dX7_gathers_43 : decode cX7_gathers 43 = .ok (.iload 4, 2) := by decide +kernel
theorem dX7_gathers_45 : decode cX7_gathers 45 = .ok (.if_icmp .lt 151, 3) := by decide +kernel
theorem dX7_gathers_48 : decode cX7_gathers 48 = .ok (.aload_n 0, 1) := by decide +kernel
theorem dX7_gathers_49 : decode cX7_gathers 49 = .ok (.getfield 146, 3) := by decide +kernel
theorem dX7_gathers_52 : decode cX7_gathers 52 = .ok (.iload_n 1, 1) := by decide +kernel
theorem dX7_gathers_53 : decode cX7_gathers 53 = .ok (.iaload, 1) := by decide +kernel
theorem dX7_gathers_54 : decode cX7_gathers 54 = .ok (.bipush 30, 2) := by decide +kernel
theorem dX7_gathers_56 : decode cX7_gathers 56 = .ok (.if_icmp .ge 140, 3) := by decide +kernel
theorem dX7_gathers_59 : decode cX7_gathers 59 = .ok (.bipush 30, 2) := by decide +kernel
theorem dX7_gathers_61 : decode cX7_gathers 61 = .ok (.iload_n 1, 1) := by decide +kernel
theorem dX7_gathers_62 : decode cX7_gathers 62 = .ok (.imul, 1) := by decide +kernel
theorem dX7_gathers_63 : decode cX7_gathers 63 = .ok (.aload_n 0, 1) := by decide +kernel
theorem dX7_gathers_64 : decode cX7_gathers 64 = .ok (.getfield 146, 3) := by decide +kernel
theorem dX7_gathers_67 : decode cX7_gathers 67 = .ok (.iload_n 1, 1) := by decide +kernel
theorem dX7_gathers_68 : decode cX7_gathers 68 = .ok (.iaload, 1) := by decide +kernel
theorem dX7_gathers_69 : decode cX7_gathers 69 = .ok (.iadd, 1) := by decide +kernel
theorem dX7_gathers_70 : decode cX7_gathers 70 = .ok (.istore 5, 2) := by decide +kernel
theorem dX7_gathers_72 : decode cX7_gathers 72 = .ok (.aload_n 0, 1) := by decide +kernel
theorem dX7_gathers_73 : decode cX7_gathers 73 = .ok (.getfield 149, 3) := by decide +kernel
theorem dX7_gathers_76 : decode cX7_gathers 76 = .ok (.iload 5, 2) := by decide +kernel
theorem dX7_gathers_78 : decode cX7_gathers 78 = .ok (.iconst 0, 1) := by decide +kernel
theorem dX7_gathers_79 : decode cX7_gathers 79 = .ok (.iastore, 1) := by decide +kernel
theorem dX7_gathers_80 : decode cX7_gathers 80 = .ok (.aload_n 0, 1) := by decide +kernel
theorem dX7_gathers_81 : decode cX7_gathers 81 = .ok (.getfield 152, 3) := by decide +kernel
theorem dX7_gathers_84 : decode cX7_gathers 84 = .ok (.iload 5, 2) := by decide +kernel
theorem dX7_gathers_86 : decode cX7_gathers 86 = .ok (.iload_n 2, 1) := by decide +kernel
theorem dX7_gathers_87 : decode cX7_gathers 87 = .ok (.iastore, 1) := by decide +kernel
theorem dX7_gathers_88 : decode cX7_gathers 88 = .ok (.aload_n 0, 1) := by decide +kernel
theorem dX7_gathers_89 : decode cX7_gathers 89 = .ok (.getfield 155, 3) := by decide +kernel
theorem dX7_gathers_92 : decode cX7_gathers 92 = .ok (.iload 5, 2) := by decide +kernel
theorem dX7_gathers_94 : decode cX7_gathers 94 = .ok (.iconst 0, 1) := by decide +kernel
theorem dX7_gathers_95 : decode cX7_gathers 95 = .ok (.iastore, 1) := by decide +kernel
theorem dX7_gathers_96 : decode cX7_gathers 96 = .ok (.aload_n 0, 1) := by decide +kernel
theorem dX7_gathers_97 : decode cX7_gathers 97 = .ok (.getfield 158, 3) := by decide +kernel
theorem dX7_gathers_100 : decode cX7_gathers 100 = .ok (.iload 5, 2) := by decide +kernel
theorem dX7_gathers_102 : decode cX7_gathers 102 = .ok (.iconst 0, 1) := by decide +kernel
theorem dX7_gathers_103 : decode cX7_gathers 103 = .ok (.iastore, 1) := by decide +kernel
theorem dX7_gathers_104 : decode cX7_gathers 104 = .ok (.aload_n 0, 1) := by decide +kernel
theorem dX7_gathers_105 : decode cX7_gathers 105 = .ok (.getfield 161, 3) := by decide +kernel
theorem dX7_gathers_108 : decode cX7_gathers 108 = .ok (.iload 5, 2) := by decide +kernel
theorem dX7_gathers_110 : decode cX7_gathers 110 = .ok (.aload_n 0, 1) := by decide +kernel
theorem dX7_gathers_111 : decode cX7_gathers 111 = .ok (.getfield 137, 3) := by decide +kernel
theorem dX7_gathers_114 : decode cX7_gathers 114 = .ok (.iload_n 1, 1) := by decide +kernel
theorem dX7_gathers_115 : decode cX7_gathers 115 = .ok (.iaload, 1) := by decide +kernel
theorem dX7_gathers_116 : decode cX7_gathers 116 = .ok (.iastore, 1) := by decide +kernel
theorem dX7_gathers_117 : decode cX7_gathers 117 = .ok (.aload_n 0, 1) := by decide +kernel
theorem dX7_gathers_118 : decode cX7_gathers 118 = .ok (.getfield 164, 3) := by decide +kernel
theorem dX7_gathers_121 : decode cX7_gathers 121 = .ok (.iload 5, 2) := by decide +kernel
theorem dX7_gathers_123 : decode cX7_gathers 123 = .ok (.iconst (-1), 1) := by decide +kernel
theorem dX7_gathers_124 : decode cX7_gathers 124 = .ok (.iastore, 1) := by decide +kernel
theorem dX7_gathers_125 : decode cX7_gathers 125 = .ok (.iconst 0, 1) := by decide +kernel
theorem dX7_gathers_126 : decode cX7_gathers 126 = .ok (.istore 6, 2) := by decide +kernel
theorem dX7_gathers_128 : decode cX7_gathers 128 = .ok (.iload 6, 2) := by decide +kernel
theorem dX7_gathers_130 : decode cX7_gathers 130 = .ok (.bipush 12, 2) := by decide +kernel
theorem dX7_gathers_132 : decode cX7_gathers 132 = .ok (.if_icmp .ge 38, 3) := by decide +kernel
theorem dX7_gathers_135 : decode cX7_gathers 135 = .ok (.aload_n 0, 1) := by decide +kernel
theorem dX7_gathers_136 : decode cX7_gathers 136 = .ok (.getfield 167, 3) := by decide +kernel
theorem dX7_gathers_139 : decode cX7_gathers 139 = .ok (.bipush 12, 2) := by decide +kernel
theorem dX7_gathers_141 : decode cX7_gathers 141 = .ok (.iload 5, 2) := by decide +kernel
theorem dX7_gathers_143 : decode cX7_gathers 143 = .ok (.imul, 1) := by decide +kernel
theorem dX7_gathers_144 : decode cX7_gathers 144 = .ok (.iload 6, 2) := by decide +kernel
theorem dX7_gathers_146 : decode cX7_gathers 146 = .ok (.iadd, 1) := by decide +kernel
theorem dX7_gathers_147 : decode cX7_gathers 147 = .ok (.iload 6, 2) := by decide +kernel
theorem dX7_gathers_149 : decode cX7_gathers 149 = .ok (.iload_n 2, 1) := by decide +kernel
theorem dX7_gathers_150 : decode cX7_gathers 150 = .ok (.if_icmp .ne 12, 3) := by decide +kernel
theorem dX7_gathers_153 : decode cX7_gathers 153 = .ok (.aload_n 0, 1) := by decide +kernel
theorem dX7_gathers_154 : decode cX7_gathers 154 = .ok (.getfield 110, 3) := by decide +kernel
theorem dX7_gathers_157 : decode cX7_gathers 157 = .ok (.iconst 4, 1) := by decide +kernel
theorem dX7_gathers_158 : decode cX7_gathers 158 = .ok (.iaload, 1) := by decide +kernel
theorem dX7_gathers_159 : decode cX7_gathers 159 = .ok (.goto 4, 3) := by decide +kernel
theorem dX7_gathers_162 : decode cX7_gathers 162 = .ok (.iconst 0, 1) := by decide +kernel
theorem dX7_gathers_163 : decode cX7_gathers 163 = .ok (.iastore, 1) := by decide +kernel
theorem dX7_gathers_164 : decode cX7_gathers 164 = .ok (.iinc 6 1, 3) := by decide +kernel
theorem dX7_gathers_167 : decode cX7_gathers 167 = .ok (.goto (-39), 3) := by decide +kernel
theorem dX7_gathers_170 : decode cX7_gathers 170 = .ok (.aload_n 0, 1) := by decide +kernel
theorem dX7_gathers_171 : decode cX7_gathers 171 = .ok (.getfield 128, 3) := by decide +kernel
theorem dX7_gathers_174 : decode cX7_gathers 174 = .ok (.bipush 60, 2) := by decide +kernel
theorem dX7_gathers_176 : decode cX7_gathers 176 = .ok (.iload_n 1, 1) := by decide +kernel
theorem dX7_gathers_177 : decode cX7_gathers 177 = .ok (.imul, 1) := by decide +kernel
theorem dX7_gathers_178 : decode cX7_gathers 178 = .ok (.iconst 5, 1) := by decide +kernel
theorem dX7_gathers_179 : decode cX7_gathers 179 = .ok (.iload_n 2, 1) := by decide +kernel
theorem dX7_gathers_180 : decode cX7_gathers 180 = .ok (.imul, 1) := by decide +kernel
theorem dX7_gathers_181 : decode cX7_gathers 181 = .ok (.iadd, 1) := by decide +kernel
theorem dX7_gathers_182 : decode cX7_gathers 182 = .ok (.iload_n 3, 1) := by decide +kernel
theorem dX7_gathers_183 : decode cX7_gathers 183 = .ok (.iadd, 1) := by decide +kernel
theorem dX7_gathers_184 : decode cX7_gathers 184 = .ok (.iconst 0, 1) := by decide +kernel
theorem dX7_gathers_185 : decode cX7_gathers 185 = .ok (.iastore, 1) := by decide +kernel
theorem dX7_gathers_186 : decode cX7_gathers 186 = .ok (.aload_n 0, 1) := by decide +kernel
theorem dX7_gathers_187 : decode cX7_gathers 187 = .ok (.getfield 146, 3) := by decide +kernel
theorem dX7_gathers_190 : decode cX7_gathers 190 = .ok (.iload_n 1, 1) := by decide +kernel
theorem dX7_gathers_191 : decode cX7_gathers 191 = .ok (.dup2, 1) := by decide +kernel
theorem dX7_gathers_192 : decode cX7_gathers 192 = .ok (.iaload, 1) := by decide +kernel
theorem dX7_gathers_193 : decode cX7_gathers 193 = .ok (.iconst 1, 1) := by decide +kernel
theorem dX7_gathers_194 : decode cX7_gathers 194 = .ok (.iadd, 1) := by decide +kernel
theorem dX7_gathers_195 : decode cX7_gathers 195 = .ok (.iastore, 1) := by decide +kernel
theorem dX7_gathers_196 : decode cX7_gathers 196 = .ok (.iinc 3 (-1), 3) := by decide +kernel
theorem dX7_gathers_199 : decode cX7_gathers 199 = .ok (.goto (-185), 3) := by decide +kernel
theorem dX7_gathers_202 : decode cX7_gathers 202 = .ok (.iinc 2 1, 3) := by decide +kernel
theorem dX7_gathers_205 : decode cX7_gathers 205 = .ok (.goto (-203), 3) := by decide +kernel
theorem dX7_gathers_208 : decode cX7_gathers 208 = .ok (.return_, 1) := by decide +kernel
theorem dX7_feeds_0 : decode cX7_feeds 0 = .ok (.iconst 0, 1) := by decide +kernel
theorem dX7_feeds_1 : decode cX7_feeds 1 = .ok (.istore_n 2, 1) := by decide +kernel
theorem dX7_feeds_2 : decode cX7_feeds 2 = .ok (.iload_n 2, 1) := by decide +kernel
theorem dX7_feeds_3 : decode cX7_feeds 3 = .ok (.aload_n 0, 1) := by decide +kernel
theorem dX7_feeds_4 : decode cX7_feeds 4 = .ok (.getfield 146, 3) := by decide +kernel
theorem dX7_feeds_7 : decode cX7_feeds 7 = .ok (.iload_n 1, 1) := by decide +kernel
theorem dX7_feeds_8 : decode cX7_feeds 8 = .ok (.iaload, 1) := by decide +kernel
theorem dX7_feeds_9 : decode cX7_feeds 9 = .ok (.if_icmp .ge 123, 3) := by decide +kernel
theorem dX7_feeds_12 : decode cX7_feeds 12 = .ok (.aload_n 0, 1) := by decide +kernel
theorem dX7_feeds_13 : decode cX7_feeds 13 = .ok (.iload_n 1, 1) := by decide +kernel
theorem dX7_feeds_14 : decode cX7_feeds 14 = .ok (.iload_n 2, 1) := by decide +kernel
theorem dX7_feeds_15 : decode cX7_feeds 15 = .ok (.invokevirtual 372, 3) := by decide +kernel
theorem dX7_feeds_18 : decode cX7_feeds 18 = .ok (.ifCond .eq 108, 3) := by decide +kernel
theorem dX7_feeds_21 : decode cX7_feeds 21 = .ok (.aload_n 0, 1) := by decide +kernel
theorem dX7_feeds_22 : decode cX7_feeds 22 = .ok (.iload_n 1, 1) := by decide +kernel
theorem dX7_feeds_23 : decode cX7_feeds 23 = .ok (.iload_n 2, 1) := by decide +kernel
theorem dX7_feeds_24 : decode cX7_feeds 24 = .ok (.invokevirtual 376, 3) := by decide +kernel
theorem dX7_feeds_27 : decode cX7_feeds 27 = .ok (.aload_n 0, 1) := by decide +kernel
theorem dX7_feeds_28 : decode cX7_feeds 28 = .ok (.iconst 4, 1) := by decide +kernel
theorem dX7_feeds_29 : decode cX7_feeds 29 = .ok (.invokevirtual 359, 3) := by decide +kernel
theorem dX7_feeds_32 : decode cX7_feeds 32 = .ok (.istore_n 3, 1) := by decide +kernel
theorem dX7_feeds_33 : decode cX7_feeds 33 = .ok (.aload_n 0, 1) := by decide +kernel
theorem dX7_feeds_34 : decode cX7_feeds 34 = .ok (.getfield 152, 3) := by decide +kernel
theorem dX7_feeds_37 : decode cX7_feeds 37 = .ok (.bipush 30, 2) := by decide +kernel
theorem dX7_feeds_39 : decode cX7_feeds 39 = .ok (.iload_n 1, 1) := by decide +kernel
theorem dX7_feeds_40 : decode cX7_feeds 40 = .ok (.imul, 1) := by decide +kernel
theorem dX7_feeds_41 : decode cX7_feeds 41 = .ok (.iload_n 2, 1) := by decide +kernel
theorem dX7_feeds_42 : decode cX7_feeds 42 = .ok (.iadd, 1) := by decide +kernel
theorem dX7_feeds_43 : decode cX7_feeds 43 = .ok (.iaload, 1) := by decide +kernel
theorem dX7_feeds_44 : decode cX7_feeds 44 = .ok (.istore 4, 2) := by decide +kernel
theorem dX7_feeds_46 : decode cX7_feeds 46 = .ok (.iconst 0, 1) := by decide +kernel
theorem dX7_feeds_47 : decode cX7_feeds 47 = .ok (.istore 5, 2) := by decide +kernel
theorem dX7_feeds_49 : decode cX7_feeds 49 = .ok (.iload 5, 2) := by decide +kernel
theorem dX7_feeds_51 : decode cX7_feeds 51 = .ok (.iconst 5, 1) := by decide +kernel
theorem dX7_feeds_52 : decode cX7_feeds 52 = .ok (.if_icmp .ge 74, 3) := by decide +kernel
theorem dX7_feeds_55 : decode cX7_feeds 55 = .ok (.iload_n 3, 1) := by decide +kernel
theorem dX7_feeds_56 : decode cX7_feeds 56 = .ok (.ifCond .le 70, 3) := by decide +kernel
theorem dX7_feeds_59 : decode cX7_feeds 59 = .ok (.bipush 60, 2) := by decide +kernel
theorem dX7_feeds_61 : decode cX7_feeds 61 = .ok (.iload_n 1, 1) := by decide +kernel
theorem dX7_feeds_62 : decode cX7_feeds 62 = .ok (.imul, 1) := by decide +kernel
theorem dX7_feeds_63 : decode cX7_feeds 63 = .ok (.iconst 5, 1) := by decide +kernel
theorem dX7_feeds_64 : decode cX7_feeds 64 = .ok (.iload 4, 2) := by decide +kernel
theorem dX7_feeds_66 : decode cX7_feeds 66 = .ok (.imul, 1) := by decide +kernel
theorem dX7_feeds_67 : decode cX7_feeds 67 = .ok (.iadd, 1) := by decide +kernel
theorem dX7_feeds_68 : decode cX7_feeds 68 = .ok (.iload 5, 2) := by decide +kernel
theorem dX7_feeds_70 : decode cX7_feeds 70 = .ok (.iadd, 1) := by decide +kernel
theorem dX7_feeds_71 : decode cX7_feeds 71 = .ok (.istore 6, 2) := by decide +kernel
theorem dX7_feeds_73 : decode cX7_feeds 73 = .ok (.aload_n 0, 1) := by decide +kernel
theorem dX7_feeds_74 : decode cX7_feeds 74 = .ok (.getfield 128, 3) := by decide +kernel
theorem dX7_feeds_77 : decode cX7_feeds 77 = .ok (.iload 6, 2) := by decide +kernel
theorem dX7_feeds_79 : decode cX7_feeds 79 = .ok (.iaload, 1) := by decide +kernel
theorem dX7_feeds_80 : decode cX7_feeds 80 = .ok (.iload_n 3, 1) := by decide +kernel
theorem dX7_feeds_81 : decode cX7_feeds 81 = .ok (.invokestatic 369, 3) := by decide +kernel
theorem dX7_feeds_84 : decode cX7_feeds 84 = .ok (.istore 7, 2) := by decide +kernel
theorem dX7_feeds_86 : decode cX7_feeds 86 = .ok (.aload_n 0, 1) := by decide +kernel
theorem dX7_feeds_87 : decode cX7_feeds 87 = .ok (.getfield 128, 3) := by decide +kernel
theorem dX7_feeds_90 : decode cX7_feeds 90 = .ok (.iload 6, 2) := by decide +kernel
theorem dX7_feeds_92 : decode cX7_feeds 92 = .ok (.dup2, 1) := by decide +kernel
theorem dX7_feeds_93 : decode cX7_feeds 93 = .ok (.iaload, 1) := by decide +kernel
theorem dX7_feeds_94 : decode cX7_feeds 94 = .ok (.iload 7, 2) := by decide +kernel
theorem dX7_feeds_96 : decode cX7_feeds 96 = .ok (.isub, 1) := by decide +kernel
theorem dX7_feeds_97 : decode cX7_feeds 97 = .ok (.iastore, 1) := by decide +kernel
theorem dX7_feeds_98 : decode cX7_feeds 98 = .ok (.aload_n 0, 1) := by decide +kernel
theorem dX7_feeds_99 : decode cX7_feeds 99 = .ok (.getfield 167, 3) := by decide +kernel
theorem dX7_feeds_102 : decode cX7_feeds 102 = .ok (.bipush 12, 2) := by decide +kernel
theorem dX7_feeds_104 : decode cX7_feeds 104 = .ok (.bipush 30, 2) := by decide +kernel
theorem dX7_feeds_106 : decode cX7_feeds 106 = .ok (.iload_n 1, 1) := by decide +kernel
theorem dX7_feeds_107 : decode cX7_feeds 107 = .ok (.imul, 1) := by decide +kernel
theorem dX7_feeds_108 : decode cX7_feeds 108 = .ok (.iload_n 2, 1) := by decide +kernel
theorem dX7_feeds_109 : decode cX7_feeds 109 = .ok (.iadd, 1) := by decide +kernel
theorem dX7_feeds_110 : decode cX7_feeds 110 = .ok (.imul, 1) := by decide +kernel
theorem dX7_feeds_111 : decode cX7_feeds 111 = .ok (.iload 4, 2) := by decide +kernel
theorem dX7_feeds_113 : decode cX7_feeds 113 = .ok (.iadd, 1) := by decide +kernel
theorem dX7_feeds_114 : decode cX7_feeds 114 = .ok (.dup2, 1) := by decide +kernel
theorem dX7_feeds_115 : decode cX7_feeds 115 = .ok (.iaload, 1) := by decide +kernel
theorem dX7_feeds_116 : decode cX7_feeds 116 = .ok (.iload 7, 2) := by decide +kernel
theorem dX7_feeds_118 : decode cX7_feeds 118 = .ok (.iadd, 1) := by decide +kernel
theorem dX7_feeds_119 : decode cX7_feeds 119 = .ok (.iastore, 1) := by decide +kernel
theorem dX7_feeds_120 : decode cX7_feeds 120 = .ok (.iinc 5 1, 3) := by decide +kernel
theorem dX7_feeds_123 : decode cX7_feeds 123 = .ok (.goto (-74), 3) := by decide +kernel
theorem dX7_feeds_126 : decode cX7_feeds 126 = .ok (.iinc 2 1, 3) := by decide +kernel
theorem dX7_feeds_129 : decode cX7_feeds 129 = .ok (.goto (-127), 3) := by decide +kernel
theorem dX7_feeds_132 : decode cX7_feeds 132 = .ok (.return_, 1) := by decide +kernel
theorem dX7_eats_0 : decode cX7_eats 0 = .ok (.iconst 0, 1) := by decide +kernel
theorem dX7_eats_1 : decode cX7_eats 1 = .ok (.istore_n 2, 1) := by decide +kernel
theorem dX7_eats_2 : decode cX7_eats 2 = .ok (.iload_n 2, 1) := by decide +kernel
theorem dX7_eats_3 : decode cX7_eats 3 = .ok (.aload_n 0, 1) := by decide +kernel
theorem dX7_eats_4 : decode cX7_eats 4 = .ok (.getfield 146, 3) := by decide +kernel
theorem dX7_eats_7 : decode cX7_eats 7 = .ok (.iload_n 1, 1) := by decide +kernel
theorem dX7_eats_8 : decode cX7_eats 8 = .ok (.iaload, 1) := by decide +kernel
theorem dX7_eats_9 : decode cX7_eats 9 = .ok (.if_icmp .ge 97, 3) := by decide +kernel
theorem dX7_eats_12 : decode cX7_eats 12 = .ok (.aload_n 0, 1) := by decide +kernel
theorem dX7_eats_13 : decode cX7_eats 13 = .ok (.iload_n 1, 1) := by decide +kernel
theorem dX7_eats_14 : decode cX7_eats 14 = .ok (.iload_n 2, 1) := by decide +kernel
theorem dX7_eats_15 : decode cX7_eats 15 = .ok (.invokevirtual 372, 3) := by decide +kernel
theorem dX7_eats_18 : decode cX7_eats 18 = .ok (.ifCond .eq 82, 3) := by decide +kernel
theorem dX7_eats_21 : decode cX7_eats 21 = .ok (.aload_n 0, 1) := by decide +kernel
theorem dX7_eats_22 : decode cX7_eats 22 = .ok (.iload_n 1, 1) := by decide +kernel
theorem dX7_eats_23 : decode cX7_eats 23 = .ok (.iload_n 2, 1) := by decide +kernel
theorem dX7_eats_24 : decode cX7_eats 24 = .ok (.invokevirtual 376, 3) := by decide +kernel
theorem dX7_eats_27 : decode cX7_eats 27 = .ok (.aload_n 0, 1) := by decide +kernel
theorem dX7_eats_28 : decode cX7_eats 28 = .ok (.iconst 5, 1) := by decide +kernel
theorem dX7_eats_29 : decode cX7_eats 29 = .ok (.invokevirtual 359, 3) := by decide +kernel
theorem dX7_eats_32 : decode cX7_eats 32 = .ok (.istore_n 3, 1) := by decide +kernel
theorem dX7_eats_33 : decode cX7_eats 33 = .ok (.bipush 12, 2) := by decide +kernel
theorem dX7_eats_35 : decode cX7_eats 35 = .ok (.iload_n 1, 1) := by decide +kernel
theorem dX7_eats_36 : decode cX7_eats 36 = .ok (.imul, 1) := by decide +kernel
theorem dX7_eats_37 : decode cX7_eats 37 = .ok (.aload_n 0, 1) := by decide +kernel
theorem dX7_eats_38 : decode cX7_eats 38 = .ok (.getfield 152, 3) := by decide +kernel
theorem dX7_eats_41 : decode cX7_eats 41 = .ok (.bipush 30, 2) := by decide +kernel
theorem dX7_eats_43 : decode cX7_eats 43 = .ok (.iload_n 1, 1) := by decide +kernel
theorem dX7_eats_44 : decode cX7_eats 44 = .ok (.imul, 1) := by decide +kernel
theorem dX7_eats_45 : decode cX7_eats 45 = .ok (.iload_n 2, 1) := by decide +kernel
theorem dX7_eats_46 : decode cX7_eats 46 = .ok (.iadd, 1) := by decide +kernel
theorem dX7_eats_47 : decode cX7_eats 47 = .ok (.iaload, 1) := by decide +kernel
theorem dX7_eats_48 : decode cX7_eats 48 = .ok (.iadd, 1) := by decide +kernel
theorem dX7_eats_49 : decode cX7_eats 49 = .ok (.istore 4, 2) := by decide +kernel
theorem dX7_eats_51 : decode cX7_eats 51 = .ok (.iload_n 3, 1) := by decide +kernel
theorem dX7_eats_52 : decode cX7_eats 52 = .ok (.ifCond .le 17, 3) := by decide +kernel
theorem dX7_eats_55 : decode cX7_eats 55 = .ok (.aload_n 0, 1) := by decide +kernel
theorem dX7_eats_56 : decode cX7_eats 56 = .ok (.getfield 119, 3) := by decide +kernel
theorem dX7_eats_59 : decode cX7_eats 59 = .ok (.iload 4, 2) := by decide +kernel
theorem dX7_eats_61 : decode cX7_eats 61 = .ok (.iaload, 1) := by decide +kernel
theorem dX7_eats_62 : decode cX7_eats 62 = .ok (.iload_n 3, 1) := by decide +kernel
theorem dX7_eats_63 : decode cX7_eats 63 = .ok (.invokestatic 369, 3) := by decide +kernel
theorem dX7_eats_66 : decode cX7_eats 66 = .ok (.goto 4, 3) := by decide +kernel
theorem dX7_eats_69 : decode cX7_eats 69 = .ok (.iconst 0, 1) := by decide +kernel
theorem dX7_eats_70 : decode cX7_eats 70 = .ok (.istore 5, 2) := by decide +kernel
theorem dX7_eats_72 : decode cX7_eats 72 = .ok (.aload_n 0, 1) := by decide +kernel
theorem dX7_eats_73 : decode cX7_eats 73 = .ok (.getfield 119, 3) := by decide +kernel
theorem dX7_eats_76 : decode cX7_eats 76 = .ok (.iload 4, 2) := by decide +kernel
theorem dX7_eats_78 : decode cX7_eats 78 = .ok (.dup2, 1) := by decide +kernel
theorem dX7_eats_79 : decode cX7_eats 79 = .ok (.iaload, 1) := by decide +kernel
theorem dX7_eats_80 : decode cX7_eats 80 = .ok (.iload 5, 2) := by decide +kernel
theorem dX7_eats_82 : decode cX7_eats 82 = .ok (.isub, 1) := by decide +kernel
theorem dX7_eats_83 : decode cX7_eats 83 = .ok (.iastore, 1) := by decide +kernel
theorem dX7_eats_84 : decode cX7_eats 84 = .ok (.aload_n 0, 1) := by decide +kernel
theorem dX7_eats_85 : decode cX7_eats 85 = .ok (.getfield 155, 3) := by decide +kernel
theorem dX7_eats_88 : decode cX7_eats 88 = .ok (.bipush 30, 2) := by decide +kernel
theorem dX7_eats_90 : decode cX7_eats 90 = .ok (.iload_n 1, 1) := by decide +kernel
theorem dX7_eats_91 : decode cX7_eats 91 = .ok (.imul, 1) := by decide +kernel
theorem dX7_eats_92 : decode cX7_eats 92 = .ok (.iload_n 2, 1) := by decide +kernel
theorem dX7_eats_93 : decode cX7_eats 93 = .ok (.iadd, 1) := by decide +kernel
theorem dX7_eats_94 : decode cX7_eats 94 = .ok (.dup2, 1) := by decide +kernel
theorem dX7_eats_95 : decode cX7_eats 95 = .ok (.iaload, 1) := by decide +kernel
theorem dX7_eats_96 : decode cX7_eats 96 = .ok (.iload 5, 2) := by decide +kernel
theorem dX7_eats_98 : decode cX7_eats 98 = .ok (.iadd, 1) := by decide +kernel
theorem dX7_eats_99 : decode cX7_eats 99 = .ok (.iastore, 1) := by decide +kernel
theorem dX7_eats_100 : decode cX7_eats 100 = .ok (.iinc 2 1, 3) := by decide +kernel
theorem dX7_eats_103 : decode cX7_eats 103 = .ok (.goto (-101), 3) := by decide +kernel
theorem dX7_eats_106 : decode cX7_eats 106 = .ok (.return_, 1) := by decide +kernel
theorem dX7_isLocked_0 : decode cX7_isLocked 0 = .ok (.aload_n 0, 1) := by decide +kernel
theorem dX7_isLocked_1 : decode cX7_isLocked 1 = .ok (.getfield 152, 3) := by decide +kernel
theorem dX7_isLocked_4 : decode cX7_isLocked 4 = .ok (.bipush 30, 2) := by decide +kernel
theorem dX7_isLocked_6 : decode cX7_isLocked 6 = .ok (.iload_n 1, 1) := by decide +kernel
theorem dX7_isLocked_7 : decode cX7_isLocked 7 = .ok (.imul, 1) := by decide +kernel
theorem dX7_isLocked_8 : decode cX7_isLocked 8 = .ok (.iload_n 2, 1) := by decide +kernel
theorem dX7_isLocked_9 : decode cX7_isLocked 9 = .ok (.iadd, 1) := by decide +kernel
theorem dX7_isLocked_10 : decode cX7_isLocked 10 = .ok (.iaload, 1) := by decide +kernel
theorem dX7_isLocked_11 : decode cX7_isLocked 11 = .ok (.istore_n 3, 1) := by decide +kernel
theorem dX7_isLocked_12 : decode cX7_isLocked 12 = .ok (.iconst 0, 1) := by decide +kernel
theorem dX7_isLocked_13 : decode cX7_isLocked 13 = .ok (.istore 4, 2) := by decide +kernel
theorem dX7_isLocked_15 : decode cX7_isLocked 15 = .ok (.iconst 0, 1) := by decide +kernel
theorem dX7_isLocked_16 : decode cX7_isLocked 16 = .ok (.istore 5, 2) := by decide +kernel
theorem dX7_isLocked_18 : decode cX7_isLocked 18 = .ok (.iload 5, 2) := by decide +kernel
theorem dX7_isLocked_20 : decode cX7_isLocked 20 = .ok (.aload_n 0, 1) := by decide +kernel
theorem dX7_isLocked_21 : decode cX7_isLocked 21 = .ok (.getfield 146, 3) := by decide +kernel
theorem dX7_isLocked_24 : decode cX7_isLocked 24 = .ok (.iload_n 1, 1) := by decide +kernel
theorem dX7_isLocked_25 : decode cX7_isLocked 25 = .ok (.iaload, 1) := by decide +kernel
theorem dX7_isLocked_26 : decode cX7_isLocked 26 = .ok (.if_icmp .ge 98, 3) := by decide +kernel
theorem dX7_isLocked_29 : decode cX7_isLocked 29 = .ok (.aload_n 0, 1) := by decide +kernel
theorem dX7_isLocked_30 : decode cX7_isLocked 30 = .ok (.getfield 152, 3) := by decide +kernel
theorem dX7_isLocked_33 : decode cX7_isLocked 33 = .ok (.bipush 30, 2) := by decide +kernel
theorem dX7_isLocked_35 : decode cX7_isLocked 35 = .ok (.iload_n 1, 1) := by decide +kernel
theorem dX7_isLocked_36 : decode cX7_isLocked 36 = .ok (.imul, 1) := by decide +kernel
theorem dX7_isLocked_37 : decode cX7_isLocked 37 = .ok (.iload 5, 2) := by decide +kernel
theorem dX7_isLocked_39 : decode cX7_isLocked 39 = .ok (.iadd, 1) := by decide +kernel
theorem dX7_isLocked_40 : decode cX7_isLocked 40 = .ok (.iaload, 1) := by decide +kernel
theorem dX7_isLocked_41 : decode cX7_isLocked 41 = .ok (.istore 6, 2) := by decide +kernel
theorem dX7_isLocked_43 : decode cX7_isLocked 43 = .ok (.aload_n 0, 1) := by decide +kernel
theorem dX7_isLocked_44 : decode cX7_isLocked 44 = .ok (.iload_n 1, 1) := by decide +kernel
theorem dX7_isLocked_45 : decode cX7_isLocked 45 = .ok (.iload 5, 2) := by decide +kernel
theorem dX7_isLocked_47 : decode cX7_isLocked 47 = .ok (.invokevirtual 372, 3) := by decide +kernel
theorem dX7_isLocked_50 : decode cX7_isLocked 50 = .ok (.ifCond .eq 68, 3) := by decide +kernel
theorem dX7_isLocked_53 : decode cX7_isLocked 53 = .ok (.iload 6, 2) := by decide +kernel
theorem dX7_isLocked_55 : decode cX7_isLocked 55 = .ok (.iload_n 3, 1) := by decide +kernel
theorem dX7_isLocked_56 : decode cX7_isLocked 56 = .ok (.if_icmp .ge 62, 3) := by decide +kernel
theorem dX7_isLocked_59 : decode cX7_isLocked 59 = .ok (.aload_n 0, 1) := by decide +kernel
theorem dX7_isLocked_60 : decode cX7_isLocked 60 = .ok (.getfield 125, 3) := by decide +kernel
theorem dX7_isLocked_63 : decode cX7_isLocked 63 = .ok (.bipush 12, 2) := by decide +kernel
theorem dX7_isLocked_65 : decode cX7_isLocked 65 = .ok (.iload_n 1, 1) := by decide +kernel
theorem dX7_isLocked_66 : decode cX7_isLocked 66 = .ok (.imul, 1) := by decide +kernel
theorem dX7_isLocked_67 : decode cX7_isLocked 67 = .ok (.iload_n 3, 1) := by decide +kernel
theorem dX7_isLocked_68 : decode cX7_isLocked 68 = .ok (.iadd, 1) := by decide +kernel
theorem dX7_isLocked_69 : decode cX7_isLocked 69 = .ok (.iaload, 1) := by decide +kernel
theorem dX7_isLocked_70 : decode cX7_isLocked 70 = .ok (.istore 7, 2) := by decide +kernel
theorem dX7_isLocked_72 : decode cX7_isLocked 72 = .ok (.aload_n 0, 1) := by decide +kernel
theorem dX7_isLocked_73 : decode cX7_isLocked 73 = .ok (.getfield 125, 3) := by decide +kernel
theorem dX7_isLocked_76 : decode cX7_isLocked 76 = .ok (.bipush 12, 2) := by decide +kernel
theorem dX7_isLocked_78 : decode cX7_isLocked 78 = .ok (.iload_n 1, 1) := by decide +kernel
theorem dX7_isLocked_79 : decode cX7_isLocked 79 = .ok (.imul, 1) := by decide +kernel
theorem dX7_isLocked_80 : decode cX7_isLocked 80 = .ok (.iload 6, 2) := by decide +kernel
theorem dX7_isLocked_82 : decode cX7_isLocked 82 = .ok (.iadd, 1) := by decide +kernel
theorem dX7_isLocked_83 : decode cX7_isLocked 83 = .ok (.iaload, 1) := by decide +kernel
theorem dX7_isLocked_84 : decode cX7_isLocked 84 = .ok (.istore 8, 2) := by decide +kernel
theorem dX7_isLocked_86 : decode cX7_isLocked 86 = .ok (.iload 4, 2) := by decide +kernel
theorem dX7_isLocked_88 : decode cX7_isLocked 88 = .ok (.ifCond .ne 23, 3) := by decide +kernel
theorem dX7_isLocked_91 : decode cX7_isLocked 91 = .ok (.iload 7, 2) := by decide +kernel
theorem dX7_isLocked_93 : decode cX7_isLocked 93 = .ok (.iconst 2, 1) := by decide +kernel
theorem dX7_isLocked_94 : decode cX7_isLocked 94 = .ok (.iload 8, 2) := by decide +kernel
theorem dX7_isLocked_96 : decode cX7_isLocked 96 = .ok (.imul, 1) := by decide +kernel
theorem dX7_isLocked_97 : decode cX7_isLocked 97 = .ok (.if_icmp .eq 14, 3) := by decide +kernel
theorem dX7_isLocked_100 : decode cX7_isLocked 100 = .ok (.iconst 2, 1) := by decide +kernel
theorem dX7_isLocked_101 : decode cX7_isLocked 101 = .ok (.iload 7, 2) := by decide +kernel
theorem dX7_isLocked_103 : decode cX7_isLocked 103 = .ok (.imul, 1) := by decide +kernel
theorem dX7_isLocked_104 : decode cX7_isLocked 104 = .ok (.iconst 3, 1) := by decide +kernel
theorem dX7_isLocked_105 : decode cX7_isLocked 105 = .ok (.iload 8, 2) := by decide +kernel
theorem dX7_isLocked_107 : decode cX7_isLocked 107 = .ok (.imul, 1) := by decide +kernel
theorem dX7_isLocked_108 : decode cX7_isLocked 108 = .ok (.if_icmp .ne 7, 3) := by decide +kernel
theorem dX7_isLocked_111 : decode cX7_isLocked 111 = .ok (.iconst 1, 1) := by decide +kernel
theorem dX7_isLocked_112 : decode cX7_isLocked 112 = .ok (.goto 4, 3) := by decide +kernel
theorem dX7_isLocked_115 : decode cX7_isLocked 115 = .ok (.iconst 0, 1) := by decide +kernel
theorem dX7_isLocked_116 : decode cX7_isLocked 116 = .ok (.istore 4, 2) := by decide +kernel
theorem dX7_isLocked_118 : decode cX7_isLocked 118 = .ok (.iinc 5 1, 3) := by decide +kernel
theorem dX7_isLocked_121 : decode cX7_isLocked 121 = .ok (.goto (-103), 3) := by decide +kernel
theorem dX7_isLocked_124 : decode cX7_isLocked 124 = .ok (.iload 4, 2) := by decide +kernel
theorem dX7_isLocked_126 : decode cX7_isLocked 126 = .ok (.ireturn, 1) := by decide +kernel
theorem dX7_wanders_0 : decode cX7_wanders 0 = .ok (.iconst 0, 1) := by decide +kernel
theorem dX7_wanders_1 : decode cX7_wanders 1 = .ok (.istore_n 2, 1) := by decide +kernel
theorem dX7_wanders_2 : decode cX7_wanders 2 = .ok (.iload_n 2, 1) := by decide +kernel
end
section
theorem dX7_wanders_3 : decode cX7_wanders 3 = .ok (.aload_n 0, 1) := by decide +kernel
theorem dX7_wanders_4 : decode cX7_wanders 4 = .ok (.getfield 146, 3) := by decide +kernel
theorem dX7_wanders_7 : decode cX7_wanders 7 = .ok (.iload_n 1, 1) := by decide +kernel
theorem dX7_wanders_8 : decode cX7_wanders 8 = .ok (.iaload, 1) := by decide +kernel
theorem dX7_wanders_9 : decode cX7_wanders 9 = .ok (.if_icmp .ge 88, 3) := by decide +kernel
theorem dX7_wanders_12 : decode cX7_wanders 12 = .ok (.aload_n 0, 1) := by decide +kernel
theorem dX7_wanders_13 : decode cX7_wanders 13 = .ok (.iload_n 1, 1) := by decide +kernel
theorem dX7_wanders_14 : decode cX7_wanders 14 = .ok (.iload_n 2, 1) := by decide +kernel
theorem dX7_wanders_15 : decode cX7_wanders 15 = .ok (.invokevirtual 372, 3) := by decide +kernel
theorem dX7_wanders_18 : decode cX7_wanders 18 = .ok (.ifCond .eq 73, 3) := by decide +kernel
theorem dX7_wanders_21 : decode cX7_wanders 21 = .ok (.aload_n 0, 1) := by decide +kernel
theorem dX7_wanders_22 : decode cX7_wanders 22 = .ok (.iload_n 1, 1) := by decide +kernel
theorem dX7_wanders_23 : decode cX7_wanders 23 = .ok (.iload_n 2, 1) := by decide +kernel
theorem dX7_wanders_24 : decode cX7_wanders 24 = .ok (.invokevirtual 376, 3) := by decide +kernel
theorem dX7_wanders_27 : decode cX7_wanders 27 = .ok (.aload_n 0, 1) := by decide +kernel
theorem dX7_wanders_28 : decode cX7_wanders 28 = .ok (.bipush 6, 2) := by decide +kernel
theorem dX7_wanders_30 : decode cX7_wanders 30 = .ok (.invokevirtual 359, 3) := by decide +kernel
theorem dX7_wanders_33 : decode cX7_wanders 33 = .ok (.istore_n 3, 1) := by decide +kernel
theorem dX7_wanders_34 : decode cX7_wanders 34 = .ok (.bipush 30, 2) := by decide +kernel
theorem dX7_wanders_36 : decode cX7_wanders 36 = .ok (.iload_n 1, 1) := by decide +kernel
theorem dX7_wanders_37 : decode cX7_wanders 37 = .ok (.imul, 1) := by decide +kernel
theorem dX7_wanders_38 : decode cX7_wanders 38 = .ok (.iload_n 2, 1) := by decide +kernel
theorem dX7_wanders_39 : decode cX7_wanders 39 = .ok (.iadd, 1) := by decide +kernel
theorem dX7_wanders_40 : decode cX7_wanders 40 = .ok (.istore 4, 2) := by decide +kernel
theorem dX7_wanders_42 : decode cX7_wanders 42 = .ok (.iload_n 3, 1) := by decide +kernel
theorem dX7_wanders_43 : decode cX7_wanders 43 = .ok (.ifCond .lt 48, 3) := by decide +kernel
theorem dX7_wanders_46 : decode cX7_wanders 46 = .ok (.aload_n 0, 1) := by decide +kernel
theorem dX7_wanders_47 : decode cX7_wanders 47 = .ok (.iload_n 1, 1) := by decide +kernel
theorem dX7_wanders_48 : decode cX7_wanders 48 = .ok (.iload_n 2, 1) := by decide +kernel
theorem dX7_wanders_49 : decode cX7_wanders 49 = .ok (.invokevirtual 385, 3) := by decide +kernel
theorem dX7_wanders_52 : decode cX7_wanders 52 = .ok (.ifCond .ne 39, 3) := by decide +kernel
theorem dX7_wanders_55 : decode cX7_wanders 55 = .ok (.aload_n 0, 1) := by decide +kernel
theorem dX7_wanders_56 : decode cX7_wanders 56 = .ok (.getfield 158, 3) := by decide +kernel
theorem dX7_wanders_59 : decode cX7_wanders 59 = .ok (.iload 4, 2) := by decide +kernel
theorem dX7_wanders_61 : decode cX7_wanders 61 = .ok (.dup2, 1) := by decide +kernel
theorem dX7_wanders_62 : decode cX7_wanders 62 = .ok (.iaload, 1) := by decide +kernel
theorem dX7_wanders_63 : decode cX7_wanders 63 = .ok (.iconst 1, 1) := by decide +kernel
theorem dX7_wanders_64 : decode cX7_wanders 64 = .ok (.iadd, 1) := by decide +kernel
theorem dX7_wanders_65 : decode cX7_wanders 65 = .ok (.iastore, 1) := by decide +kernel
theorem dX7_wanders_66 : decode cX7_wanders 66 = .ok (.aload_n 0, 1) := by decide +kernel
theorem dX7_wanders_67 : decode cX7_wanders 67 = .ok (.getfield 158, 3) := by decide +kernel
theorem dX7_wanders_70 : decode cX7_wanders 70 = .ok (.iload 4, 2) := by decide +kernel
theorem dX7_wanders_72 : decode cX7_wanders 72 = .ok (.iaload, 1) := by decide +kernel
theorem dX7_wanders_73 : decode cX7_wanders 73 = .ok (.iload_n 3, 1) := by decide +kernel
theorem dX7_wanders_74 : decode cX7_wanders 74 = .ok (.if_icmp .lt 17, 3) := by decide +kernel
theorem dX7_wanders_77 : decode cX7_wanders 77 = .ok (.aload_n 0, 1) := by decide +kernel
theorem dX7_wanders_78 : decode cX7_wanders 78 = .ok (.getfield 158, 3) := by decide +kernel
theorem dX7_wanders_81 : decode cX7_wanders 81 = .ok (.iload 4, 2) := by decide +kernel
theorem dX7_wanders_83 : decode cX7_wanders 83 = .ok (.iconst 0, 1) := by decide +kernel
theorem dX7_wanders_84 : decode cX7_wanders 84 = .ok (.iastore, 1) := by decide +kernel
theorem dX7_wanders_85 : decode cX7_wanders 85 = .ok (.aload_n 0, 1) := by decide +kernel
theorem dX7_wanders_86 : decode cX7_wanders 86 = .ok (.iload_n 1, 1) := by decide +kernel
theorem dX7_wanders_87 : decode cX7_wanders 87 = .ok (.iload_n 2, 1) := by decide +kernel
theorem dX7_wanders_88 : decode cX7_wanders 88 = .ok (.invokevirtual 388, 3) := by decide +kernel
theorem dX7_wanders_91 : decode cX7_wanders 91 = .ok (.iinc 2 1, 3) := by decide +kernel
theorem dX7_wanders_94 : decode cX7_wanders 94 = .ok (.goto (-92), 3) := by decide +kernel
theorem dX7_wanders_97 : decode cX7_wanders 97 = .ok (.return_, 1) := by decide +kernel
theorem dX7_goes_0 : decode cX7_goes 0 = .ok (.bipush 30, 2) := by decide +kernel
theorem dX7_goes_2 : decode cX7_goes 2 = .ok (.iload_n 1, 1) := by decide +kernel
theorem dX7_goes_3 : decode cX7_goes 3 = .ok (.imul, 1) := by decide +kernel
theorem dX7_goes_4 : decode cX7_goes 4 = .ok (.iload_n 2, 1) := by decide +kernel
theorem dX7_goes_5 : decode cX7_goes 5 = .ok (.iadd, 1) := by decide +kernel
theorem dX7_goes_6 : decode cX7_goes 6 = .ok (.istore_n 3, 1) := by decide +kernel
theorem dX7_goes_7 : decode cX7_goes 7 = .ok (.aload_n 0, 1) := by decide +kernel
theorem dX7_goes_8 : decode cX7_goes 8 = .ok (.getfield 152, 3) := by decide +kernel
theorem dX7_goes_11 : decode cX7_goes 11 = .ok (.iload_n 3, 1) := by decide +kernel
theorem dX7_goes_12 : decode cX7_goes 12 = .ok (.iaload, 1) := by decide +kernel
theorem dX7_goes_13 : decode cX7_goes 13 = .ok (.aload_n 0, 1) := by decide +kernel
theorem dX7_goes_14 : decode cX7_goes 14 = .ok (.iload_n 1, 1) := by decide +kernel
theorem dX7_goes_15 : decode cX7_goes 15 = .ok (.aload_n 0, 1) := by decide +kernel
theorem dX7_goes_16 : decode cX7_goes 16 = .ok (.getfield 152, 3) := by decide +kernel
theorem dX7_goes_19 : decode cX7_goes 19 = .ok (.iload_n 3, 1) := by decide +kernel
theorem dX7_goes_20 : decode cX7_goes 20 = .ok (.iaload, 1) := by decide +kernel
theorem dX7_goes_21 : decode cX7_goes 21 = .ok (.invokevirtual 382, 3) := by decide +kernel
theorem dX7_goes_24 : decode cX7_goes 24 = .ok (.iadd, 1) := by decide +kernel
theorem dX7_goes_25 : decode cX7_goes 25 = .ok (.istore 4, 2) := by decide +kernel
theorem dX7_goes_27 : decode cX7_goes 27 = .ok (.iload 4, 2) := by decide +kernel
theorem dX7_goes_29 : decode cX7_goes 29 = .ok (.ifCond .ge 29, 3) := by decide +kernel
theorem dX7_goes_32 : decode cX7_goes 32 = .ok (.aload_n 0, 1) := by decide +kernel
theorem dX7_goes_33 : decode cX7_goes 33 = .ok (.getfield 149, 3) := by decide +kernel
theorem dX7_goes_36 : decode cX7_goes 36 = .ok (.iload_n 3, 1) := by decide +kernel
theorem dX7_goes_37 : decode cX7_goes 37 = .ok (.iconst 2, 1) := by decide +kernel
theorem dX7_goes_38 : decode cX7_goes 38 = .ok (.iastore, 1) := by decide +kernel
theorem dX7_goes_39 : decode cX7_goes 39 = .ok (.aload_n 0, 1) := by decide +kernel
theorem dX7_goes_40 : decode cX7_goes 40 = .ok (.getfield 140, 3) := by decide +kernel
theorem dX7_goes_43 : decode cX7_goes 43 = .ok (.iload_n 1, 1) := by decide +kernel
theorem dX7_goes_44 : decode cX7_goes 44 = .ok (.dup2, 1) := by decide +kernel
theorem dX7_goes_45 : decode cX7_goes 45 = .ok (.laload, 1) := by decide +kernel
theorem dX7_goes_46 : decode cX7_goes 46 = .ok (.aload_n 0, 1) := by decide +kernel
theorem dX7_goes_47 : decode cX7_goes 47 = .ok (.iload_n 1, 1) := by decide +kernel
theorem dX7_goes_48 : decode cX7_goes 48 = .ok (.iload_n 2, 1) := by decide +kernel
theorem dX7_goes_49 : decode cX7_goes 49 = .ok (.invokevirtual 326, 3) := by decide +kernel
theorem dX7_goes_52 : decode cX7_goes 52 = .ok (.i2l, 1) := by decide +kernel
theorem dX7_goes_53 : decode cX7_goes 53 = .ok (.ladd, 1) := by decide +kernel
theorem dX7_goes_54 : decode cX7_goes 54 = .ok (.lastore, 1) := by decide +kernel
theorem dX7_goes_55 : decode cX7_goes 55 = .ok (.goto 11, 3) := by decide +kernel
theorem dX7_goes_58 : decode cX7_goes 58 = .ok (.aload_n 0, 1) := by decide +kernel
theorem dX7_goes_59 : decode cX7_goes 59 = .ok (.getfield 152, 3) := by decide +kernel
theorem dX7_goes_62 : decode cX7_goes 62 = .ok (.iload_n 3, 1) := by decide +kernel
theorem dX7_goes_63 : decode cX7_goes 63 = .ok (.iload 4, 2) := by decide +kernel
theorem dX7_goes_65 : decode cX7_goes 65 = .ok (.iastore, 1) := by decide +kernel
theorem dX7_goes_66 : decode cX7_goes 66 = .ok (.return_, 1) := by decide +kernel
theorem dX7_meets_0 : decode cX7_meets 0 = .ok (.iconst 0, 1) := by decide +kernel
theorem dX7_meets_1 : decode cX7_meets 1 = .ok (.istore_n 2, 1) := by decide +kernel
theorem dX7_meets_2 : decode cX7_meets 2 = .ok (.iload_n 2, 1) := by decide +kernel
theorem dX7_meets_3 : decode cX7_meets 3 = .ok (.aload_n 0, 1) := by decide +kernel
theorem dX7_meets_4 : decode cX7_meets 4 = .ok (.getfield 116, 3) := by decide +kernel
theorem dX7_meets_7 : decode cX7_meets 7 = .ok (.iload_n 1, 1) := by decide +kernel
theorem dX7_meets_8 : decode cX7_meets 8 = .ok (.iaload, 1) := by decide +kernel
theorem dX7_meets_9 : decode cX7_meets 9 = .ok (.if_icmp .ge 126, 3) := by decide +kernel
theorem dX7_meets_12 : decode cX7_meets 12 = .ok (.iconst 1, 1) := by decide +kernel
theorem dX7_meets_13 : decode cX7_meets 13 = .ok (.istore_n 3, 1) := by decide +kernel
theorem dX7_meets_14 : decode cX7_meets 14 = .ok (.iload_n 3, 1) := by decide +kernel
theorem dX7_meets_15 : decode cX7_meets 15 = .ok (.ifCond .eq 114, 3) := by decide +kernel
theorem dX7_meets_18 : decode cX7_meets 18 = .ok (.iconst (-1), 1) := by decide +kernel
theorem dX7_meets_19 : decode cX7_meets 19 = .ok (.istore 4, 2) := by decide +kernel
theorem dX7_meets_21 : decode cX7_meets 21 = .ok (.iconst (-1), 1) := by decide +kernel
theorem dX7_meets_22 : decode cX7_meets 22 = .ok (.istore 5, 2) := by decide +kernel
theorem dX7_meets_24 : decode cX7_meets 24 = .ok (.iconst 0, 1) := by decide +kernel
theorem dX7_meets_25 : decode cX7_meets 25 = .ok (.istore 6, 2) := by decide +kernel
theorem dX7_meets_27 : decode cX7_meets 27 = .ok (.iload 6, 2) := by decide +kernel
theorem dX7_meets_29 : decode cX7_meets 29 = .ok (.aload_n 0, 1) := by decide +kernel
theorem dX7_meets_30 : decode cX7_meets 30 = .ok (.getfield 146, 3) := by decide +kernel
theorem dX7_meets_33 : decode cX7_meets 33 = .ok (.iload_n 1, 1) := by decide +kernel
theorem dX7_meets_34 : decode cX7_meets 34 = .ok (.iaload, 1) := by decide +kernel
theorem dX7_meets_35 : decode cX7_meets 35 = .ok (.if_icmp .ge 67, 3) := by decide +kernel
theorem dX7_meets_38 : decode cX7_meets 38 = .ok (.aload_n 0, 1) := by decide +kernel
theorem dX7_meets_39 : decode cX7_meets 39 = .ok (.iload_n 1, 1) := by decide +kernel
theorem dX7_meets_40 : decode cX7_meets 40 = .ok (.iload 6, 2) := by decide +kernel
theorem dX7_meets_42 : decode cX7_meets 42 = .ok (.invokevirtual 372, 3) := by decide +kernel
theorem dX7_meets_45 : decode cX7_meets 45 = .ok (.ifCond .eq 51, 3) := by decide +kernel
theorem dX7_meets_48 : decode cX7_meets 48 = .ok (.aload_n 0, 1) := by decide +kernel
theorem dX7_meets_49 : decode cX7_meets 49 = .ok (.getfield 152, 3) := by decide +kernel
theorem dX7_meets_52 : decode cX7_meets 52 = .ok (.bipush 30, 2) := by decide +kernel
theorem dX7_meets_54 : decode cX7_meets 54 = .ok (.iload_n 1, 1) := by decide +kernel
theorem dX7_meets_55 : decode cX7_meets 55 = .ok (.imul, 1) := by decide +kernel
theorem dX7_meets_56 : decode cX7_meets 56 = .ok (.iload 6, 2) := by decide +kernel
theorem dX7_meets_58 : decode cX7_meets 58 = .ok (.iadd, 1) := by decide +kernel
theorem dX7_meets_59 : decode cX7_meets 59 = .ok (.iaload, 1) := by decide +kernel
theorem dX7_meets_60 : decode cX7_meets 60 = .ok (.iload_n 2, 1) := by decide +kernel
theorem dX7_meets_61 : decode cX7_meets 61 = .ok (.if_icmp .ne 35, 3) := by decide +kernel
theorem dX7_meets_64 : decode cX7_meets 64 = .ok (.iload 5, 2) := by decide +kernel
theorem dX7_meets_66 : decode cX7_meets 66 = .ok (.ifCond .ge 30, 3) := by decide +kernel
theorem dX7_meets_69 : decode cX7_meets 69 = .ok (.iload 4, 2) := by decide +kernel
theorem dX7_meets_71 : decode cX7_meets 71 = .ok (.ifCond .ge 7, 3) := by decide +kernel
theorem dX7_meets_74 : decode cX7_meets 74 = .ok (.iconst (-1), 1) := by decide +kernel
theorem dX7_meets_75 : decode cX7_meets 75 = .ok (.goto 5, 3) := by decide +kernel
theorem dX7_meets_78 : decode cX7_meets 78 = .ok (.iload 6, 2) := by decide +kernel
theorem dX7_meets_80 : decode cX7_meets 80 = .ok (.istore 5, 2) := by decide +kernel
theorem dX7_meets_82 : decode cX7_meets 82 = .ok (.iload 4, 2) := by decide +kernel
theorem dX7_meets_84 : decode cX7_meets 84 = .ok (.ifCond .ge 8, 3) := by decide +kernel
theorem dX7_meets_87 : decode cX7_meets 87 = .ok (.iload 6, 2) := by decide +kernel
theorem dX7_meets_89 : decode cX7_meets 89 = .ok (.goto 5, 3) := by decide +kernel
theorem dX7_meets_92 : decode cX7_meets 92 = .ok (.iload 4, 2) := by decide +kernel
theorem dX7_meets_94 : decode cX7_meets 94 = .ok (.istore 4, 2) := by decide +kernel
theorem dX7_meets_96 : decode cX7_meets 96 = .ok (.iinc 6 1, 3) := by decide +kernel
theorem dX7_meets_99 : decode cX7_meets 99 = .ok (.goto (-72), 3) := by decide +kernel
theorem dX7_meets_102 : decode cX7_meets 102 = .ok (.iload 5, 2) := by decide +kernel
theorem dX7_meets_104 : decode cX7_meets 104 = .ok (.ifCond .lt 7, 3) := by decide +kernel
theorem dX7_meets_107 : decode cX7_meets 107 = .ok (.iconst 1, 1) := by decide +kernel
theorem dX7_meets_108 : decode cX7_meets 108 = .ok (.goto 4, 3) := by decide +kernel
theorem dX7_meets_111 : decode cX7_meets 111 = .ok (.iconst 0, 1) := by decide +kernel
theorem dX7_meets_112 : decode cX7_meets 112 = .ok (.istore_n 3, 1) := by decide +kernel
theorem dX7_meets_113 : decode cX7_meets 113 = .ok (.iload_n 3, 1) := by decide +kernel
theorem dX7_meets_114 : decode cX7_meets 114 = .ok (.ifCond .eq 12, 3) := by decide +kernel
theorem dX7_meets_117 : decode cX7_meets 117 = .ok (.aload_n 0, 1) := by decide +kernel
theorem dX7_meets_118 : decode cX7_meets 118 = .ok (.iload_n 1, 1) := by decide +kernel
theorem dX7_meets_119 : decode cX7_meets 119 = .ok (.iload 4, 2) := by decide +kernel
theorem dX7_meets_121 : decode cX7_meets 121 = .ok (.iload 5, 2) := by decide +kernel
theorem dX7_meets_123 : decode cX7_meets 123 = .ok (.invokevirtual 391, 3) := by decide +kernel
theorem dX7_meets_126 : decode cX7_meets 126 = .ok (.goto (-112), 3) := by decide +kernel
theorem dX7_meets_129 : decode cX7_meets 129 = .ok (.iinc 2 1, 3) := by decide +kernel
theorem dX7_meets_132 : decode cX7_meets 132 = .ok (.goto (-130), 3) := by decide +kernel
theorem dX7_meets_135 : decode cX7_meets 135 = .ok (.return_, 1) := by decide +kernel
theorem dX7_meet_0 : decode cX7_meet 0 = .ok (.aload_n 0, 1) := by decide +kernel
theorem dX7_meet_1 : decode cX7_meet 1 = .ok (.iload_n 1, 1) := by decide +kernel
theorem dX7_meet_2 : decode cX7_meet 2 = .ok (.iload_n 3, 1) := by decide +kernel
theorem dX7_meet_3 : decode cX7_meet 3 = .ok (.invokevirtual 326, 3) := by decide +kernel
theorem dX7_meet_6 : decode cX7_meet 6 = .ok (.aload_n 0, 1) := by decide +kernel
theorem dX7_meet_7 : decode cX7_meet 7 = .ok (.iload_n 1, 1) := by decide +kernel
theorem dX7_meet_8 : decode cX7_meet 8 = .ok (.iload_n 2, 1) := by decide +kernel
theorem dX7_meet_9 : decode cX7_meet 9 = .ok (.invokevirtual 326, 3) := by decide +kernel
theorem dX7_meet_12 : decode cX7_meet 12 = .ok (.if_icmp .le 7, 3) := by decide +kernel
theorem dX7_meet_15 : decode cX7_meet 15 = .ok (.iconst 1, 1) := by decide +kernel
theorem dX7_meet_16 : decode cX7_meet 16 = .ok (.goto 4, 3) := by decide +kernel
theorem dX7_meet_19 : decode cX7_meet 19 = .ok (.iconst 0, 1) := by decide +kernel
theorem dX7_meet_20 : decode cX7_meet 20 = .ok (.istore 4, 2) := by decide +kernel
theorem dX7_meet_22 : decode cX7_meet 22 = .ok (.iload 4, 2) := by decide +kernel
theorem dX7_meet_24 : decode cX7_meet 24 = .ok (.ifCond .eq 7, 3) := by decide +kernel
theorem dX7_meet_27 : decode cX7_meet 27 = .ok (.iload_n 3, 1) := by decide +kernel
theorem dX7_meet_28 : decode cX7_meet 28 = .ok (.goto 4, 3) := by decide +kernel
theorem dX7_meet_31 : decode cX7_meet 31 = .ok (.iload_n 2, 1) := by decide +kernel
theorem dX7_meet_32 : decode cX7_meet 32 = .ok (.istore 5, 2) := by decide +kernel
theorem dX7_meet_34 : decode cX7_meet 34 = .ok (.iload 4, 2) := by decide +kernel
theorem dX7_meet_36 : decode cX7_meet 36 = .ok (.ifCond .eq 7, 3) := by decide +kernel
theorem dX7_meet_39 : decode cX7_meet 39 = .ok (.iload_n 2, 1) := by decide +kernel
theorem dX7_meet_40 : decode cX7_meet 40 = .ok (.goto 4, 3) := by decide +kernel
theorem dX7_meet_43 : decode cX7_meet 43 = .ok (.iload_n 3, 1) := by decide +kernel
theorem dX7_meet_44 : decode cX7_meet 44 = .ok (.istore 6, 2) := by decide +kernel
theorem dX7_meet_46 : decode cX7_meet 46 = .ok (.bipush 30, 2) := by decide +kernel
theorem dX7_meet_48 : decode cX7_meet 48 = .ok (.iload_n 1, 1) := by decide +kernel
theorem dX7_meet_49 : decode cX7_meet 49 = .ok (.imul, 1) := by decide +kernel
theorem dX7_meet_50 : decode cX7_meet 50 = .ok (.iload 6, 2) := by decide +kernel
theorem dX7_meet_52 : decode cX7_meet 52 = .ok (.iadd, 1) := by decide +kernel
theorem dX7_meet_53 : decode cX7_meet 53 = .ok (.istore 7, 2) := by decide +kernel
theorem dX7_meet_55 : decode cX7_meet 55 = .ok (.aload_n 0, 1) := by decide +kernel
theorem dX7_meet_56 : decode cX7_meet 56 = .ok (.getfield 190, 3) := by decide +kernel
theorem dX7_meet_59 : decode cX7_meet 59 = .ok (.bipush 101, 2) := by decide +kernel
theorem dX7_meet_61 : decode cX7_meet 61 = .ok (.if_icmp .ge 59, 3) := by decide +kernel
theorem dX7_meet_64 : decode cX7_meet 64 = .ok (.aload_n 0, 1) := by decide +kernel
theorem dX7_meet_65 : decode cX7_meet 65 = .ok (.iload_n 1, 1) := by decide +kernel
theorem dX7_meet_66 : decode cX7_meet 66 = .ok (.iload 6, 2) := by decide +kernel
theorem dX7_meet_68 : decode cX7_meet 68 = .ok (.invokevirtual 326, 3) := by decide +kernel
theorem dX7_meet_71 : decode cX7_meet 71 = .ok (.i2l, 1) := by decide +kernel
theorem dX7_meet_72 : decode cX7_meet 72 = .ok (.ldc2_w 353, 3) := by decide +kernel
theorem dX7_meet_75 : decode cX7_meet 75 = .ok (.lmul, 1) := by decide +kernel
theorem dX7_meet_76 : decode cX7_meet 76 = .ok (.aload_n 0, 1) := by decide +kernel
theorem dX7_meet_77 : decode cX7_meet 77 = .ok (.iload_n 1, 1) := by decide +kernel
theorem dX7_meet_78 : decode cX7_meet 78 = .ok (.iload 5, 2) := by decide +kernel
theorem dX7_meet_80 : decode cX7_meet 80 = .ok (.invokevirtual 326, 3) := by decide +kernel
theorem dX7_meet_83 : decode cX7_meet 83 = .ok (.i2l, 1) := by decide +kernel
theorem dX7_meet_84 : decode cX7_meet 84 = .ok (.aload_n 0, 1) := by decide +kernel
theorem dX7_meet_85 : decode cX7_meet 85 = .ok (.getfield 190, 3) := by decide +kernel
theorem dX7_meet_88 : decode cX7_meet 88 = .ok (.i2l, 1) := by decide +kernel
theorem dX7_meet_89 : decode cX7_meet 89 = .ok (.lmul, 1) := by decide +kernel
theorem dX7_meet_90 : decode cX7_meet 90 = .ok (.lcmp, 1) := by decide +kernel
theorem dX7_meet_91 : decode cX7_meet 91 = .ok (.ifCond .lt 29, 3) := by decide +kernel
theorem dX7_meet_94 : decode cX7_meet 94 = .ok (.aload_n 0, 1) := by decide +kernel
theorem dX7_meet_95 : decode cX7_meet 95 = .ok (.getfield 149, 3) := by decide +kernel
theorem dX7_meet_98 : decode cX7_meet 98 = .ok (.iload 7, 2) := by decide +kernel
theorem dX7_meet_100 : decode cX7_meet 100 = .ok (.iconst 3, 1) := by decide +kernel
theorem dX7_meet_101 : decode cX7_meet 101 = .ok (.iastore, 1) := by decide +kernel
theorem dX7_meet_102 : decode cX7_meet 102 = .ok (.aload_n 0, 1) := by decide +kernel
theorem dX7_meet_103 : decode cX7_meet 103 = .ok (.getfield 143, 3) := by decide +kernel
theorem dX7_meet_106 : decode cX7_meet 106 = .ok (.iload_n 1, 1) := by decide +kernel
theorem dX7_meet_107 : decode cX7_meet 107 = .ok (.dup2, 1) := by decide +kernel
theorem dX7_meet_108 : decode cX7_meet 108 = .ok (.laload, 1) := by decide +kernel
theorem dX7_meet_109 : decode cX7_meet 109 = .ok (.aload_n 0, 1) := by decide +kernel
theorem dX7_meet_110 : decode cX7_meet 110 = .ok (.iload_n 1, 1) := by decide +kernel
theorem dX7_meet_111 : decode cX7_meet 111 = .ok (.iload 6, 2) := by decide +kernel
theorem dX7_meet_113 : decode cX7_meet 113 = .ok (.invokevirtual 326, 3) := by decide +kernel
theorem dX7_meet_116 : decode cX7_meet 116 = .ok (.i2l, 1) := by decide +kernel
theorem dX7_meet_117 : decode cX7_meet 117 = .ok (.ladd, 1) := by decide +kernel
theorem dX7_meet_118 : decode cX7_meet 118 = .ok (.lastore, 1) := by decide +kernel
theorem dX7_meet_119 : decode cX7_meet 119 = .ok (.return_, 1) := by decide +kernel
theorem dX7_meet_120 : decode cX7_meet 120 = .ok (.aload_n 0, 1) := by decide +kernel
theorem dX7_meet_121 : decode cX7_meet 121 = .ok (.getfield 149, 3) := by decide +kernel
theorem dX7_meet_124 : decode cX7_meet 124 = .ok (.iload 7, 2) := by decide +kernel
theorem dX7_meet_126 : decode cX7_meet 126 = .ok (.iconst 1, 1) := by decide +kernel
theorem dX7_meet_127 : decode cX7_meet 127 = .ok (.iastore, 1) := by decide +kernel
theorem dX7_meet_128 : decode cX7_meet 128 = .ok (.aload_n 0, 1) := by decide +kernel
theorem dX7_meet_129 : decode cX7_meet 129 = .ok (.getfield 164, 3) := by decide +kernel
theorem dX7_meet_132 : decode cX7_meet 132 = .ok (.iload 7, 2) := by decide +kernel
theorem dX7_meet_134 : decode cX7_meet 134 = .ok (.iload 5, 2) := by decide +kernel
theorem dX7_meet_136 : decode cX7_meet 136 = .ok (.iastore, 1) := by decide +kernel
theorem dX7_meet_137 : decode cX7_meet 137 = .ok (.aload_n 0, 1) := by decide +kernel
theorem dX7_meet_138 : decode cX7_meet 138 = .ok (.getfield 155, 3) := by decide +kernel
theorem dX7_meet_141 : decode cX7_meet 141 = .ok (.bipush 30, 2) := by decide +kernel
theorem dX7_meet_143 : decode cX7_meet 143 = .ok (.iload_n 1, 1) := by decide +kernel
theorem dX7_meet_144 : decode cX7_meet 144 = .ok (.imul, 1) := by decide +kernel
theorem dX7_meet_145 : decode cX7_meet 145 = .ok (.iload 5, 2) := by decide +kernel
theorem dX7_meet_147 : decode cX7_meet 147 = .ok (.iadd, 1) := by decide +kernel
theorem dX7_meet_148 : decode cX7_meet 148 = .ok (.dup2, 1) := by decide +kernel
theorem dX7_meet_149 : decode cX7_meet 149 = .ok (.iaload, 1) := by decide +kernel
theorem dX7_meet_150 : decode cX7_meet 150 = .ok (.aload_n 0, 1) := by decide +kernel
theorem dX7_meet_151 : decode cX7_meet 151 = .ok (.getfield 155, 3) := by decide +kernel
theorem dX7_meet_154 : decode cX7_meet 154 = .ok (.iload 7, 2) := by decide +kernel
theorem dX7_meet_156 : decode cX7_meet 156 = .ok (.iaload, 1) := by decide +kernel
theorem dX7_meet_157 : decode cX7_meet 157 = .ok (.iadd, 1) := by decide +kernel
theorem dX7_meet_158 : decode cX7_meet 158 = .ok (.iastore, 1) := by decide +kernel
theorem dX7_meet_159 : decode cX7_meet 159 = .ok (.iconst 0, 1) := by decide +kernel
theorem dX7_meet_160 : decode cX7_meet 160 = .ok (.istore 8, 2) := by decide +kernel
theorem dX7_meet_162 : decode cX7_meet 162 = .ok (.iload 8, 2) := by decide +kernel
theorem dX7_meet_164 : decode cX7_meet 164 = .ok (.bipush 12, 2) := by decide +kernel
theorem dX7_meet_166 : decode cX7_meet 166 = .ok (.if_icmp .ge 43, 3) := by decide +kernel
theorem dX7_meet_169 : decode cX7_meet 169 = .ok (.aload_n 0, 1) := by decide +kernel
theorem dX7_meet_170 : decode cX7_meet 170 = .ok (.getfield 167, 3) := by decide +kernel
theorem dX7_meet_173 : decode cX7_meet 173 = .ok (.bipush 12, 2) := by decide +kernel
theorem dX7_meet_175 : decode cX7_meet 175 = .ok (.bipush 30, 2) := by decide +kernel
theorem dX7_meet_177 : decode cX7_meet 177 = .ok (.iload_n 1, 1) := by decide +kernel
theorem dX7_meet_178 : decode cX7_meet 178 = .ok (.imul, 1) := by decide +kernel
theorem dX7_meet_179 : decode cX7_meet 179 = .ok (.iload 5, 2) := by decide +kernel
theorem dX7_meet_181 : decode cX7_meet 181 = .ok (.iadd, 1) := by decide +kernel
theorem dX7_meet_182 : decode cX7_meet 182 = .ok (.imul, 1) := by decide +kernel
theorem dX7_meet_183 : decode cX7_meet 183 = .ok (.iload 8, 2) := by decide +kernel
theorem dX7_meet_185 : decode cX7_meet 185 = .ok (.iadd, 1) := by decide +kernel
theorem dX7_meet_186 : decode cX7_meet 186 = .ok (.dup2, 1) := by decide +kernel
theorem dX7_meet_187 : decode cX7_meet 187 = .ok (.iaload, 1) := by decide +kernel
theorem dX7_meet_188 : decode cX7_meet 188 = .ok (.aload_n 0, 1) := by decide +kernel
theorem dX7_meet_189 : decode cX7_meet 189 = .ok (.getfield 167, 3) := by decide +kernel
theorem dX7_meet_192 : decode cX7_meet 192 = .ok (.bipush 12, 2) := by decide +kernel
theorem dX7_meet_194 : decode cX7_meet 194 = .ok (.iload 7, 2) := by decide +kernel
theorem dX7_meet_196 : decode cX7_meet 196 = .ok (.imul, 1) := by decide +kernel
theorem dX7_meet_197 : decode cX7_meet 197 = .ok (.iload 8, 2) := by decide +kernel
theorem dX7_meet_199 : decode cX7_meet 199 = .ok (.iadd, 1) := by decide +kernel
theorem dX7_meet_200 : decode cX7_meet 200 = .ok (.iaload, 1) := by decide +kernel
theorem dX7_meet_201 : decode cX7_meet 201 = .ok (.iadd, 1) := by decide +kernel
theorem dX7_meet_202 : decode cX7_meet 202 = .ok (.iastore, 1) := by decide +kernel
theorem dX7_meet_203 : decode cX7_meet 203 = .ok (.iinc 8 1, 3) := by decide +kernel
theorem dX7_meet_206 : decode cX7_meet 206 = .ok (.goto (-44), 3) := by decide +kernel
theorem dX7_meet_209 : decode cX7_meet 209 = .ok (.return_, 1) := by decide +kernel
theorem dX7_steps_0 : decode cX7_steps 0 = .ok (.aload_n 0, 1) := by decide +kernel
theorem dX7_steps_1 : decode cX7_steps 1 = .ok (.iconst 0, 1) := by decide +kernel
theorem dX7_steps_2 : decode cX7_steps 2 = .ok (.putfield 1, 3) := by decide +kernel
theorem dX7_steps_5 : decode cX7_steps 5 = .ok (.iload_n 1, 1) := by decide +kernel
theorem dX7_steps_6 : decode cX7_steps 6 = .ok (.iconst 1, 1) := by decide +kernel
theorem dX7_steps_7 : decode cX7_steps 7 = .ok (.bipush 100, 2) := by decide +kernel
theorem dX7_steps_9 : decode cX7_steps 9 = .ok (.invokestatic 301, 3) := by decide +kernel
theorem dX7_steps_12 : decode cX7_steps 12 = .ok (.ifCond .eq 17, 3) := by decide +kernel
theorem dX7_steps_15 : decode cX7_steps 15 = .ok (.aload_n 0, 1) := by decide +kernel
theorem dX7_steps_16 : decode cX7_steps 16 = .ok (.getfield 137, 3) := by decide +kernel
theorem dX7_steps_19 : decode cX7_steps 19 = .ok (.iconst 0, 1) := by decide +kernel
theorem dX7_steps_20 : decode cX7_steps 20 = .ok (.iaload, 1) := by decide +kernel
theorem dX7_steps_21 : decode cX7_steps 21 = .ok (.iload_n 1, 1) := by decide +kernel
theorem dX7_steps_22 : decode cX7_steps 22 = .ok (.iadd, 1) := by decide +kernel
theorem dX7_steps_23 : decode cX7_steps 23 = .ok (.sipush 9999, 3) := by decide +kernel
theorem dX7_steps_26 : decode cX7_steps 26 = .ok (.if_icmp .le 5, 3) := by decide +kernel
theorem dX7_steps_29 : decode cX7_steps 29 = .ok (.iconst (-1), 1) := by decide +kernel
theorem dX7_steps_30 : decode cX7_steps 30 = .ok (.ireturn, 1) := by decide +kernel
theorem dX7_steps_31 : decode cX7_steps 31 = .ok (.aload_n 0, 1) := by decide +kernel
theorem dX7_steps_32 : decode cX7_steps 32 = .ok (.aload_n 0, 1) := by decide +kernel
theorem dX7_steps_33 : decode cX7_steps 33 = .ok (.getfield 249, 3) := by decide +kernel
theorem dX7_steps_36 : decode cX7_steps 36 = .ok (.putfield 298, 3) := by decide +kernel
theorem dX7_steps_39 : decode cX7_steps 39 = .ok (.iconst 0, 1) := by decide +kernel
theorem dX7_steps_40 : decode cX7_steps 40 = .ok (.istore_n 2, 1) := by decide +kernel
theorem dX7_steps_41 : decode cX7_steps 41 = .ok (.iload_n 2, 1) := by decide +kernel
theorem dX7_steps_42 : decode cX7_steps 42 = .ok (.iload_n 1, 1) := by decide +kernel
theorem dX7_steps_43 : decode cX7_steps 43 = .ok (.if_icmp .ge 14, 3) := by decide +kernel
theorem dX7_steps_46 : decode cX7_steps 46 = .ok (.aload_n 0, 1) := by decide +kernel
theorem dX7_steps_47 : decode cX7_steps 47 = .ok (.iconst 0, 1) := by decide +kernel
theorem dX7_steps_48 : decode cX7_steps 48 = .ok (.invokevirtual 394, 3) := by decide +kernel
theorem dX7_steps_51 : decode cX7_steps 51 = .ok (.iinc 2 1, 3) := by decide +kernel
theorem dX7_steps_54 : decode cX7_steps 54 = .ok (.goto (-13), 3) := by decide +kernel
theorem dX7_steps_57 : decode cX7_steps 57 = .ok (.aload_n 0, 1) := by decide +kernel
theorem dX7_steps_58 : decode cX7_steps 58 = .ok (.getfield 137, 3) := by decide +kernel
theorem dX7_steps_61 : decode cX7_steps 61 = .ok (.iconst 0, 1) := by decide +kernel
theorem dX7_steps_62 : decode cX7_steps 62 = .ok (.iaload, 1) := by decide +kernel
theorem dX7_steps_63 : decode cX7_steps 63 = .ok (.ireturn, 1) := by decide +kernel
theorem dX7_has_0 : decode cX7_has 0 = .ok (.aload_n 0, 1) := by decide +kernel
theorem dX7_has_1 : decode cX7_has 1 = .ok (.aload_n 0, 1) := by decide +kernel
theorem dX7_has_2 : decode cX7_has 2 = .ok (.iload_n 1, 1) := by decide +kernel
theorem dX7_has_3 : decode cX7_has 3 = .ok (.invokevirtual 305, 3) := by decide +kernel
theorem dX7_has_6 : decode cX7_has 6 = .ok (.ifCond .eq 17, 3) := by decide +kernel
theorem dX7_has_9 : decode cX7_has 9 = .ok (.iload_n 2, 1) := by decide +kernel
theorem dX7_has_10 : decode cX7_has 10 = .ok (.iconst 0, 1) := by decide +kernel
theorem dX7_has_11 : decode cX7_has 11 = .ok (.bipush 7, 2) := by decide +kernel
theorem dX7_has_13 : decode cX7_has 13 = .ok (.invokestatic 301, 3) := by decide +kernel
theorem dX7_has_16 : decode cX7_has 16 = .ok (.ifCond .eq 7, 3) := by decide +kernel
theorem dX7_has_19 : decode cX7_has 19 = .ok (.iconst 0, 1) := by decide +kernel
theorem dX7_has_20 : decode cX7_has 20 = .ok (.goto 4, 3) := by decide +kernel
theorem dX7_has_23 : decode cX7_has 23 = .ok (.iconst 1, 1) := by decide +kernel
theorem dX7_has_24 : decode cX7_has 24 = .ok (.putfield 1, 3) := by decide +kernel
theorem dX7_has_27 : decode cX7_has 27 = .ok (.aload_n 0, 1) := by decide +kernel
theorem dX7_has_28 : decode cX7_has 28 = .ok (.getfield 1, 3) := by decide +kernel
theorem dX7_has_31 : decode cX7_has 31 = .ok (.ifCond .le 5, 3) := by decide +kernel
theorem dX7_has_34 : decode cX7_has 34 = .ok (.iconst 0, 1) := by decide +kernel
theorem dX7_has_35 : decode cX7_has 35 = .ok (.ireturn, 1) := by decide +kernel
theorem dX7_has_36 : decode cX7_has 36 = .ok (.iload_n 2, 1) := by decide +kernel
theorem dX7_has_37 : decode cX7_has 37 = .ok (.iconst 5, 1) := by decide +kernel
theorem dX7_has_38 : decode cX7_has 38 = .ok (.if_icmp .ge 16, 3) := by decide +kernel
theorem dX7_has_41 : decode cX7_has 41 = .ok (.aload_n 0, 1) := by decide +kernel
theorem dX7_has_42 : decode cX7_has 42 = .ok (.getfield 128, 3) := by decide +kernel
theorem dX7_has_45 : decode cX7_has 45 = .ok (.iconst 5, 1) := by decide +kernel
theorem dX7_has_46 : decode cX7_has 46 = .ok (.iload_n 1, 1) := by decide +kernel
theorem dX7_has_47 : decode cX7_has 47 = .ok (.imul, 1) := by decide +kernel
theorem dX7_has_48 : decode cX7_has 48 = .ok (.iload_n 2, 1) := by decide +kernel
theorem dX7_has_49 : decode cX7_has 49 = .ok (.iadd, 1) := by decide +kernel
theorem dX7_has_50 : decode cX7_has 50 = .ok (.iaload, 1) := by decide +kernel
theorem dX7_has_51 : decode cX7_has 51 = .ok (.goto 46, 3) := by decide +kernel
theorem dX7_has_54 : decode cX7_has 54 = .ok (.iload_n 2, 1) := by decide +kernel
theorem dX7_has_55 : decode cX7_has 55 = .ok (.iconst 5, 1) := by decide +kernel
theorem dX7_has_56 : decode cX7_has 56 = .ok (.if_icmp .ne 12, 3) := by decide +kernel
theorem dX7_has_59 : decode cX7_has 59 = .ok (.aload_n 0, 1) := by decide +kernel
theorem dX7_has_60 : decode cX7_has 60 = .ok (.getfield 119, 3) := by decide +kernel
theorem dX7_has_63 : decode cX7_has 63 = .ok (.iload_n 1, 1) := by decide +kernel
theorem dX7_has_64 : decode cX7_has 64 = .ok (.iaload, 1) := by decide +kernel
theorem dX7_has_65 : decode cX7_has 65 = .ok (.goto 32, 3) := by decide +kernel
theorem dX7_has_68 : decode cX7_has 68 = .ok (.iload_n 2, 1) := by decide +kernel
theorem dX7_has_69 : decode cX7_has 69 = .ok (.bipush 6, 2) := by decide +kernel
theorem dX7_has_71 : decode cX7_has 71 = .ok (.if_icmp .ne 12, 3) := by decide +kernel
theorem dX7_has_74 : decode cX7_has 74 = .ok (.aload_n 0, 1) := by decide +kernel
theorem dX7_has_75 : decode cX7_has 75 = .ok (.iconst 0, 1) := by decide +kernel
theorem dX7_has_76 : decode cX7_has 76 = .ok (.iload_n 1, 1) := by decide +kernel
theorem dX7_has_77 : decode cX7_has 77 = .ok (.invokevirtual 314, 3) := by decide +kernel
theorem dX7_has_80 : decode cX7_has 80 = .ok (.goto 17, 3) := by decide +kernel
theorem dX7_has_83 : decode cX7_has 83 = .ok (.aload_n 0, 1) := by decide +kernel
theorem dX7_has_84 : decode cX7_has 84 = .ok (.iconst 0, 1) := by decide +kernel
theorem dX7_has_85 : decode cX7_has 85 = .ok (.iload_n 1, 1) := by decide +kernel
theorem dX7_has_86 : decode cX7_has 86 = .ok (.invokevirtual 382, 3) := by decide +kernel
theorem dX7_has_89 : decode cX7_has 89 = .ok (.ifCond .ne 7, 3) := by decide +kernel
theorem dX7_has_92 : decode cX7_has 92 = .ok (.iconst 1, 1) := by decide +kernel
theorem dX7_has_93 : decode cX7_has 93 = .ok (.goto 4, 3) := by decide +kernel
theorem dX7_has_96 : decode cX7_has 96 = .ok (.iconst 0, 1) := by decide +kernel
theorem dX7_has_97 : decode cX7_has 97 = .ok (.ireturn, 1) := by decide +kernel
theorem dX7_isLump_0 : decode cX7_isLump 0 = .ok (.iload_n 1, 1) := by decide +kernel
theorem dX7_isLump_1 : decode cX7_isLump 1 = .ok (.ifCond .lt 17, 3) := by decide +kernel
theorem dX7_isLump_4 : decode cX7_isLump 4 = .ok (.iload_n 1, 1) := by decide +kernel
theorem dX7_isLump_5 : decode cX7_isLump 5 = .ok (.aload_n 0, 1) := by decide +kernel
theorem dX7_isLump_6 : decode cX7_isLump 6 = .ok (.getfield 146, 3) := by decide +kernel
theorem dX7_isLump_9 : decode cX7_isLump 9 = .ok (.iconst 0, 1) := by decide +kernel
theorem dX7_isLump_10 : decode cX7_isLump 10 = .ok (.iaload, 1) := by decide +kernel
theorem dX7_isLump_11 : decode cX7_isLump 11 = .ok (.if_icmp .ge 7, 3) := by decide +kernel
theorem dX7_isLump_14 : decode cX7_isLump 14 = .ok (.iconst 1, 1) := by decide +kernel
theorem dX7_isLump_15 : decode cX7_isLump 15 = .ok (.goto 4, 3) := by decide +kernel
theorem dX7_isLump_18 : decode cX7_isLump 18 = .ok (.iconst 0, 1) := by decide +kernel
theorem dX7_isLump_19 : decode cX7_isLump 19 = .ok (.ireturn, 1) := by decide +kernel
theorem dX7_familyOf_0 : decode cX7_familyOf 0 = .ok (.iconst (-1), 1) := by decide +kernel
theorem dX7_familyOf_1 : decode cX7_familyOf 1 = .ok (.istore_n 3, 1) := by decide +kernel
theorem dX7_familyOf_2 : decode cX7_familyOf 2 = .ok (.iconst 0, 1) := by decide +kernel
theorem dX7_familyOf_3 : decode cX7_familyOf 3 = .ok (.istore 4, 2) := by decide +kernel
theorem dX7_familyOf_5 : decode cX7_familyOf 5 = .ok (.iload 4, 2) := by decide +kernel
theorem dX7_familyOf_7 : decode cX7_familyOf 7 = .ok (.bipush 12, 2) := by decide +kernel
theorem dX7_familyOf_9 : decode cX7_familyOf 9 = .ok (.if_icmp .ge 65, 3) := by decide +kernel
theorem dX7_familyOf_12 : decode cX7_familyOf 12 = .ok (.aload_n 0, 1) := by decide +kernel
theorem dX7_familyOf_13 : decode cX7_familyOf 13 = .ok (.getfield 167, 3) := by decide +kernel
theorem dX7_familyOf_16 : decode cX7_familyOf 16 = .ok (.bipush 12, 2) := by decide +kernel
theorem dX7_familyOf_18 : decode cX7_familyOf 18 = .ok (.bipush 30, 2) := by decide +kernel
theorem dX7_familyOf_20 : decode cX7_familyOf 20 = .ok (.iload_n 1, 1) := by decide +kernel
theorem dX7_familyOf_21 : decode cX7_familyOf 21 = .ok (.imul, 1) := by decide +kernel
theorem dX7_familyOf_22 : decode cX7_familyOf 22 = .ok (.iload_n 2, 1) := by decide +kernel
theorem dX7_familyOf_23 : decode cX7_familyOf 23 = .ok (.iadd, 1) := by decide +kernel
theorem dX7_familyOf_24 : decode cX7_familyOf 24 = .ok (.imul, 1) := by decide +kernel
theorem dX7_familyOf_25 : decode cX7_familyOf 25 = .ok (.iload 4, 2) := by decide +kernel
theorem dX7_familyOf_27 : decode cX7_familyOf 27 = .ok (.iadd, 1) := by decide +kernel
theorem dX7_familyOf_28 : decode cX7_familyOf 28 = .ok (.iaload, 1) := by decide +kernel
theorem dX7_familyOf_29 : decode cX7_familyOf 29 = .ok (.istore 5, 2) := by decide +kernel
theorem dX7_familyOf_31 : decode cX7_familyOf 31 = .ok (.iload 5, 2) := by decide +kernel
theorem dX7_familyOf_33 : decode cX7_familyOf 33 = .ok (.ifCond .le 33, 3) := by decide +kernel
theorem dX7_familyOf_36 : decode cX7_familyOf 36 = .ok (.iload_n 3, 1) := by decide +kernel
theorem dX7_familyOf_37 : decode cX7_familyOf 37 = .ok (.ifCond .lt 24, 3) := by decide +kernel
theorem dX7_familyOf_40 : decode cX7_familyOf 40 = .ok (.iload 5, 2) := by decide +kernel
theorem dX7_familyOf_42 : decode cX7_familyOf 42 = .ok (.aload_n 0, 1) := by decide +kernel
theorem dX7_familyOf_43 : decode cX7_familyOf 43 = .ok (.getfield 167, 3) := by decide +kernel
theorem dX7_familyOf_46 : decode cX7_familyOf 46 = .ok (.bipush 12, 2) := by decide +kernel
theorem dX7_familyOf_48 : decode cX7_familyOf 48 = .ok (.bipush 30, 2) := by decide +kernel
theorem dX7_familyOf_50 : decode cX7_familyOf 50 = .ok (.iload_n 1, 1) := by decide +kernel
theorem dX7_familyOf_51 : decode cX7_familyOf 51 = .ok (.imul, 1) := by decide +kernel
theorem dX7_familyOf_52 : decode cX7_familyOf 52 = .ok (.iload_n 2, 1) := by decide +kernel
theorem dX7_familyOf_53 : decode cX7_familyOf 53 = .ok (.iadd, 1) := by decide +kernel
theorem dX7_familyOf_54 : decode cX7_familyOf 54 = .ok (.imul, 1) := by decide +kernel
theorem dX7_familyOf_55 : decode cX7_familyOf 55 = .ok (.iload_n 3, 1) := by decide +kernel
theorem dX7_familyOf_56 : decode cX7_familyOf 56 = .ok (.iadd, 1) := by decide +kernel
theorem dX7_familyOf_57 : decode cX7_familyOf 57 = .ok (.iaload, 1) := by decide +kernel
theorem dX7_familyOf_58 : decode cX7_familyOf 58 = .ok (.if_icmp .le 8, 3) := by decide +kernel
theorem dX7_familyOf_61 : decode cX7_familyOf 61 = .ok (.iload 4, 2) := by decide +kernel
theorem dX7_familyOf_63 : decode cX7_familyOf 63 = .ok (.goto 4, 3) := by decide +kernel
theorem dX7_familyOf_66 : decode cX7_familyOf 66 = .ok (.iload_n 3, 1) := by decide +kernel
theorem dX7_familyOf_67 : decode cX7_familyOf 67 = .ok (.istore_n 3, 1) := by decide +kernel
theorem dX7_familyOf_68 : decode cX7_familyOf 68 = .ok (.iinc 4 1, 3) := by decide +kernel
theorem dX7_familyOf_71 : decode cX7_familyOf 71 = .ok (.goto (-66), 3) := by decide +kernel
theorem dX7_familyOf_74 : decode cX7_familyOf 74 = .ok (.iload_n 3, 1) := by decide +kernel
theorem dX7_familyOf_75 : decode cX7_familyOf 75 = .ok (.ireturn, 1) := by decide +kernel
theorem dX7_seenBy_0 : decode cX7_seenBy 0 = .ok (.aload_n 0, 1) := by decide +kernel
theorem dX7_seenBy_1 : decode cX7_seenBy 1 = .ok (.iconst 0, 1) := by decide +kernel
theorem dX7_seenBy_2 : decode cX7_seenBy 2 = .ok (.iload_n 1, 1) := by decide +kernel
theorem dX7_seenBy_3 : decode cX7_seenBy 3 = .ok (.invokevirtual 376, 3) := by decide +kernel
theorem dX7_seenBy_6 : decode cX7_seenBy 6 = .ok (.aload_n 0, 1) := by decide +kernel
theorem dX7_seenBy_7 : decode cX7_seenBy 7 = .ok (.aload_n 0, 1) := by decide +kernel
theorem dX7_seenBy_8 : decode cX7_seenBy 8 = .ok (.getfield 249, 3) := by decide +kernel
theorem dX7_seenBy_11 : decode cX7_seenBy 11 = .ok (.putfield 298, 3) := by decide +kernel
theorem dX7_seenBy_14 : decode cX7_seenBy 14 = .ok (.aload_n 0, 1) := by decide +kernel
theorem dX7_seenBy_15 : decode cX7_seenBy 15 = .ok (.bipush 8, 2) := by decide +kernel
theorem dX7_seenBy_17 : decode cX7_seenBy 17 = .ok (.invokevirtual 359, 3) := by decide +kernel
theorem dX7_seenBy_20 : decode cX7_seenBy 20 = .ok (.istore_n 2, 1) := by decide +kernel
theorem dX7_seenBy_21 : decode cX7_seenBy 21 = .ok (.iload_n 2, 1) := by decide +kernel
theorem dX7_seenBy_22 : decode cX7_seenBy 22 = .ok (.ifCond .le 7, 3) := by decide +kernel
theorem dX7_seenBy_25 : decode cX7_seenBy 25 = .ok (.iload_n 2, 1) := by decide +kernel
theorem dX7_seenBy_26 : decode cX7_seenBy 26 = .ok (.goto 4, 3) := by decide +kernel
theorem dX7_seenBy_29 : decode cX7_seenBy 29 = .ok (.iconst (-1), 1) := by decide +kernel
theorem dX7_seenBy_30 : decode cX7_seenBy 30 = .ok (.ireturn, 1) := by decide +kernel
theorem dX7_look_0 : decode cX7_look 0 = .ok (.aload_n 0, 1) := by decide +kernel
theorem dX7_look_1 : decode cX7_look 1 = .ok (.iconst 0, 1) := by decide +kernel
theorem dX7_look_2 : decode cX7_look 2 = .ok (.putfield 1, 3) := by decide +kernel
theorem dX7_look_5 : decode cX7_look 5 = .ok (.aload_n 0, 1) := by decide +kernel
theorem dX7_look_6 : decode cX7_look 6 = .ok (.iload_n 1, 1) := by decide +kernel
theorem dX7_look_7 : decode cX7_look 7 = .ok (.invokevirtual 397, 3) := by decide +kernel
theorem dX7_look_10 : decode cX7_look 10 = .ok (.ifCond .eq 13, 3) := by decide +kernel
theorem dX7_look_13 : decode cX7_look 13 = .ok (.iload_n 2, 1) := by decide +kernel
theorem dX7_look_14 : decode cX7_look 14 = .ok (.iconst 0, 1) := by decide +kernel
theorem dX7_look_15 : decode cX7_look 15 = .ok (.bipush 9, 2) := by decide +kernel
theorem dX7_look_17 : decode cX7_look 17 = .ok (.invokestatic 301, 3) := by decide +kernel
theorem dX7_look_20 : decode cX7_look 20 = .ok (.ifCond .ne 5, 3) := by decide +kernel
theorem dX7_look_23 : decode cX7_look 23 = .ok (.iconst (-1), 1) := by decide +kernel
theorem dX7_look_24 : decode cX7_look 24 = .ok (.ireturn, 1) := by decide +kernel
theorem dX7_look_25 : decode cX7_look 25 = .ok (.iload_n 2, 1) := by decide +kernel
theorem dX7_look_26 : decode cX7_look 26 = .ok (.tableswitch 158 0 8 #[50, 57, 64, 71, 78, 85, 113, 120, 151], 50) := by decide +kernel
theorem dX7_look_76 : decode cX7_look 76 = .ok (.aload_n 0, 1) := by decide +kernel
theorem dX7_look_77 : decode cX7_look 77 = .ok (.getfield 149, 3) := by decide +kernel
theorem dX7_look_80 : decode cX7_look 80 = .ok (.iload_n 1, 1) := by decide +kernel
theorem dX7_look_81 : decode cX7_look 81 = .ok (.iaload, 1) := by decide +kernel
theorem dX7_look_82 : decode cX7_look 82 = .ok (.ireturn, 1) := by decide +kernel
theorem dX7_look_83 : decode cX7_look 83 = .ok (.aload_n 0, 1) := by decide +kernel
theorem dX7_look_84 : decode cX7_look 84 = .ok (.getfield 152, 3) := by decide +kernel
theorem dX7_look_87 : decode cX7_look 87 = .ok (.iload_n 1, 1) := by decide +kernel
theorem dX7_look_88 : decode cX7_look 88 = .ok (.iaload, 1) := by decide +kernel
theorem dX7_look_89 : decode cX7_look 89 = .ok (.ireturn, 1) := by decide +kernel
theorem dX7_look_90 : decode cX7_look 90 = .ok (.aload_n 0, 1) := by decide +kernel
theorem dX7_look_91 : decode cX7_look 91 = .ok (.iconst 0, 1) := by decide +kernel
theorem dX7_look_92 : decode cX7_look 92 = .ok (.iload_n 1, 1) := by decide +kernel
theorem dX7_look_93 : decode cX7_look 93 = .ok (.invokevirtual 326, 3) := by decide +kernel
theorem dX7_look_96 : decode cX7_look 96 = .ok (.ireturn, 1) := by decide +kernel
theorem dX7_look_97 : decode cX7_look 97 = .ok (.aload_n 0, 1) := by decide +kernel
theorem dX7_look_98 : decode cX7_look 98 = .ok (.getfield 155, 3) := by decide +kernel
theorem dX7_look_101 : decode cX7_look 101 = .ok (.iload_n 1, 1) := by decide +kernel
theorem dX7_look_102 : decode cX7_look 102 = .ok (.iaload, 1) := by decide +kernel
theorem dX7_look_103 : decode cX7_look 103 = .ok (.ireturn, 1) := by decide +kernel
theorem dX7_look_104 : decode cX7_look 104 = .ok (.aload_n 0, 1) := by decide +kernel
theorem dX7_look_105 : decode cX7_look 105 = .ok (.iconst 0, 1) := by decide +kernel
theorem dX7_look_106 : decode cX7_look 106 = .ok (.iload_n 1, 1) := by decide +kernel
theorem dX7_look_107 : decode cX7_look 107 = .ok (.invokevirtual 400, 3) := by decide +kernel
theorem dX7_look_110 : decode cX7_look 110 = .ok (.ireturn, 1) := by decide +kernel
theorem dX7_look_111 : decode cX7_look 111 = .ok (.aload_n 0, 1) := by decide +kernel
theorem dX7_look_112 : decode cX7_look 112 = .ok (.iconst 0, 1) := by decide +kernel
theorem dX7_look_113 : decode cX7_look 113 = .ok (.iload_n 1, 1) := by decide +kernel
theorem dX7_look_114 : decode cX7_look 114 = .ok (.invokevirtual 372, 3) := by decide +kernel
theorem dX7_look_117 : decode cX7_look 117 = .ok (.ifCond .ne 7, 3) := by decide +kernel
theorem dX7_look_120 : decode cX7_look 120 = .ok (.iconst (-1), 1) := by decide +kernel
theorem dX7_look_121 : decode cX7_look 121 = .ok (.goto 17, 3) := by decide +kernel
theorem dX7_look_124 : decode cX7_look 124 = .ok (.aload_n 0, 1) := by decide +kernel
theorem dX7_look_125 : decode cX7_look 125 = .ok (.iconst 0, 1) := by decide +kernel
theorem dX7_look_126 : decode cX7_look 126 = .ok (.iload_n 1, 1) := by decide +kernel
theorem dX7_look_127 : decode cX7_look 127 = .ok (.invokevirtual 385, 3) := by decide +kernel
theorem dX7_look_130 : decode cX7_look 130 = .ok (.ifCond .eq 7, 3) := by decide +kernel
theorem dX7_look_133 : decode cX7_look 133 = .ok (.iconst 1, 1) := by decide +kernel
theorem dX7_look_134 : decode cX7_look 134 = .ok (.goto 4, 3) := by decide +kernel
theorem dX7_look_137 : decode cX7_look 137 = .ok (.iconst 0, 1) := by decide +kernel
theorem dX7_look_138 : decode cX7_look 138 = .ok (.ireturn, 1) := by decide +kernel
theorem dX7_look_139 : decode cX7_look 139 = .ok (.aload_n 0, 1) := by decide +kernel
theorem dX7_look_140 : decode cX7_look 140 = .ok (.getfield 164, 3) := by decide +kernel
theorem dX7_look_143 : decode cX7_look 143 = .ok (.iload_n 1, 1) := by decide +kernel
theorem dX7_look_144 : decode cX7_look 144 = .ok (.iaload, 1) := by decide +kernel
theorem dX7_look_145 : decode cX7_look 145 = .ok (.ireturn, 1) := by decide +kernel
theorem dX7_look_146 : decode cX7_look 146 = .ok (.aload_n 0, 1) := by decide +kernel
theorem dX7_look_147 : decode cX7_look 147 = .ok (.iconst 0, 1) := by decide +kernel
theorem dX7_look_148 : decode cX7_look 148 = .ok (.iload_n 1, 1) := by decide +kernel
theorem dX7_look_149 : decode cX7_look 149 = .ok (.invokevirtual 372, 3) := by decide +kernel
theorem dX7_look_152 : decode cX7_look 152 = .ok (.ifCond .ne 7, 3) := by decide +kernel
theorem dX7_look_155 : decode cX7_look 155 = .ok (.iconst (-1), 1) := by decide +kernel
theorem dX7_look_156 : decode cX7_look 156 = .ok (.goto 20, 3) := by decide +kernel
theorem dX7_look_159 : decode cX7_look 159 = .ok (.aload_n 0, 1) := by decide +kernel
theorem dX7_look_160 : decode cX7_look 160 = .ok (.iload_n 1, 1) := by decide +kernel
theorem dX7_look_161 : decode cX7_look 161 = .ok (.invokevirtual 403, 3) := by decide +kernel
theorem dX7_look_164 : decode cX7_look 164 = .ok (.ifCond .ge 7, 3) := by decide +kernel
theorem dX7_look_167 : decode cX7_look 167 = .ok (.iconst 0, 1) := by decide +kernel
theorem dX7_look_168 : decode cX7_look 168 = .ok (.goto 8, 3) := by decide +kernel
theorem dX7_look_171 : decode cX7_look 171 = .ok (.aload_n 0, 1) := by decide +kernel
theorem dX7_look_172 : decode cX7_look 172 = .ok (.iload_n 1, 1) := by decide +kernel
theorem dX7_look_173 : decode cX7_look 173 = .ok (.invokevirtual 403, 3) := by decide +kernel
theorem dX7_look_176 : decode cX7_look 176 = .ok (.ireturn, 1) := by decide +kernel
theorem dX7_look_177 : decode cX7_look 177 = .ok (.aload_n 0, 1) := by decide +kernel
theorem dX7_look_178 : decode cX7_look 178 = .ok (.getfield 161, 3) := by decide +kernel
theorem dX7_look_181 : decode cX7_look 181 = .ok (.iload_n 1, 1) := by decide +kernel
theorem dX7_look_182 : decode cX7_look 182 = .ok (.iaload, 1) := by decide +kernel
theorem dX7_look_183 : decode cX7_look 183 = .ok (.ireturn, 1) := by decide +kernel
theorem dX7_look_184 : decode cX7_look 184 = .ok (.aload_n 0, 1) := by decide +kernel
theorem dX7_look_185 : decode cX7_look 185 = .ok (.getfield 158, 3) := by decide +kernel
theorem dX7_look_188 : decode cX7_look 188 = .ok (.iload_n 1, 1) := by decide +kernel
theorem dX7_look_189 : decode cX7_look 189 = .ok (.iaload, 1) := by decide +kernel
theorem dX7_look_190 : decode cX7_look 190 = .ok (.ireturn, 1) := by decide +kernel
theorem dX7_made_0 : decode cX7_made 0 = .ok (.aload_n 0, 1) := by decide +kernel
theorem dX7_made_1 : decode cX7_made 1 = .ok (.iconst 0, 1) := by decide +kernel
theorem dX7_made_2 : decode cX7_made 2 = .ok (.putfield 1, 3) := by decide +kernel
theorem dX7_made_5 : decode cX7_made 5 = .ok (.aload_n 0, 1) := by decide +kernel
theorem dX7_made_6 : decode cX7_made 6 = .ok (.iload_n 1, 1) := by decide +kernel
theorem dX7_made_7 : decode cX7_made 7 = .ok (.invokevirtual 397, 3) := by decide +kernel
theorem dX7_made_10 : decode cX7_made 10 = .ok (.ifCond .eq 25, 3) := by decide +kernel
theorem dX7_made_13 : decode cX7_made 13 = .ok (.aload_n 0, 1) := by decide +kernel
theorem dX7_made_14 : decode cX7_made 14 = .ok (.iload_n 2, 1) := by decide +kernel
theorem dX7_made_15 : decode cX7_made 15 = .ok (.invokevirtual 305, 3) := by decide +kernel
theorem dX7_made_18 : decode cX7_made 18 = .ok (.ifCond .eq 17, 3) := by decide +kernel
theorem dX7_made_21 : decode cX7_made 21 = .ok (.aload_n 0, 1) := by decide +kernel
theorem dX7_made_22 : decode cX7_made 22 = .ok (.getfield 167, 3) := by decide +kernel
theorem dX7_made_25 : decode cX7_made 25 = .ok (.bipush 12, 2) := by decide +kernel
theorem dX7_made_27 : decode cX7_made 27 = .ok (.iload_n 1, 1) := by decide +kernel
theorem dX7_made_28 : decode cX7_made 28 = .ok (.imul, 1) := by decide +kernel
theorem dX7_made_29 : decode cX7_made 29 = .ok (.iload_n 2, 1) := by decide +kernel
theorem dX7_made_30 : decode cX7_made 30 = .ok (.iadd, 1) := by decide +kernel
theorem dX7_made_31 : decode cX7_made 31 = .ok (.iaload, 1) := by decide +kernel
theorem dX7_made_32 : decode cX7_made 32 = .ok (.goto 4, 3) := by decide +kernel
theorem dX7_made_35 : decode cX7_made 35 = .ok (.iconst (-1), 1) := by decide +kernel
theorem dX7_made_36 : decode cX7_made 36 = .ok (.ireturn, 1) := by decide +kernel
theorem dX7_inRings_0 : decode cX7_inRings 0 = .ok (.lconst 0, 1) := by decide +kernel
theorem dX7_inRings_1 : decode cX7_inRings 1 = .ok (.lstore_n 1, 1) := by decide +kernel
theorem dX7_inRings_2 : decode cX7_inRings 2 = .ok (.iconst 0, 1) := by decide +kernel
theorem dX7_inRings_3 : decode cX7_inRings 3 = .ok (.istore_n 3, 1) := by decide +kernel
theorem dX7_inRings_4 : decode cX7_inRings 4 = .ok (.iload_n 3, 1) := by decide +kernel
theorem dX7_inRings_5 : decode cX7_inRings 5 = .ok (.bipush 12, 2) := by decide +kernel
theorem dX7_inRings_7 : decode cX7_inRings 7 = .ok (.if_icmp .ge 26, 3) := by decide +kernel
theorem dX7_inRings_10 : decode cX7_inRings 10 = .ok (.lload_n 1, 1) := by decide +kernel
theorem dX7_inRings_11 : decode cX7_inRings 11 = .ok (.aload_n 0, 1) := by decide +kernel
theorem dX7_inRings_12 : decode cX7_inRings 12 = .ok (.getfield 119, 3) := by decide +kernel
theorem dX7_inRings_15 : decode cX7_inRings 15 = .ok (.iload_n 3, 1) := by decide +kernel
theorem dX7_inRings_16 : decode cX7_inRings 16 = .ok (.iaload, 1) := by decide +kernel
theorem dX7_inRings_17 : decode cX7_inRings 17 = .ok (.aload_n 0, 1) := by decide +kernel
theorem dX7_inRings_18 : decode cX7_inRings 18 = .ok (.iconst 0, 1) := by decide +kernel
theorem dX7_inRings_19 : decode cX7_inRings 19 = .ok (.iload_n 3, 1) := by decide +kernel
theorem dX7_inRings_20 : decode cX7_inRings 20 = .ok (.invokevirtual 314, 3) := by decide +kernel
theorem dX7_inRings_23 : decode cX7_inRings 23 = .ok (.iadd, 1) := by decide +kernel
theorem dX7_inRings_24 : decode cX7_inRings 24 = .ok (.i2l, 1) := by decide +kernel
theorem dX7_inRings_25 : decode cX7_inRings 25 = .ok (.ladd, 1) := by decide +kernel
theorem dX7_inRings_26 : decode cX7_inRings 26 = .ok (.lstore_n 1, 1) := by decide +kernel
theorem dX7_inRings_27 : decode cX7_inRings 27 = .ok (.iinc 3 1, 3) := by decide +kernel
theorem dX7_inRings_30 : decode cX7_inRings 30 = .ok (.goto (-26), 3) := by decide +kernel
theorem dX7_inRings_33 : decode cX7_inRings 33 = .ok (.lload_n 1, 1) := by decide +kernel
theorem dX7_inRings_34 : decode cX7_inRings 34 = .ok (.lreturn, 1) := by decide +kernel
theorem dX7_inLumps_0 : decode cX7_inLumps 0 = .ok (.lconst 0, 1) := by decide +kernel
theorem dX7_inLumps_1 : decode cX7_inLumps 1 = .ok (.lstore_n 1, 1) := by decide +kernel
theorem dX7_inLumps_2 : decode cX7_inLumps 2 = .ok (.iconst 0, 1) := by decide +kernel
theorem dX7_inLumps_3 : decode cX7_inLumps 3 = .ok (.istore_n 3, 1) := by decide +kernel
theorem dX7_inLumps_4 : decode cX7_inLumps 4 = .ok (.iload_n 3, 1) := by decide +kernel
theorem dX7_inLumps_5 : decode cX7_inLumps 5 = .ok (.aload_n 0, 1) := by decide +kernel
theorem dX7_inLumps_6 : decode cX7_inLumps 6 = .ok (.getfield 146, 3) := by decide +kernel
theorem dX7_inLumps_9 : decode cX7_inLumps 9 = .ok (.iconst 0, 1) := by decide +kernel
theorem dX7_inLumps_10 : decode cX7_inLumps 10 = .ok (.iaload, 1) := by decide +kernel
theorem dX7_inLumps_11 : decode cX7_inLumps 11 = .ok (.if_icmp .ge 32, 3) := by decide +kernel
theorem dX7_inLumps_14 : decode cX7_inLumps 14 = .ok (.lload_n 1, 1) := by decide +kernel
theorem dX7_inLumps_15 : decode cX7_inLumps 15 = .ok (.aload_n 0, 1) := by decide +kernel
theorem dX7_inLumps_16 : decode cX7_inLumps 16 = .ok (.iconst 0, 1) := by decide +kernel
theorem dX7_inLumps_17 : decode cX7_inLumps 17 = .ok (.iload_n 3, 1) := by decide +kernel
theorem dX7_inLumps_18 : decode cX7_inLumps 18 = .ok (.invokevirtual 372, 3) := by decide +kernel
theorem dX7_inLumps_21 : decode cX7_inLumps 21 = .ok (.ifCond .eq 13, 3) := by decide +kernel
theorem dX7_inLumps_24 : decode cX7_inLumps 24 = .ok (.aload_n 0, 1) := by decide +kernel
theorem dX7_inLumps_25 : decode cX7_inLumps 25 = .ok (.iconst 0, 1) := by decide +kernel
theorem dX7_inLumps_26 : decode cX7_inLumps 26 = .ok (.iload_n 3, 1) := by decide +kernel
theorem dX7_inLumps_27 : decode cX7_inLumps 27 = .ok (.invokevirtual 326, 3) := by decide +kernel
theorem dX7_inLumps_30 : decode cX7_inLumps 30 = .ok (.i2l, 1) := by decide +kernel
theorem dX7_inLumps_31 : decode cX7_inLumps 31 = .ok (.goto 4, 3) := by decide +kernel
theorem dX7_inLumps_34 : decode cX7_inLumps 34 = .ok (.lconst 0, 1) := by decide +kernel
theorem dX7_inLumps_35 : decode cX7_inLumps 35 = .ok (.ladd, 1) := by decide +kernel
theorem dX7_inLumps_36 : decode cX7_inLumps 36 = .ok (.lstore_n 1, 1) := by decide +kernel
theorem dX7_inLumps_37 : decode cX7_inLumps 37 = .ok (.iinc 3 1, 3) := by decide +kernel
theorem dX7_inLumps_40 : decode cX7_inLumps 40 = .ok (.goto (-36), 3) := by decide +kernel
theorem dX7_inLumps_43 : decode cX7_inLumps 43 = .ok (.lload_n 1, 1) := by decide +kernel
theorem dX7_inLumps_44 : decode cX7_inLumps 44 = .ok (.lreturn, 1) := by decide +kernel
theorem dX7_parts_0 : decode cX7_parts 0 = .ok (.aload_n 0, 1) := by decide +kernel
theorem dX7_parts_1 : decode cX7_parts 1 = .ok (.iconst 0, 1) := by decide +kernel
theorem dX7_parts_2 : decode cX7_parts 2 = .ok (.putfield 1, 3) := by decide +kernel
theorem dX7_parts_5 : decode cX7_parts 5 = .ok (.iload_n 1, 1) := by decide +kernel
theorem dX7_parts_6 : decode cX7_parts 6 = .ok (.tableswitch 82 0 4 #[34, 39, 44, 51, 58], 34) := by decide +kernel
theorem dX7_parts_40 : decode cX7_parts 40 = .ok (.aload_n 0, 1) := by decide +kernel
theorem dX7_parts_41 : decode cX7_parts 41 = .ok (.invokevirtual 406, 3) := by decide +kernel
theorem dX7_parts_44 : decode cX7_parts 44 = .ok (.lreturn, 1) := by decide +kernel
theorem dX7_parts_45 : decode cX7_parts 45 = .ok (.aload_n 0, 1) := by decide +kernel
theorem dX7_parts_46 : decode cX7_parts 46 = .ok (.invokevirtual 410, 3) := by decide +kernel
theorem dX7_parts_49 : decode cX7_parts 49 = .ok (.lreturn, 1) := by decide +kernel
theorem dX7_parts_50 : decode cX7_parts 50 = .ok (.aload_n 0, 1) := by decide +kernel
theorem dX7_parts_51 : decode cX7_parts 51 = .ok (.getfield 140, 3) := by decide +kernel
theorem dX7_parts_54 : decode cX7_parts 54 = .ok (.iconst 0, 1) := by decide +kernel
theorem dX7_parts_55 : decode cX7_parts 55 = .ok (.laload, 1) := by decide +kernel
theorem dX7_parts_56 : decode cX7_parts 56 = .ok (.lreturn, 1) := by decide +kernel
theorem dX7_parts_57 : decode cX7_parts 57 = .ok (.aload_n 0, 1) := by decide +kernel
theorem dX7_parts_58 : decode cX7_parts 58 = .ok (.getfield 143, 3) := by decide +kernel
theorem dX7_parts_61 : decode cX7_parts 61 = .ok (.iconst 0, 1) := by decide +kernel
theorem dX7_parts_62 : decode cX7_parts 62 = .ok (.laload, 1) := by decide +kernel
theorem dX7_parts_63 : decode cX7_parts 63 = .ok (.lreturn, 1) := by decide +kernel
theorem dX7_parts_64 : decode cX7_parts 64 = .ok (.aload_n 0, 1) := by decide +kernel
theorem dX7_parts_65 : decode cX7_parts 65 = .ok (.invokevirtual 406, 3) := by decide +kernel
theorem dX7_parts_68 : decode cX7_parts 68 = .ok (.aload_n 0, 1) := by decide +kernel
theorem dX7_parts_69 : decode cX7_parts 69 = .ok (.invokevirtual 410, 3) := by decide +kernel
theorem dX7_parts_72 : decode cX7_parts 72 = .ok (.ladd, 1) := by decide +kernel
theorem dX7_parts_73 : decode cX7_parts 73 = .ok (.aload_n 0, 1) := by decide +kernel
theorem dX7_parts_74 : decode cX7_parts 74 = .ok (.getfield 140, 3) := by decide +kernel
theorem dX7_parts_77 : decode cX7_parts 77 = .ok (.iconst 0, 1) := by decide +kernel
theorem dX7_parts_78 : decode cX7_parts 78 = .ok (.laload, 1) := by decide +kernel
theorem dX7_parts_79 : decode cX7_parts 79 = .ok (.ladd, 1) := by decide +kernel
theorem dX7_parts_80 : decode cX7_parts 80 = .ok (.aload_n 0, 1) := by decide +kernel
theorem dX7_parts_81 : decode cX7_parts 81 = .ok (.getfield 143, 3) := by decide +kernel
theorem dX7_parts_84 : decode cX7_parts 84 = .ok (.iconst 0, 1) := by decide +kernel
theorem dX7_parts_85 : decode cX7_parts 85 = .ok (.laload, 1) := by decide +kernel
theorem dX7_parts_86 : decode cX7_parts 86 = .ok (.ladd, 1) := by decide +kernel
theorem dX7_parts_87 : decode cX7_parts 87 = .ok (.lreturn, 1) := by decide +kernel
theorem dX7_parts_88 : decode cX7_parts 88 = .ok (.ldc2_w 413, 3) := by decide +kernel
theorem dX7_parts_91 : decode cX7_parts 91 = .ok (.lreturn, 1) := by decide +kernel
theorem dX7_tries_0 : decode cX7_tries 0 = .ok (.aload_n 0, 1) := by decide +kernel
theorem dX7_tries_1 : decode cX7_tries 1 = .ok (.iconst 0, 1) := by decide +kernel
theorem dX7_tries_2 : decode cX7_tries 2 = .ok (.bipush 7, 2) := by decide +kernel
theorem dX7_tries_4 : decode cX7_tries 4 = .ok (.invokevirtual 415, 3) := by decide +kernel
theorem dX7_tries_7 : decode cX7_tries 7 = .ok (.aload_n 0, 1) := by decide +kernel
theorem dX7_tries_8 : decode cX7_tries 8 = .ok (.iload_n 1, 1) := by decide +kernel
theorem dX7_tries_9 : decode cX7_tries 9 = .ok (.putfield 298, 3) := by decide +kernel
theorem dX7_tries_12 : decode cX7_tries 12 = .ok (.iconst 0, 1) := by decide +kernel
theorem dX7_tries_13 : decode cX7_tries 13 = .ok (.istore_n 3, 1) := by decide +kernel
theorem dX7_tries_14 : decode cX7_tries 14 = .ok (.iload_n 3, 1) := by decide +kernel
theorem dX7_tries_15 : decode cX7_tries 15 = .ok (.iload_n 2, 1) := by decide +kernel
theorem dX7_tries_16 : decode cX7_tries 16 = .ok (.if_icmp .ge 15, 3) := by decide +kernel
theorem dX7_tries_19 : decode cX7_tries 19 = .ok (.aload_n 0, 1) := by decide +kernel
theorem dX7_tries_20 : decode cX7_tries 20 = .ok (.bipush 7, 2) := by decide +kernel
theorem dX7_tries_22 : decode cX7_tries 22 = .ok (.invokevirtual 394, 3) := by decide +kernel
theorem dX7_tries_25 : decode cX7_tries 25 = .ok (.iinc 3 1, 3) := by decide +kernel
theorem dX7_tries_28 : decode cX7_tries 28 = .ok (.goto (-14), 3) := by decide +kernel
theorem dX7_tries_31 : decode cX7_tries 31 = .ok (.return_, 1) := by decide +kernel
theorem dX7_isAsked_0 : decode cX7_isAsked 0 = .ok (.iload_n 2, 1) := by decide +kernel
theorem dX7_isAsked_1 : decode cX7_isAsked 1 = .ok (.ifCond .eq 13, 3) := by decide +kernel
theorem dX7_isAsked_4 : decode cX7_isAsked 4 = .ok (.iload_n 2, 1) := by decide +kernel
theorem dX7_isAsked_5 : decode cX7_isAsked 5 = .ok (.iconst 1, 1) := by decide +kernel
theorem dX7_isAsked_6 : decode cX7_isAsked 6 = .ok (.if_icmp .eq 8, 3) := by decide +kernel
theorem dX7_isAsked_9 : decode cX7_isAsked 9 = .ok (.iload_n 2, 1) := by decide +kernel
theorem dX7_isAsked_10 : decode cX7_isAsked 10 = .ok (.iconst 3, 1) := by decide +kernel
theorem dX7_isAsked_11 : decode cX7_isAsked 11 = .ok (.if_icmp .ne 7, 3) := by decide +kernel
theorem dX7_isAsked_14 : decode cX7_isAsked 14 = .ok (.iconst 1, 1) := by decide +kernel
theorem dX7_isAsked_15 : decode cX7_isAsked 15 = .ok (.goto 4, 3) := by decide +kernel
theorem dX7_isAsked_18 : decode cX7_isAsked 18 = .ok (.iconst 0, 1) := by decide +kernel
theorem dX7_isAsked_19 : decode cX7_isAsked 19 = .ok (.istore 4, 2) := by decide +kernel
theorem dX7_isAsked_21 : decode cX7_isAsked 21 = .ok (.iload_n 1, 1) := by decide +kernel
theorem dX7_isAsked_22 : decode cX7_isAsked 22 = .ok (.iconst 0, 1) := by decide +kernel
theorem dX7_isAsked_23 : decode cX7_isAsked 23 = .ok (.bipush 100, 2) := by decide +kernel
theorem dX7_isAsked_25 : decode cX7_isAsked 25 = .ok (.invokestatic 301, 3) := by decide +kernel
theorem dX7_isAsked_28 : decode cX7_isAsked 28 = .ok (.ifCond .eq 43, 3) := by decide +kernel
theorem dX7_isAsked_31 : decode cX7_isAsked 31 = .ok (.iload_n 2, 1) := by decide +kernel
theorem dX7_isAsked_32 : decode cX7_isAsked 32 = .ok (.iconst 0, 1) := by decide +kernel
theorem dX7_isAsked_33 : decode cX7_isAsked 33 = .ok (.iconst 4, 1) := by decide +kernel
theorem dX7_isAsked_34 : decode cX7_isAsked 34 = .ok (.invokestatic 301, 3) := by decide +kernel
theorem dX7_isAsked_37 : decode cX7_isAsked 37 = .ok (.ifCond .eq 34, 3) := by decide +kernel
theorem dX7_isAsked_40 : decode cX7_isAsked 40 = .ok (.iload 4, 2) := by decide +kernel
theorem dX7_isAsked_42 : decode cX7_isAsked 42 = .ok (.ifCond .eq 14, 3) := by decide +kernel
theorem dX7_isAsked_45 : decode cX7_isAsked 45 = .ok (.aload_n 0, 1) := by decide +kernel
theorem dX7_isAsked_46 : decode cX7_isAsked 46 = .ok (.iload_n 3, 1) := by decide +kernel
theorem dX7_isAsked_47 : decode cX7_isAsked 47 = .ok (.invokevirtual 305, 3) := by decide +kernel
theorem dX7_isAsked_50 : decode cX7_isAsked 50 = .ok (.ifCond .eq 21, 3) := by decide +kernel
theorem dX7_isAsked_53 : decode cX7_isAsked 53 = .ok (.goto 14, 3) := by decide +kernel
theorem dX7_isAsked_56 : decode cX7_isAsked 56 = .ok (.iload_n 3, 1) := by decide +kernel
theorem dX7_isAsked_57 : decode cX7_isAsked 57 = .ok (.iconst 0, 1) := by decide +kernel
theorem dX7_isAsked_58 : decode cX7_isAsked 58 = .ok (.ldc_w 418, 3) := by decide +kernel
theorem dX7_isAsked_61 : decode cX7_isAsked 61 = .ok (.invokestatic 301, 3) := by decide +kernel
theorem dX7_isAsked_64 : decode cX7_isAsked 64 = .ok (.ifCond .eq 7, 3) := by decide +kernel
theorem dX7_isAsked_67 : decode cX7_isAsked 67 = .ok (.iconst 1, 1) := by decide +kernel
theorem dX7_isAsked_68 : decode cX7_isAsked 68 = .ok (.goto 4, 3) := by decide +kernel
theorem dX7_isAsked_71 : decode cX7_isAsked 71 = .ok (.iconst 0, 1) := by decide +kernel
theorem dX7_isAsked_72 : decode cX7_isAsked 72 = .ok (.ireturn, 1) := by decide +kernel
theorem dX7_isSo_0 : decode cX7_isSo 0 = .ok (.iload_n 1, 1) := by decide +kernel
theorem dX7_isSo_1 : decode cX7_isSo 1 = .ok (.ifCond .ne 19, 3) := by decide +kernel
theorem dX7_isSo_4 : decode cX7_isSo 4 = .ok (.aload_n 0, 1) := by decide +kernel
theorem dX7_isSo_5 : decode cX7_isSo 5 = .ok (.bipush 7, 2) := by decide +kernel
theorem dX7_isSo_7 : decode cX7_isSo 7 = .ok (.iload_n 2, 1) := by decide +kernel
theorem dX7_isSo_8 : decode cX7_isSo 8 = .ok (.invokevirtual 314, 3) := by decide +kernel
theorem dX7_isSo_11 : decode cX7_isSo 11 = .ok (.ifCond .ne 7, 3) := by decide +kernel
theorem dX7_isSo_14 : decode cX7_isSo 14 = .ok (.iconst 1, 1) := by decide +kernel
theorem dX7_isSo_15 : decode cX7_isSo 15 = .ok (.goto 4, 3) := by decide +kernel
theorem dX7_isSo_18 : decode cX7_isSo 18 = .ok (.iconst 0, 1) := by decide +kernel
theorem dX7_isSo_19 : decode cX7_isSo 19 = .ok (.ireturn, 1) := by decide +kernel
theorem dX7_isSo_20 : decode cX7_isSo 20 = .ok (.iload_n 1, 1) := by decide +kernel
theorem dX7_isSo_21 : decode cX7_isSo 21 = .ok (.iconst 2, 1) := by decide +kernel
theorem dX7_isSo_22 : decode cX7_isSo 22 = .ok (.if_icmp .ne 19, 3) := by decide +kernel
theorem dX7_isSo_25 : decode cX7_isSo 25 = .ok (.aload_n 0, 1) := by decide +kernel
theorem dX7_isSo_26 : decode cX7_isSo 26 = .ok (.bipush 7, 2) := by decide +kernel
theorem dX7_isSo_28 : decode cX7_isSo 28 = .ok (.invokevirtual 317, 3) := by decide +kernel
theorem dX7_isSo_31 : decode cX7_isSo 31 = .ok (.iload_n 2, 1) := by decide +kernel
theorem dX7_isSo_32 : decode cX7_isSo 32 = .ok (.if_icmp .lt 7, 3) := by decide +kernel
theorem dX7_isSo_35 : decode cX7_isSo 35 = .ok (.iconst 1, 1) := by decide +kernel
theorem dX7_isSo_36 : decode cX7_isSo 36 = .ok (.goto 4, 3) := by decide +kernel
theorem dX7_isSo_39 : decode cX7_isSo 39 = .ok (.iconst 0, 1) := by decide +kernel
theorem dX7_isSo_40 : decode cX7_isSo 40 = .ok (.ireturn, 1) := by decide +kernel
theorem dX7_isSo_41 : decode cX7_isSo 41 = .ok (.iload_n 1, 1) := by decide +kernel
theorem dX7_isSo_42 : decode cX7_isSo 42 = .ok (.iconst 4, 1) := by decide +kernel
theorem dX7_isSo_43 : decode cX7_isSo 43 = .ok (.if_icmp .ne 22, 3) := by decide +kernel
theorem dX7_isSo_46 : decode cX7_isSo 46 = .ok (.aload_n 0, 1) := by decide +kernel
theorem dX7_isSo_47 : decode cX7_isSo 47 = .ok (.getfield 140, 3) := by decide +kernel
theorem dX7_isSo_50 : decode cX7_isSo 50 = .ok (.bipush 7, 2) := by decide +kernel
theorem dX7_isSo_52 : decode cX7_isSo 52 = .ok (.laload, 1) := by decide +kernel
theorem dX7_isSo_53 : decode cX7_isSo 53 = .ok (.iload_n 2, 1) := by decide +kernel
theorem dX7_isSo_54 : decode cX7_isSo 54 = .ok (.i2l, 1) := by decide +kernel
theorem dX7_isSo_55 : decode cX7_isSo 55 = .ok (.lcmp, 1) := by decide +kernel
theorem dX7_isSo_56 : decode cX7_isSo 56 = .ok (.ifCond .lt 7, 3) := by decide +kernel
theorem dX7_isSo_59 : decode cX7_isSo 59 = .ok (.iconst 1, 1) := by decide +kernel
theorem dX7_isSo_60 : decode cX7_isSo 60 = .ok (.goto 4, 3) := by decide +kernel
theorem dX7_isSo_63 : decode cX7_isSo 63 = .ok (.iconst 0, 1) := by decide +kernel
theorem dX7_isSo_64 : decode cX7_isSo 64 = .ok (.ireturn, 1) := by decide +kernel
theorem dX7_isSo_65 : decode cX7_isSo 65 = .ok (.iconst 0, 1) := by decide +kernel
theorem dX7_isSo_66 : decode cX7_isSo 66 = .ok (.istore_n 3, 1) := by decide +kernel
theorem dX7_isSo_67 : decode cX7_isSo 67 = .ok (.iconst 0, 1) := by decide +kernel
theorem dX7_isSo_68 : decode cX7_isSo 68 = .ok (.istore 4, 2) := by decide +kernel
theorem dX7_isSo_70 : decode cX7_isSo 70 = .ok (.iload 4, 2) := by decide +kernel
theorem dX7_isSo_72 : decode cX7_isSo 72 = .ok (.aload_n 0, 1) := by decide +kernel
theorem dX7_isSo_73 : decode cX7_isSo 73 = .ok (.getfield 146, 3) := by decide +kernel
theorem dX7_isSo_76 : decode cX7_isSo 76 = .ok (.bipush 7, 2) := by decide +kernel
theorem dX7_isSo_78 : decode cX7_isSo 78 = .ok (.iaload, 1) := by decide +kernel
theorem dX7_isSo_79 : decode cX7_isSo 79 = .ok (.if_icmp .ge 61, 3) := by decide +kernel
theorem dX7_isSo_82 : decode cX7_isSo 82 = .ok (.iload_n 3, 1) := by decide +kernel
theorem dX7_isSo_83 : decode cX7_isSo 83 = .ok (.ifCond .ne 45, 3) := by decide +kernel
theorem dX7_isSo_86 : decode cX7_isSo 86 = .ok (.aload_n 0, 1) := by decide +kernel
theorem dX7_isSo_87 : decode cX7_isSo 87 = .ok (.bipush 7, 2) := by decide +kernel
theorem dX7_isSo_89 : decode cX7_isSo 89 = .ok (.iload 4, 2) := by decide +kernel
theorem dX7_isSo_91 : decode cX7_isSo 91 = .ok (.invokevirtual 372, 3) := by decide +kernel
theorem dX7_isSo_94 : decode cX7_isSo 94 = .ok (.ifCond .eq 38, 3) := by decide +kernel
theorem dX7_isSo_97 : decode cX7_isSo 97 = .ok (.iload_n 1, 1) := by decide +kernel
theorem dX7_isSo_98 : decode cX7_isSo 98 = .ok (.iconst 1, 1) := by decide +kernel
theorem dX7_isSo_99 : decode cX7_isSo 99 = .ok (.if_icmp .ne 17, 3) := by decide +kernel
theorem dX7_isSo_102 : decode cX7_isSo 102 = .ok (.aload_n 0, 1) := by decide +kernel
theorem dX7_isSo_103 : decode cX7_isSo 103 = .ok (.getfield 152, 3) := by decide +kernel
theorem dX7_isSo_106 : decode cX7_isSo 106 = .ok (.sipush 210, 3) := by decide +kernel
theorem dX7_isSo_109 : decode cX7_isSo 109 = .ok (.iload 4, 2) := by decide +kernel
theorem dX7_isSo_111 : decode cX7_isSo 111 = .ok (.iadd, 1) := by decide +kernel
theorem dX7_isSo_112 : decode cX7_isSo 112 = .ok (.iaload, 1) := by decide +kernel
theorem dX7_isSo_113 : decode cX7_isSo 113 = .ok (.goto 11, 3) := by decide +kernel
theorem dX7_isSo_116 : decode cX7_isSo 116 = .ok (.aload_n 0, 1) := by decide +kernel
theorem dX7_isSo_117 : decode cX7_isSo 117 = .ok (.bipush 7, 2) := by decide +kernel
theorem dX7_isSo_119 : decode cX7_isSo 119 = .ok (.iload 4, 2) := by decide +kernel
theorem dX7_isSo_121 : decode cX7_isSo 121 = .ok (.invokevirtual 400, 3) := by decide +kernel
theorem dX7_isSo_124 : decode cX7_isSo 124 = .ok (.iload_n 2, 1) := by decide +kernel
theorem dX7_isSo_125 : decode cX7_isSo 125 = .ok (.if_icmp .ne 7, 3) := by decide +kernel
theorem dX7_isSo_128 : decode cX7_isSo 128 = .ok (.iconst 1, 1) := by decide +kernel
theorem dX7_isSo_129 : decode cX7_isSo 129 = .ok (.goto 4, 3) := by decide +kernel
theorem dX7_isSo_132 : decode cX7_isSo 132 = .ok (.iconst 0, 1) := by decide +kernel
theorem dX7_isSo_133 : decode cX7_isSo 133 = .ok (.istore_n 3, 1) := by decide +kernel
theorem dX7_isSo_134 : decode cX7_isSo 134 = .ok (.iinc 4 1, 3) := by decide +kernel
theorem dX7_isSo_137 : decode cX7_isSo 137 = .ok (.goto (-67), 3) := by decide +kernel
theorem dX7_isSo_140 : decode cX7_isSo 140 = .ok (.iload_n 3, 1) := by decide +kernel
theorem dX7_isSo_141 : decode cX7_isSo 141 = .ok (.ireturn, 1) := by decide +kernel
theorem dX7_asked_0 : decode cX7_asked 0 = .ok (.aload_n 0, 1) := by decide +kernel
theorem dX7_asked_1 : decode cX7_asked 1 = .ok (.iconst 0, 1) := by decide +kernel
theorem dX7_asked_2 : decode cX7_asked 2 = .ok (.putfield 1, 3) := by decide +kernel
theorem dX7_asked_5 : decode cX7_asked 5 = .ok (.aload_n 0, 1) := by decide +kernel
theorem dX7_asked_6 : decode cX7_asked 6 = .ok (.iload_n 1, 1) := by decide +kernel
theorem dX7_asked_7 : decode cX7_asked 7 = .ok (.invokevirtual 311, 3) := by decide +kernel
theorem dX7_asked_10 : decode cX7_asked 10 = .ok (.ifCond .eq 14, 3) := by decide +kernel
theorem dX7_asked_13 : decode cX7_asked 13 = .ok (.aload_n 0, 1) := by decide +kernel
theorem dX7_asked_14 : decode cX7_asked 14 = .ok (.iload_n 2, 1) := by decide +kernel
theorem dX7_asked_15 : decode cX7_asked 15 = .ok (.iload_n 3, 1) := by decide +kernel
theorem dX7_asked_16 : decode cX7_asked 16 = .ok (.iload 4, 2) := by decide +kernel
theorem dX7_asked_18 : decode cX7_asked 18 = .ok (.invokevirtual 419, 3) := by decide +kernel
theorem dX7_asked_21 : decode cX7_asked 21 = .ok (.ifCond .ne 5, 3) := by decide +kernel
theorem dX7_asked_24 : decode cX7_asked 24 = .ok (.iconst (-1), 1) := by decide +kernel
theorem dX7_asked_25 : decode cX7_asked 25 = .ok (.ireturn, 1) := by decide +kernel
theorem dX7_asked_26 : decode cX7_asked 26 = .ok (.aload_n 0, 1) := by decide +kernel
theorem dX7_asked_27 : decode cX7_asked 27 = .ok (.iload_n 1, 1) := by decide +kernel
theorem dX7_asked_28 : decode cX7_asked 28 = .ok (.iload_n 2, 1) := by decide +kernel
theorem dX7_asked_29 : decode cX7_asked 29 = .ok (.invokevirtual 422, 3) := by decide +kernel
theorem dX7_asked_32 : decode cX7_asked 32 = .ok (.aload_n 0, 1) := by decide +kernel
theorem dX7_asked_33 : decode cX7_asked 33 = .ok (.iload_n 3, 1) := by decide +kernel
theorem dX7_asked_34 : decode cX7_asked 34 = .ok (.iload 4, 2) := by decide +kernel
theorem dX7_asked_36 : decode cX7_asked 36 = .ok (.invokevirtual 425, 3) := by decide +kernel
theorem dX7_asked_39 : decode cX7_asked 39 = .ok (.ifCond .eq 7, 3) := by decide +kernel
theorem dX7_asked_42 : decode cX7_asked 42 = .ok (.iconst 1, 1) := by decide +kernel
theorem dX7_asked_43 : decode cX7_asked 43 = .ok (.goto 4, 3) := by decide +kernel
theorem dX7_asked_46 : decode cX7_asked 46 = .ok (.iconst 0, 1) := by decide +kernel
theorem dX7_asked_47 : decode cX7_asked 47 = .ok (.ireturn, 1) := by decide +kernel
theorem dX7_sure_0 : decode cX7_sure 0 = .ok (.aload_n 0, 1) := by decide +kernel
theorem dX7_sure_1 : decode cX7_sure 1 = .ok (.iconst 0, 1) := by decide +kernel
theorem dX7_sure_2 : decode cX7_sure 2 = .ok (.putfield 1, 3) := by decide +kernel
theorem dX7_sure_5 : decode cX7_sure 5 = .ok (.aload_n 0, 1) := by decide +kernel
theorem dX7_sure_6 : decode cX7_sure 6 = .ok (.iload_n 1, 1) := by decide +kernel
theorem dX7_sure_7 : decode cX7_sure 7 = .ok (.iload_n 2, 1) := by decide +kernel
theorem dX7_sure_8 : decode cX7_sure 8 = .ok (.iload_n 3, 1) := by decide +kernel
theorem dX7_sure_9 : decode cX7_sure 9 = .ok (.invokevirtual 419, 3) := by decide +kernel
theorem dX7_sure_12 : decode cX7_sure 12 = .ok (.ifCond .ne 5, 3) := by decide +kernel
theorem dX7_sure_15 : decode cX7_sure 15 = .ok (.iconst (-1), 1) := by decide +kernel
theorem dX7_sure_16 : decode cX7_sure 16 = .ok (.ireturn, 1) := by decide +kernel
theorem dX7_sure_17 : decode cX7_sure 17 = .ok (.iconst 1, 1) := by decide +kernel
theorem dX7_sure_18 : decode cX7_sure 18 = .ok (.istore 4, 2) := by decide +kernel
theorem dX7_sure_20 : decode cX7_sure 20 = .ok (.iconst 0, 1) := by decide +kernel
theorem dX7_sure_21 : decode cX7_sure 21 = .ok (.istore 5, 2) := by decide +kernel
theorem dX7_sure_23 : decode cX7_sure 23 = .ok (.iconst 0, 1) := by decide +kernel
theorem dX7_sure_24 : decode cX7_sure 24 = .ok (.istore 6, 2) := by decide +kernel
theorem dX7_sure_26 : decode cX7_sure 26 = .ok (.iload 6, 2) := by decide +kernel
theorem dX7_sure_28 : decode cX7_sure 28 = .ok (.iconst 1, 1) := by decide +kernel
theorem dX7_sure_29 : decode cX7_sure 29 = .ok (.aload_n 0, 1) := by decide +kernel
theorem dX7_sure_30 : decode cX7_sure 30 = .ok (.getfield 101, 3) := by decide +kernel
theorem dX7_sure_33 : decode cX7_sure 33 = .ok (.aload_n 0, 1) := by decide +kernel
theorem dX7_sure_34 : decode cX7_sure 34 = .ok (.getfield 243, 3) := by decide +kernel
theorem dX7_sure_37 : decode cX7_sure 37 = .ok (.iaload, 1) := by decide +kernel
theorem dX7_sure_38 : decode cX7_sure 38 = .ok (.ishl, 1) := by decide +kernel
theorem dX7_sure_39 : decode cX7_sure 39 = .ok (.if_icmp .ge 58, 3) := by decide +kernel
theorem dX7_sure_42 : decode cX7_sure 42 = .ok (.aload_n 0, 1) := by decide +kernel
theorem dX7_sure_43 : decode cX7_sure 43 = .ok (.iload 6, 2) := by decide +kernel
theorem dX7_sure_45 : decode cX7_sure 45 = .ok (.iload_n 1, 1) := by decide +kernel
theorem dX7_sure_46 : decode cX7_sure 46 = .ok (.invokevirtual 422, 3) := by decide +kernel
theorem dX7_sure_49 : decode cX7_sure 49 = .ok (.aload_n 0, 1) := by decide +kernel
theorem dX7_sure_50 : decode cX7_sure 50 = .ok (.iload_n 2, 1) := by decide +kernel
theorem dX7_sure_51 : decode cX7_sure 51 = .ok (.iload_n 3, 1) := by decide +kernel
theorem dX7_sure_52 : decode cX7_sure 52 = .ok (.invokevirtual 425, 3) := by decide +kernel
theorem dX7_sure_55 : decode cX7_sure 55 = .ok (.istore 7, 2) := by decide +kernel
theorem dX7_sure_57 : decode cX7_sure 57 = .ok (.iload 4, 2) := by decide +kernel
theorem dX7_sure_59 : decode cX7_sure 59 = .ok (.ifCond .eq 12, 3) := by decide +kernel
theorem dX7_sure_62 : decode cX7_sure 62 = .ok (.iload 7, 2) := by decide +kernel
theorem dX7_sure_64 : decode cX7_sure 64 = .ok (.ifCond .eq 7, 3) := by decide +kernel
theorem dX7_sure_67 : decode cX7_sure 67 = .ok (.iconst 1, 1) := by decide +kernel
theorem dX7_sure_68 : decode cX7_sure 68 = .ok (.goto 4, 3) := by decide +kernel
theorem dX7_sure_71 : decode cX7_sure 71 = .ok (.iconst 0, 1) := by decide +kernel
theorem dX7_sure_72 : decode cX7_sure 72 = .ok (.istore 4, 2) := by decide +kernel
theorem dX7_sure_74 : decode cX7_sure 74 = .ok (.iload 5, 2) := by decide +kernel
theorem dX7_sure_76 : decode cX7_sure 76 = .ok (.ifCond .ne 8, 3) := by decide +kernel
theorem dX7_sure_79 : decode cX7_sure 79 = .ok (.iload 7, 2) := by decide +kernel
theorem dX7_sure_81 : decode cX7_sure 81 = .ok (.ifCond .eq 7, 3) := by decide +kernel
theorem dX7_sure_84 : decode cX7_sure 84 = .ok (.iconst 1, 1) := by decide +kernel
theorem dX7_sure_85 : decode cX7_sure 85 = .ok (.goto 4, 3) := by decide +kernel
theorem dX7_sure_88 : decode cX7_sure 88 = .ok (.iconst 0, 1) := by decide +kernel
theorem dX7_sure_89 : decode cX7_sure 89 = .ok (.istore 5, 2) := by decide +kernel
theorem dX7_sure_91 : decode cX7_sure 91 = .ok (.iinc 6 1, 3) := by decide +kernel
theorem dX7_sure_94 : decode cX7_sure 94 = .ok (.goto (-68), 3) := by decide +kernel
theorem dX7_sure_97 : decode cX7_sure 97 = .ok (.iload 4, 2) := by decide +kernel
theorem dX7_sure_99 : decode cX7_sure 99 = .ok (.ifCond .eq 7, 3) := by decide +kernel
theorem dX7_sure_102 : decode cX7_sure 102 = .ok (.iconst 2, 1) := by decide +kernel
theorem dX7_sure_103 : decode cX7_sure 103 = .ok (.goto 13, 3) := by decide +kernel
theorem dX7_sure_106 : decode cX7_sure 106 = .ok (.iload 5, 2) := by decide +kernel
theorem dX7_sure_108 : decode cX7_sure 108 = .ok (.ifCond .eq 7, 3) := by decide +kernel
theorem dX7_sure_111 : decode cX7_sure 111 = .ok (.iconst 1, 1) := by decide +kernel
theorem dX7_sure_112 : decode cX7_sure 112 = .ok (.goto 4, 3) := by decide +kernel
theorem dX7_sure_115 : decode cX7_sure 115 = .ok (.iconst 0, 1) := by decide +kernel
theorem dX7_sure_116 : decode cX7_sure 116 = .ok (.ireturn, 1) := by decide +kernel
theorem dX7_empty_0 : decode cX7_empty 0 = .ok (.aload_n 0, 1) := by decide +kernel
theorem dX7_empty_1 : decode cX7_empty 1 = .ok (.iconst 0, 1) := by decide +kernel
theorem dX7_empty_2 : decode cX7_empty 2 = .ok (.putfield 1, 3) := by decide +kernel
theorem dX7_empty_5 : decode cX7_empty 5 = .ok (.aload_n 0, 1) := by decide +kernel
theorem dX7_empty_6 : decode cX7_empty 6 = .ok (.iload_n 1, 1) := by decide +kernel
theorem dX7_empty_7 : decode cX7_empty 7 = .ok (.invokevirtual 305, 3) := by decide +kernel
theorem dX7_empty_10 : decode cX7_empty 10 = .ok (.ifCond .eq 11, 3) := by decide +kernel
theorem dX7_empty_13 : decode cX7_empty 13 = .ok (.aload_n 0, 1) := by decide +kernel
theorem dX7_empty_14 : decode cX7_empty 14 = .ok (.iload_n 2, 1) := by decide +kernel
theorem dX7_empty_15 : decode cX7_empty 15 = .ok (.invokevirtual 311, 3) := by decide +kernel
theorem dX7_empty_18 : decode cX7_empty 18 = .ok (.ifCond .ne 5, 3) := by decide +kernel
theorem dX7_empty_21 : decode cX7_empty 21 = .ok (.iconst (-1), 1) := by decide +kernel
theorem dX7_empty_22 : decode cX7_empty 22 = .ok (.ireturn, 1) := by decide +kernel
theorem dX7_empty_23 : decode cX7_empty 23 = .ok (.aload_n 0, 1) := by decide +kernel
theorem dX7_empty_24 : decode cX7_empty 24 = .ok (.iload_n 2, 1) := by decide +kernel
theorem dX7_empty_25 : decode cX7_empty 25 = .ok (.iconst 0, 1) := by decide +kernel
theorem dX7_empty_26 : decode cX7_empty 26 = .ok (.invokevirtual 422, 3) := by decide +kernel
theorem dX7_empty_29 : decode cX7_empty 29 = .ok (.iconst 0, 1) := by decide +kernel
theorem dX7_empty_30 : decode cX7_empty 30 = .ok (.istore_n 3, 1) := by decide +kernel
theorem dX7_empty_31 : decode cX7_empty 31 = .ok (.iload_n 3, 1) := by decide +kernel
theorem dX7_empty_32 : decode cX7_empty 32 = .ok (.sipush 200, 3) := by decide +kernel
theorem dX7_empty_35 : decode cX7_empty 35 = .ok (.if_icmp .gt 40, 3) := by decide +kernel
theorem dX7_empty_38 : decode cX7_empty 38 = .ok (.aload_n 0, 1) := by decide +kernel
theorem dX7_empty_39 : decode cX7_empty 39 = .ok (.bipush 7, 2) := by decide +kernel
theorem dX7_empty_41 : decode cX7_empty 41 = .ok (.iload_n 1, 1) := by decide +kernel
theorem dX7_empty_42 : decode cX7_empty 42 = .ok (.invokevirtual 314, 3) := by decide +kernel
theorem dX7_empty_45 : decode cX7_empty 45 = .ok (.ifCond .ne 11, 3) := by decide +kernel
theorem dX7_empty_48 : decode cX7_empty 48 = .ok (.aload_n 0, 1) := by decide +kernel
theorem dX7_empty_49 : decode cX7_empty 49 = .ok (.getfield 137, 3) := by decide +kernel
theorem dX7_empty_52 : decode cX7_empty 52 = .ok (.bipush 7, 2) := by decide +kernel
theorem dX7_empty_54 : decode cX7_empty 54 = .ok (.iaload, 1) := by decide +kernel
theorem dX7_empty_55 : decode cX7_empty 55 = .ok (.ireturn, 1) := by decide +kernel
theorem dX7_empty_56 : decode cX7_empty 56 = .ok (.iload_n 3, 1) := by decide +kernel
theorem dX7_empty_57 : decode cX7_empty 57 = .ok (.sipush 200, 3) := by decide +kernel
theorem dX7_empty_60 : decode cX7_empty 60 = .ok (.if_icmp .ge 9, 3) := by decide +kernel
theorem dX7_empty_63 : decode cX7_empty 63 = .ok (.aload_n 0, 1) := by decide +kernel
theorem dX7_empty_64 : decode cX7_empty 64 = .ok (.bipush 7, 2) := by decide +kernel
theorem dX7_empty_66 : decode cX7_empty 66 = .ok (.invokevirtual 394, 3) := by decide +kernel
theorem dX7_empty_69 : decode cX7_empty 69 = .ok (.iinc 3 1, 3) := by decide +kernel
theorem dX7_empty_72 : decode cX7_empty 72 = .ok (.goto (-41), 3) := by decide +kernel
theorem dX7_empty_75 : decode cX7_empty 75 = .ok (.iconst (-1), 1) := by decide +kernel
theorem dX7_empty_76 : decode cX7_empty 76 = .ok (.ireturn, 1) := by decide +kernel
theorem dX7_runs_0 : decode cX7_runs 0 = .ok (.aload_n 0, 1) := by decide +kernel
theorem dX7_runs_1 : decode cX7_runs 1 = .ok (.iconst 0, 1) := by decide +kernel
theorem dX7_runs_2 : decode cX7_runs 2 = .ok (.putfield 1, 3) := by decide +kernel
theorem dX7_runs_5 : decode cX7_runs 5 = .ok (.iload_n 1, 1) := by decide +kernel
theorem dX7_runs_6 : decode cX7_runs 6 = .ok (.iconst 1, 1) := by decide +kernel
theorem dX7_runs_7 : decode cX7_runs 7 = .ok (.bipush 40, 2) := by decide +kernel
theorem dX7_runs_9 : decode cX7_runs 9 = .ok (.invokestatic 301, 3) := by decide +kernel
theorem dX7_runs_12 : decode cX7_runs 12 = .ok (.ifCond .eq 23, 3) := by decide +kernel
theorem dX7_runs_15 : decode cX7_runs 15 = .ok (.iload_n 2, 1) := by decide +kernel
theorem dX7_runs_16 : decode cX7_runs 16 = .ok (.iconst 0, 1) := by decide +kernel
theorem dX7_runs_17 : decode cX7_runs 17 = .ok (.bipush 60, 2) := by decide +kernel
theorem dX7_runs_19 : decode cX7_runs 19 = .ok (.invokestatic 301, 3) := by decide +kernel
theorem dX7_runs_22 : decode cX7_runs 22 = .ok (.ifCond .eq 13, 3) := by decide +kernel
theorem dX7_runs_25 : decode cX7_runs 25 = .ok (.iload_n 3, 1) := by decide +kernel
theorem dX7_runs_26 : decode cX7_runs 26 = .ok (.iconst (-1), 1) := by decide +kernel
theorem dX7_runs_27 : decode cX7_runs 27 = .ok (.bipush 30, 2) := by decide +kernel
theorem dX7_runs_29 : decode cX7_runs 29 = .ok (.invokestatic 301, 3) := by decide +kernel
theorem dX7_runs_32 : decode cX7_runs 32 = .ok (.ifCond .ne 5, 3) := by decide +kernel
theorem dX7_runs_35 : decode cX7_runs 35 = .ok (.iconst (-1), 1) := by decide +kernel
theorem dX7_runs_36 : decode cX7_runs 36 = .ok (.ireturn, 1) := by decide +kernel
theorem dX7_runs_37 : decode cX7_runs 37 = .ok (.iconst 0, 1) := by decide +kernel
theorem dX7_runs_38 : decode cX7_runs 38 = .ok (.istore 4, 2) := by decide +kernel
theorem dX7_runs_40 : decode cX7_runs 40 = .ok (.iconst 0, 1) := by decide +kernel
theorem dX7_runs_41 : decode cX7_runs 41 = .ok (.istore 5, 2) := by decide +kernel
theorem dX7_runs_43 : decode cX7_runs 43 = .ok (.iload 5, 2) := by decide +kernel
theorem dX7_runs_45 : decode cX7_runs 45 = .ok (.iload_n 1, 1) := by decide +kernel
theorem dX7_runs_46 : decode cX7_runs 46 = .ok (.if_icmp .ge 87, 3) := by decide +kernel
theorem dX7_runs_49 : decode cX7_runs 49 = .ok (.aload_n 0, 1) := by decide +kernel
theorem dX7_runs_50 : decode cX7_runs 50 = .ok (.iconst 0, 1) := by decide +kernel
theorem dX7_runs_51 : decode cX7_runs 51 = .ok (.bipush 7, 2) := by decide +kernel
theorem dX7_runs_53 : decode cX7_runs 53 = .ok (.invokevirtual 415, 3) := by decide +kernel
theorem dX7_runs_56 : decode cX7_runs 56 = .ok (.aload_n 0, 1) := by decide +kernel
theorem dX7_runs_57 : decode cX7_runs 57 = .ok (.getfield 134, 3) := by decide +kernel
theorem dX7_runs_60 : decode cX7_runs 60 = .ok (.bipush 7, 2) := by decide +kernel
theorem dX7_runs_62 : decode cX7_runs 62 = .ok (.iload 5, 2) := by decide +kernel
theorem dX7_runs_64 : decode cX7_runs 64 = .ok (.iastore, 1) := by decide +kernel
theorem dX7_runs_65 : decode cX7_runs 65 = .ok (.aload_n 0, 1) := by decide +kernel
theorem dX7_runs_66 : decode cX7_runs 66 = .ok (.aload_n 0, 1) := by decide +kernel
theorem dX7_runs_67 : decode cX7_runs 67 = .ok (.getfield 249, 3) := by decide +kernel
theorem dX7_runs_70 : decode cX7_runs 70 = .ok (.putfield 298, 3) := by decide +kernel
theorem dX7_runs_73 : decode cX7_runs 73 = .ok (.iconst 0, 1) := by decide +kernel
theorem dX7_runs_74 : decode cX7_runs 74 = .ok (.istore 6, 2) := by decide +kernel
theorem dX7_runs_76 : decode cX7_runs 76 = .ok (.iload 6, 2) := by decide +kernel
theorem dX7_runs_78 : decode cX7_runs 78 = .ok (.iload_n 2, 1) := by decide +kernel
theorem dX7_runs_79 : decode cX7_runs 79 = .ok (.if_icmp .ge 15, 3) := by decide +kernel
theorem dX7_runs_82 : decode cX7_runs 82 = .ok (.aload_n 0, 1) := by decide +kernel
theorem dX7_runs_83 : decode cX7_runs 83 = .ok (.bipush 7, 2) := by decide +kernel
theorem dX7_runs_85 : decode cX7_runs 85 = .ok (.invokevirtual 394, 3) := by decide +kernel
theorem dX7_runs_88 : decode cX7_runs 88 = .ok (.iinc 6 1, 3) := by decide +kernel
theorem dX7_runs_91 : decode cX7_runs 91 = .ok (.goto (-15), 3) := by decide +kernel
theorem dX7_runs_94 : decode cX7_runs 94 = .ok (.iload 4, 2) := by decide +kernel
theorem dX7_runs_96 : decode cX7_runs 96 = .ok (.iload_n 3, 1) := by decide +kernel
theorem dX7_runs_97 : decode cX7_runs 97 = .ok (.ifCond .ge 12, 3) := by decide +kernel
theorem dX7_runs_100 : decode cX7_runs 100 = .ok (.aload_n 0, 1) := by decide +kernel
theorem dX7_runs_101 : decode cX7_runs 101 = .ok (.bipush 7, 2) := by decide +kernel
theorem dX7_runs_103 : decode cX7_runs 103 = .ok (.invokevirtual 317, 3) := by decide +kernel
theorem dX7_runs_106 : decode cX7_runs 106 = .ok (.goto 18, 3) := by decide +kernel
theorem dX7_runs_109 : decode cX7_runs 109 = .ok (.aload_n 0, 1) := by decide +kernel
theorem dX7_runs_110 : decode cX7_runs 110 = .ok (.bipush 7, 2) := by decide +kernel
end
section
theorem dX7_runs_112 : decode cX7_runs 112 = .ok (.invokevirtual 317, 3) := by decide +kernel
theorem dX7_runs_115 : decode cX7_runs 115 = .ok (.iload_n 3, 1) := by decide +kernel
theorem dX7_runs_116 : decode cX7_runs 116 = .ok (.if_icmp .ne 7, 3) := by decide +kernel
theorem dX7_runs_119 : decode cX7_runs 119 = .ok (.iconst 1, 1) := by decide +kernel
theorem dX7_runs_120 : decode cX7_runs 120 = .ok (.goto 4, 3) := by decide +kernel
theorem dX7_runs_123 : decode cX7_runs 123 = .ok (.iconst 0, 1) := by decide +kernel
theorem dX7_runs_124 : decode cX7_runs 124 = .ok (.iadd, 1) := by decide +kernel
theorem dX7_runs_125 : decode cX7_runs 125 = .ok (.istore 4, 2) := by decide +kernel
theorem dX7_runs_127 : decode cX7_runs 127 = .ok (.iinc 5 1, 3) := by decide +kernel
theorem dX7_runs_130 : decode cX7_runs 130 = .ok (.goto (-87), 3) := by decide +kernel
theorem dX7_runs_133 : decode cX7_runs 133 = .ok (.iload 4, 2) := by decide +kernel
theorem dX7_runs_135 : decode cX7_runs 135 = .ok (.ireturn, 1) := by decide +kernel
theorem dX7_back_0 : decode cX7_back 0 = .ok (.aload_n 0, 1) := by decide +kernel
theorem dX7_back_1 : decode cX7_back 1 = .ok (.iconst 0, 1) := by decide +kernel
theorem dX7_back_2 : decode cX7_back 2 = .ok (.putfield 1, 3) := by decide +kernel
theorem dX7_back_5 : decode cX7_back 5 = .ok (.iconst 0, 1) := by decide +kernel
theorem dX7_back_6 : decode cX7_back 6 = .ok (.istore_n 1, 1) := by decide +kernel
theorem dX7_back_7 : decode cX7_back 7 = .ok (.iconst 0, 1) := by decide +kernel
theorem dX7_back_8 : decode cX7_back 8 = .ok (.istore_n 2, 1) := by decide +kernel
theorem dX7_back_9 : decode cX7_back 9 = .ok (.iload_n 2, 1) := by decide +kernel
theorem dX7_back_10 : decode cX7_back 10 = .ok (.aload_n 0, 1) := by decide +kernel
theorem dX7_back_11 : decode cX7_back 11 = .ok (.getfield 146, 3) := by decide +kernel
theorem dX7_back_14 : decode cX7_back 14 = .ok (.iconst 0, 1) := by decide +kernel
theorem dX7_back_15 : decode cX7_back 15 = .ok (.iaload, 1) := by decide +kernel
theorem dX7_back_16 : decode cX7_back 16 = .ok (.if_icmp .ge 44, 3) := by decide +kernel
theorem dX7_back_19 : decode cX7_back 19 = .ok (.aload_n 0, 1) := by decide +kernel
theorem dX7_back_20 : decode cX7_back 20 = .ok (.iconst 0, 1) := by decide +kernel
theorem dX7_back_21 : decode cX7_back 21 = .ok (.iload_n 2, 1) := by decide +kernel
theorem dX7_back_22 : decode cX7_back 22 = .ok (.invokevirtual 372, 3) := by decide +kernel
theorem dX7_back_25 : decode cX7_back 25 = .ok (.ifCond .eq 11, 3) := by decide +kernel
theorem dX7_back_28 : decode cX7_back 28 = .ok (.aload_n 0, 1) := by decide +kernel
theorem dX7_back_29 : decode cX7_back 29 = .ok (.iload_n 2, 1) := by decide +kernel
theorem dX7_back_30 : decode cX7_back 30 = .ok (.invokevirtual 403, 3) := by decide +kernel
theorem dX7_back_33 : decode cX7_back 33 = .ok (.goto 4, 3) := by decide +kernel
theorem dX7_back_36 : decode cX7_back 36 = .ok (.iconst (-1), 1) := by decide +kernel
theorem dX7_back_37 : decode cX7_back 37 = .ok (.istore_n 3, 1) := by decide +kernel
theorem dX7_back_38 : decode cX7_back 38 = .ok (.iload_n 1, 1) := by decide +kernel
theorem dX7_back_39 : decode cX7_back 39 = .ok (.iload_n 3, 1) := by decide +kernel
theorem dX7_back_40 : decode cX7_back 40 = .ok (.ifCond .le 11, 3) := by decide +kernel
theorem dX7_back_43 : decode cX7_back 43 = .ok (.sipush 10000, 3) := by decide +kernel
theorem dX7_back_46 : decode cX7_back 46 = .ok (.iload_n 3, 1) := by decide +kernel
theorem dX7_back_47 : decode cX7_back 47 = .ok (.idiv, 1) := by decide +kernel
theorem dX7_back_48 : decode cX7_back 48 = .ok (.goto 4, 3) := by decide +kernel
theorem dX7_back_51 : decode cX7_back 51 = .ok (.iconst 0, 1) := by decide +kernel
theorem dX7_back_52 : decode cX7_back 52 = .ok (.iadd, 1) := by decide +kernel
theorem dX7_back_53 : decode cX7_back 53 = .ok (.istore_n 1, 1) := by decide +kernel
theorem dX7_back_54 : decode cX7_back 54 = .ok (.iinc 2 1, 3) := by decide +kernel
theorem dX7_back_57 : decode cX7_back 57 = .ok (.goto (-48), 3) := by decide +kernel
theorem dX7_back_60 : decode cX7_back 60 = .ok (.iload_n 1, 1) := by decide +kernel
theorem dX7_back_61 : decode cX7_back 61 = .ok (.ireturn, 1) := by decide +kernel
theorem dX7_told_0 : decode cX7_told 0 = .ok (.aload_n 0, 1) := by decide +kernel
theorem dX7_told_1 : decode cX7_told 1 = .ok (.iconst 0, 1) := by decide +kernel
theorem dX7_told_2 : decode cX7_told 2 = .ok (.putfield 1, 3) := by decide +kernel
theorem dX7_told_5 : decode cX7_told 5 = .ok (.iload_n 1, 1) := by decide +kernel
theorem dX7_told_6 : decode cX7_told 6 = .ok (.iconst 0, 1) := by decide +kernel
theorem dX7_told_7 : decode cX7_told 7 = .ok (.bipush 30, 2) := by decide +kernel
theorem dX7_told_9 : decode cX7_told 9 = .ok (.invokestatic 301, 3) := by decide +kernel
theorem dX7_told_12 : decode cX7_told 12 = .ok (.ifCond .eq 22, 3) := by decide +kernel
theorem dX7_told_15 : decode cX7_told 15 = .ok (.iload_n 2, 1) := by decide +kernel
theorem dX7_told_16 : decode cX7_told 16 = .ok (.iconst 0, 1) := by decide +kernel
theorem dX7_told_17 : decode cX7_told 17 = .ok (.bipush 100, 2) := by decide +kernel
theorem dX7_told_19 : decode cX7_told 19 = .ok (.invokestatic 301, 3) := by decide +kernel
theorem dX7_told_22 : decode cX7_told 22 = .ok (.ifCond .eq 12, 3) := by decide +kernel
theorem dX7_told_25 : decode cX7_told 25 = .ok (.aload_n 0, 1) := by decide +kernel
theorem dX7_told_26 : decode cX7_told 26 = .ok (.getfield 428, 3) := by decide +kernel
theorem dX7_told_29 : decode cX7_told 29 = .ok (.bipush 10, 2) := by decide +kernel
theorem dX7_told_31 : decode cX7_told 31 = .ok (.if_icmp .ne 5, 3) := by decide +kernel
theorem dX7_told_34 : decode cX7_told 34 = .ok (.iconst (-1), 1) := by decide +kernel
theorem dX7_told_35 : decode cX7_told 35 = .ok (.ireturn, 1) := by decide +kernel
theorem dX7_told_36 : decode cX7_told 36 = .ok (.aload_n 0, 1) := by decide +kernel
theorem dX7_told_37 : decode cX7_told 37 = .ok (.getfield 176, 3) := by decide +kernel
theorem dX7_told_40 : decode cX7_told 40 = .ok (.aload_n 0, 1) := by decide +kernel
theorem dX7_told_41 : decode cX7_told 41 = .ok (.getfield 428, 3) := by decide +kernel
theorem dX7_told_44 : decode cX7_told 44 = .ok (.iload_n 1, 1) := by decide +kernel
theorem dX7_told_45 : decode cX7_told 45 = .ok (.iastore, 1) := by decide +kernel
theorem dX7_told_46 : decode cX7_told 46 = .ok (.aload_n 0, 1) := by decide +kernel
theorem dX7_told_47 : decode cX7_told 47 = .ok (.getfield 179, 3) := by decide +kernel
theorem dX7_told_50 : decode cX7_told 50 = .ok (.aload_n 0, 1) := by decide +kernel
theorem dX7_told_51 : decode cX7_told 51 = .ok (.getfield 428, 3) := by decide +kernel
theorem dX7_told_54 : decode cX7_told 54 = .ok (.iload_n 2, 1) := by decide +kernel
theorem dX7_told_55 : decode cX7_told 55 = .ok (.iastore, 1) := by decide +kernel
theorem dX7_told_56 : decode cX7_told 56 = .ok (.aload_n 0, 1) := by decide +kernel
theorem dX7_told_57 : decode cX7_told 57 = .ok (.dup, 1) := by decide +kernel
theorem dX7_told_58 : decode cX7_told 58 = .ok (.getfield 428, 3) := by decide +kernel
theorem dX7_told_61 : decode cX7_told 61 = .ok (.iconst 1, 1) := by decide +kernel
theorem dX7_told_62 : decode cX7_told 62 = .ok (.iadd, 1) := by decide +kernel
theorem dX7_told_63 : decode cX7_told 63 = .ok (.putfield 428, 3) := by decide +kernel
theorem dX7_told_66 : decode cX7_told 66 = .ok (.aload_n 0, 1) := by decide +kernel
theorem dX7_told_67 : decode cX7_told 67 = .ok (.getfield 428, 3) := by decide +kernel
theorem dX7_told_70 : decode cX7_told 70 = .ok (.iconst 1, 1) := by decide +kernel
theorem dX7_told_71 : decode cX7_told 71 = .ok (.isub, 1) := by decide +kernel
theorem dX7_told_72 : decode cX7_told 72 = .ok (.ireturn, 1) := by decide +kernel
theorem dX7_forget_0 : decode cX7_forget 0 = .ok (.aload_n 0, 1) := by decide +kernel
theorem dX7_forget_1 : decode cX7_forget 1 = .ok (.iconst 0, 1) := by decide +kernel
theorem dX7_forget_2 : decode cX7_forget 2 = .ok (.putfield 1, 3) := by decide +kernel
theorem dX7_forget_5 : decode cX7_forget 5 = .ok (.aload_n 0, 1) := by decide +kernel
theorem dX7_forget_6 : decode cX7_forget 6 = .ok (.getfield 428, 3) := by decide +kernel
theorem dX7_forget_9 : decode cX7_forget 9 = .ok (.istore_n 1, 1) := by decide +kernel
theorem dX7_forget_10 : decode cX7_forget 10 = .ok (.aload_n 0, 1) := by decide +kernel
theorem dX7_forget_11 : decode cX7_forget 11 = .ok (.iconst 0, 1) := by decide +kernel
theorem dX7_forget_12 : decode cX7_forget 12 = .ok (.putfield 428, 3) := by decide +kernel
theorem dX7_forget_15 : decode cX7_forget 15 = .ok (.iload_n 1, 1) := by decide +kernel
theorem dX7_forget_16 : decode cX7_forget 16 = .ok (.ireturn, 1) := by decide +kernel
theorem dX7_isFit_0 : decode cX7_isFit 0 = .ok (.aload_n 0, 1) := by decide +kernel
theorem dX7_isFit_1 : decode cX7_isFit 1 = .ok (.iload_n 1, 1) := by decide +kernel
theorem dX7_isFit_2 : decode cX7_isFit 2 = .ok (.iconst 0, 1) := by decide +kernel
theorem dX7_isFit_3 : decode cX7_isFit 3 = .ok (.invokevirtual 422, 3) := by decide +kernel
theorem dX7_isFit_6 : decode cX7_isFit 6 = .ok (.iconst 1, 1) := by decide +kernel
theorem dX7_isFit_7 : decode cX7_isFit 7 = .ok (.istore_n 2, 1) := by decide +kernel
theorem dX7_isFit_8 : decode cX7_isFit 8 = .ok (.iconst 0, 1) := by decide +kernel
theorem dX7_isFit_9 : decode cX7_isFit 9 = .ok (.istore_n 3, 1) := by decide +kernel
theorem dX7_isFit_10 : decode cX7_isFit 10 = .ok (.iconst 0, 1) := by decide +kernel
theorem dX7_isFit_11 : decode cX7_isFit 11 = .ok (.istore 4, 2) := by decide +kernel
theorem dX7_isFit_13 : decode cX7_isFit 13 = .ok (.iload 4, 2) := by decide +kernel
theorem dX7_isFit_15 : decode cX7_isFit 15 = .ok (.aload_n 0, 1) := by decide +kernel
theorem dX7_isFit_16 : decode cX7_isFit 16 = .ok (.getfield 428, 3) := by decide +kernel
theorem dX7_isFit_19 : decode cX7_isFit 19 = .ok (.if_icmp .ge 32, 3) := by decide +kernel
theorem dX7_isFit_22 : decode cX7_isFit 22 = .ok (.aload_n 0, 1) := by decide +kernel
theorem dX7_isFit_23 : decode cX7_isFit 23 = .ok (.getfield 179, 3) := by decide +kernel
theorem dX7_isFit_26 : decode cX7_isFit 26 = .ok (.iload 4, 2) := by decide +kernel
theorem dX7_isFit_28 : decode cX7_isFit 28 = .ok (.iaload, 1) := by decide +kernel
theorem dX7_isFit_29 : decode cX7_isFit 29 = .ok (.iload_n 3, 1) := by decide +kernel
theorem dX7_isFit_30 : decode cX7_isFit 30 = .ok (.if_icmp .le 13, 3) := by decide +kernel
theorem dX7_isFit_33 : decode cX7_isFit 33 = .ok (.aload_n 0, 1) := by decide +kernel
theorem dX7_isFit_34 : decode cX7_isFit 34 = .ok (.getfield 179, 3) := by decide +kernel
theorem dX7_isFit_37 : decode cX7_isFit 37 = .ok (.iload 4, 2) := by decide +kernel
theorem dX7_isFit_39 : decode cX7_isFit 39 = .ok (.iaload, 1) := by decide +kernel
theorem dX7_isFit_40 : decode cX7_isFit 40 = .ok (.goto 4, 3) := by decide +kernel
theorem dX7_isFit_43 : decode cX7_isFit 43 = .ok (.iload_n 3, 1) := by decide +kernel
theorem dX7_isFit_44 : decode cX7_isFit 44 = .ok (.istore_n 3, 1) := by decide +kernel
theorem dX7_isFit_45 : decode cX7_isFit 45 = .ok (.iinc 4 1, 3) := by decide +kernel
theorem dX7_isFit_48 : decode cX7_isFit 48 = .ok (.goto (-35), 3) := by decide +kernel
theorem dX7_isFit_51 : decode cX7_isFit 51 = .ok (.iconst 0, 1) := by decide +kernel
theorem dX7_isFit_52 : decode cX7_isFit 52 = .ok (.istore 4, 2) := by decide +kernel
theorem dX7_isFit_54 : decode cX7_isFit 54 = .ok (.iload 4, 2) := by decide +kernel
theorem dX7_isFit_56 : decode cX7_isFit 56 = .ok (.iload_n 3, 1) := by decide +kernel
theorem dX7_isFit_57 : decode cX7_isFit 57 = .ok (.if_icmp .gt 85, 3) := by decide +kernel
theorem dX7_isFit_60 : decode cX7_isFit 60 = .ok (.iload_n 2, 1) := by decide +kernel
theorem dX7_isFit_61 : decode cX7_isFit 61 = .ok (.ifCond .eq 81, 3) := by decide +kernel
theorem dX7_isFit_64 : decode cX7_isFit 64 = .ok (.iconst 0, 1) := by decide +kernel
theorem dX7_isFit_65 : decode cX7_isFit 65 = .ok (.istore 5, 2) := by decide +kernel
theorem dX7_isFit_67 : decode cX7_isFit 67 = .ok (.iload 5, 2) := by decide +kernel
theorem dX7_isFit_69 : decode cX7_isFit 69 = .ok (.aload_n 0, 1) := by decide +kernel
theorem dX7_isFit_70 : decode cX7_isFit 70 = .ok (.getfield 428, 3) := by decide +kernel
theorem dX7_isFit_73 : decode cX7_isFit 73 = .ok (.if_icmp .ge 47, 3) := by decide +kernel
theorem dX7_isFit_76 : decode cX7_isFit 76 = .ok (.iload_n 2, 1) := by decide +kernel
theorem dX7_isFit_77 : decode cX7_isFit 77 = .ok (.ifCond .eq 35, 3) := by decide +kernel
theorem dX7_isFit_80 : decode cX7_isFit 80 = .ok (.aload_n 0, 1) := by decide +kernel
theorem dX7_isFit_81 : decode cX7_isFit 81 = .ok (.getfield 179, 3) := by decide +kernel
theorem dX7_isFit_84 : decode cX7_isFit 84 = .ok (.iload 5, 2) := by decide +kernel
theorem dX7_isFit_86 : decode cX7_isFit 86 = .ok (.iaload, 1) := by decide +kernel
theorem dX7_isFit_87 : decode cX7_isFit 87 = .ok (.iload 4, 2) := by decide +kernel
theorem dX7_isFit_89 : decode cX7_isFit 89 = .ok (.if_icmp .ne 19, 3) := by decide +kernel
theorem dX7_isFit_92 : decode cX7_isFit 92 = .ok (.aload_n 0, 1) := by decide +kernel
theorem dX7_isFit_93 : decode cX7_isFit 93 = .ok (.bipush 7, 2) := by decide +kernel
theorem dX7_isFit_95 : decode cX7_isFit 95 = .ok (.invokevirtual 317, 3) := by decide +kernel
theorem dX7_isFit_98 : decode cX7_isFit 98 = .ok (.aload_n 0, 1) := by decide +kernel
theorem dX7_isFit_99 : decode cX7_isFit 99 = .ok (.getfield 176, 3) := by decide +kernel
theorem dX7_isFit_102 : decode cX7_isFit 102 = .ok (.iload 5, 2) := by decide +kernel
theorem dX7_isFit_104 : decode cX7_isFit 104 = .ok (.iaload, 1) := by decide +kernel
theorem dX7_isFit_105 : decode cX7_isFit 105 = .ok (.if_icmp .ne 7, 3) := by decide +kernel
theorem dX7_isFit_108 : decode cX7_isFit 108 = .ok (.iconst 1, 1) := by decide +kernel
theorem dX7_isFit_109 : decode cX7_isFit 109 = .ok (.goto 4, 3) := by decide +kernel
theorem dX7_isFit_112 : decode cX7_isFit 112 = .ok (.iconst 0, 1) := by decide +kernel
theorem dX7_isFit_113 : decode cX7_isFit 113 = .ok (.istore_n 2, 1) := by decide +kernel
theorem dX7_isFit_114 : decode cX7_isFit 114 = .ok (.iinc 5 1, 3) := by decide +kernel
theorem dX7_isFit_117 : decode cX7_isFit 117 = .ok (.goto (-50), 3) := by decide +kernel
theorem dX7_isFit_120 : decode cX7_isFit 120 = .ok (.iload 4, 2) := by decide +kernel
theorem dX7_isFit_122 : decode cX7_isFit 122 = .ok (.iload_n 3, 1) := by decide +kernel
theorem dX7_isFit_123 : decode cX7_isFit 123 = .ok (.if_icmp .ge 13, 3) := by decide +kernel
theorem dX7_isFit_126 : decode cX7_isFit 126 = .ok (.iload_n 2, 1) := by decide +kernel
theorem dX7_isFit_127 : decode cX7_isFit 127 = .ok (.ifCond .eq 9, 3) := by decide +kernel
theorem dX7_isFit_130 : decode cX7_isFit 130 = .ok (.aload_n 0, 1) := by decide +kernel
theorem dX7_isFit_131 : decode cX7_isFit 131 = .ok (.bipush 7, 2) := by decide +kernel
theorem dX7_isFit_133 : decode cX7_isFit 133 = .ok (.invokevirtual 394, 3) := by decide +kernel
theorem dX7_isFit_136 : decode cX7_isFit 136 = .ok (.iinc 4 1, 3) := by decide +kernel
theorem dX7_isFit_139 : decode cX7_isFit 139 = .ok (.goto (-85), 3) := by decide +kernel
theorem dX7_isFit_142 : decode cX7_isFit 142 = .ok (.iload_n 2, 1) := by decide +kernel
theorem dX7_isFit_143 : decode cX7_isFit 143 = .ok (.ireturn, 1) := by decide +kernel
theorem dX7_fits_0 : decode cX7_fits 0 = .ok (.aload_n 0, 1) := by decide +kernel
theorem dX7_fits_1 : decode cX7_fits 1 = .ok (.iconst 0, 1) := by decide +kernel
theorem dX7_fits_2 : decode cX7_fits 2 = .ok (.putfield 1, 3) := by decide +kernel
theorem dX7_fits_5 : decode cX7_fits 5 = .ok (.aload_n 0, 1) := by decide +kernel
theorem dX7_fits_6 : decode cX7_fits 6 = .ok (.iload_n 1, 1) := by decide +kernel
theorem dX7_fits_7 : decode cX7_fits 7 = .ok (.invokevirtual 311, 3) := by decide +kernel
theorem dX7_fits_10 : decode cX7_fits 10 = .ok (.ifCond .ne 7, 3) := by decide +kernel
theorem dX7_fits_13 : decode cX7_fits 13 = .ok (.iconst (-1), 1) := by decide +kernel
theorem dX7_fits_14 : decode cX7_fits 14 = .ok (.goto 16, 3) := by decide +kernel
theorem dX7_fits_17 : decode cX7_fits 17 = .ok (.aload_n 0, 1) := by decide +kernel
theorem dX7_fits_18 : decode cX7_fits 18 = .ok (.iload_n 1, 1) := by decide +kernel
theorem dX7_fits_19 : decode cX7_fits 19 = .ok (.invokevirtual 431, 3) := by decide +kernel
theorem dX7_fits_22 : decode cX7_fits 22 = .ok (.ifCond .eq 7, 3) := by decide +kernel
theorem dX7_fits_25 : decode cX7_fits 25 = .ok (.iconst 1, 1) := by decide +kernel
theorem dX7_fits_26 : decode cX7_fits 26 = .ok (.goto 4, 3) := by decide +kernel
theorem dX7_fits_29 : decode cX7_fits 29 = .ok (.iconst 0, 1) := by decide +kernel
theorem dX7_fits_30 : decode cX7_fits 30 = .ok (.ireturn, 1) := by decide +kernel
theorem dX7_barred_0 : decode cX7_barred 0 = .ok (.aload_n 0, 1) := by decide +kernel
theorem dX7_barred_1 : decode cX7_barred 1 = .ok (.iconst 0, 1) := by decide +kernel
theorem dX7_barred_2 : decode cX7_barred 2 = .ok (.putfield 1, 3) := by decide +kernel
theorem dX7_barred_5 : decode cX7_barred 5 = .ok (.iload_n 1, 1) := by decide +kernel
theorem dX7_barred_6 : decode cX7_barred 6 = .ok (.iconst 0, 1) := by decide +kernel
theorem dX7_barred_7 : decode cX7_barred 7 = .ok (.aload_n 0, 1) := by decide +kernel
theorem dX7_barred_8 : decode cX7_barred 8 = .ok (.getfield 101, 3) := by decide +kernel
theorem dX7_barred_11 : decode cX7_barred 11 = .ok (.aload_n 0, 1) := by decide +kernel
theorem dX7_barred_12 : decode cX7_barred 12 = .ok (.getfield 243, 3) := by decide +kernel
theorem dX7_barred_15 : decode cX7_barred 15 = .ok (.iaload, 1) := by decide +kernel
theorem dX7_barred_16 : decode cX7_barred 16 = .ok (.iconst 1, 1) := by decide +kernel
theorem dX7_barred_17 : decode cX7_barred 17 = .ok (.isub, 1) := by decide +kernel
theorem dX7_barred_18 : decode cX7_barred 18 = .ok (.invokestatic 301, 3) := by decide +kernel
theorem dX7_barred_21 : decode cX7_barred 21 = .ok (.ifCond .eq 12, 3) := by decide +kernel
theorem dX7_barred_24 : decode cX7_barred 24 = .ok (.iload_n 2, 1) := by decide +kernel
theorem dX7_barred_25 : decode cX7_barred 25 = .ok (.iconst 0, 1) := by decide +kernel
theorem dX7_barred_26 : decode cX7_barred 26 = .ok (.iconst 1, 1) := by decide +kernel
theorem dX7_barred_27 : decode cX7_barred 27 = .ok (.invokestatic 301, 3) := by decide +kernel
theorem dX7_barred_30 : decode cX7_barred 30 = .ok (.ifCond .ne 5, 3) := by decide +kernel
theorem dX7_barred_33 : decode cX7_barred 33 = .ok (.iconst (-1), 1) := by decide +kernel
theorem dX7_barred_34 : decode cX7_barred 34 = .ok (.ireturn, 1) := by decide +kernel
theorem dX7_barred_35 : decode cX7_barred 35 = .ok (.iconst 0, 1) := by decide +kernel
theorem dX7_barred_36 : decode cX7_barred 36 = .ok (.istore_n 3, 1) := by decide +kernel
theorem dX7_barred_37 : decode cX7_barred 37 = .ok (.iload_n 3, 1) := by decide +kernel
theorem dX7_barred_38 : decode cX7_barred 38 = .ok (.iconst 1, 1) := by decide +kernel
theorem dX7_barred_39 : decode cX7_barred 39 = .ok (.aload_n 0, 1) := by decide +kernel
theorem dX7_barred_40 : decode cX7_barred 40 = .ok (.getfield 101, 3) := by decide +kernel
theorem dX7_barred_43 : decode cX7_barred 43 = .ok (.aload_n 0, 1) := by decide +kernel
theorem dX7_barred_44 : decode cX7_barred 44 = .ok (.getfield 243, 3) := by decide +kernel
theorem dX7_barred_47 : decode cX7_barred 47 = .ok (.iaload, 1) := by decide +kernel
theorem dX7_barred_48 : decode cX7_barred 48 = .ok (.ishl, 1) := by decide +kernel
theorem dX7_barred_49 : decode cX7_barred 49 = .ok (.if_icmp .ge 28, 3) := by decide +kernel
theorem dX7_barred_52 : decode cX7_barred 52 = .ok (.iload_n 3, 1) := by decide +kernel
theorem dX7_barred_53 : decode cX7_barred 53 = .ok (.iload_n 1, 1) := by decide +kernel
theorem dX7_barred_54 : decode cX7_barred 54 = .ok (.ishr, 1) := by decide +kernel
theorem dX7_barred_55 : decode cX7_barred 55 = .ok (.iconst 1, 1) := by decide +kernel
theorem dX7_barred_56 : decode cX7_barred 56 = .ok (.iand, 1) := by decide +kernel
theorem dX7_barred_57 : decode cX7_barred 57 = .ok (.iload_n 2, 1) := by decide +kernel
theorem dX7_barred_58 : decode cX7_barred 58 = .ok (.if_icmp .ne 13, 3) := by decide +kernel
theorem dX7_barred_61 : decode cX7_barred 61 = .ok (.aload_n 0, 1) := by decide +kernel
theorem dX7_barred_62 : decode cX7_barred 62 = .ok (.iload_n 3, 1) := by decide +kernel
theorem dX7_barred_63 : decode cX7_barred 63 = .ok (.invokevirtual 431, 3) := by decide +kernel
theorem dX7_barred_66 : decode cX7_barred 66 = .ok (.ifCond .eq 5, 3) := by decide +kernel
theorem dX7_barred_69 : decode cX7_barred 69 = .ok (.iconst 0, 1) := by decide +kernel
theorem dX7_barred_70 : decode cX7_barred 70 = .ok (.ireturn, 1) := by decide +kernel
theorem dX7_barred_71 : decode cX7_barred 71 = .ok (.iinc 3 1, 3) := by decide +kernel
theorem dX7_barred_74 : decode cX7_barred 74 = .ok (.goto (-37), 3) := by decide +kernel
theorem dX7_barred_77 : decode cX7_barred 77 = .ok (.iconst 1, 1) := by decide +kernel
theorem dX7_barred_78 : decode cX7_barred 78 = .ok (.ireturn, 1) := by decide +kernel
theorem dX7_mark_0 : decode cX7_mark 0 = .ok (.aload_n 0, 1) := by decide +kernel
theorem dX7_mark_1 : decode cX7_mark 1 = .ok (.iconst 0, 1) := by decide +kernel
theorem dX7_mark_2 : decode cX7_mark 2 = .ok (.putfield 1, 3) := by decide +kernel
theorem dX7_mark_5 : decode cX7_mark 5 = .ok (.iload_n 1, 1) := by decide +kernel
theorem dX7_mark_6 : decode cX7_mark 6 = .ok (.iconst 0, 1) := by decide +kernel
theorem dX7_mark_7 : decode cX7_mark 7 = .ok (.iconst 5, 1) := by decide +kernel
theorem dX7_mark_8 : decode cX7_mark 8 = .ok (.invokestatic 301, 3) := by decide +kernel
theorem dX7_mark_11 : decode cX7_mark 11 = .ok (.ifCond .eq 16, 3) := by decide +kernel
theorem dX7_mark_14 : decode cX7_mark 14 = .ok (.iload_n 2, 1) := by decide +kernel
theorem dX7_mark_15 : decode cX7_mark 15 = .ok (.ifCond .eq 14, 3) := by decide +kernel
theorem dX7_mark_18 : decode cX7_mark 18 = .ok (.aload_n 0, 1) := by decide +kernel
theorem dX7_mark_19 : decode cX7_mark 19 = .ok (.getfield 182, 3) := by decide +kernel
theorem dX7_mark_22 : decode cX7_mark 22 = .ok (.iload_n 1, 1) := by decide +kernel
theorem dX7_mark_23 : decode cX7_mark 23 = .ok (.baload, 1) := by decide +kernel
theorem dX7_mark_24 : decode cX7_mark 24 = .ok (.ifCond .ne 5, 3) := by decide +kernel
theorem dX7_mark_27 : decode cX7_mark 27 = .ok (.iconst 0, 1) := by decide +kernel
theorem dX7_mark_28 : decode cX7_mark 28 = .ok (.ireturn, 1) := by decide +kernel
theorem dX7_mark_29 : decode cX7_mark 29 = .ok (.aload_n 0, 1) := by decide +kernel
theorem dX7_mark_30 : decode cX7_mark 30 = .ok (.iload_n 2, 1) := by decide +kernel
theorem dX7_mark_31 : decode cX7_mark 31 = .ok (.ifCond .eq 9, 3) := by decide +kernel
theorem dX7_mark_34 : decode cX7_mark 34 = .ok (.iconst 1, 1) := by decide +kernel
theorem dX7_mark_35 : decode cX7_mark 35 = .ok (.iload_n 1, 1) := by decide +kernel
theorem dX7_mark_36 : decode cX7_mark 36 = .ok (.iadd, 1) := by decide +kernel
theorem dX7_mark_37 : decode cX7_mark 37 = .ok (.goto 4, 3) := by decide +kernel
theorem dX7_mark_40 : decode cX7_mark 40 = .ok (.iconst 0, 1) := by decide +kernel
theorem dX7_mark_41 : decode cX7_mark 41 = .ok (.iload_n 2, 1) := by decide +kernel
theorem dX7_mark_42 : decode cX7_mark 42 = .ok (.ifCond .eq 7, 3) := by decide +kernel
theorem dX7_mark_45 : decode cX7_mark 45 = .ok (.iconst 0, 1) := by decide +kernel
theorem dX7_mark_46 : decode cX7_mark 46 = .ok (.goto 6, 3) := by decide +kernel
theorem dX7_mark_49 : decode cX7_mark 49 = .ok (.iconst 1, 1) := by decide +kernel
theorem dX7_mark_50 : decode cX7_mark 50 = .ok (.iload_n 1, 1) := by decide +kernel
theorem dX7_mark_51 : decode cX7_mark 51 = .ok (.iadd, 1) := by decide +kernel
theorem dX7_mark_52 : decode cX7_mark 52 = .ok (.invokevirtual 415, 3) := by decide +kernel
theorem dX7_mark_55 : decode cX7_mark 55 = .ok (.aload_n 0, 1) := by decide +kernel
theorem dX7_mark_56 : decode cX7_mark 56 = .ok (.getfield 182, 3) := by decide +kernel
theorem dX7_mark_59 : decode cX7_mark 59 = .ok (.iload_n 1, 1) := by decide +kernel
theorem dX7_mark_60 : decode cX7_mark 60 = .ok (.iconst 1, 1) := by decide +kernel
theorem dX7_mark_61 : decode cX7_mark 61 = .ok (.bastore, 1) := by decide +kernel
theorem dX7_mark_62 : decode cX7_mark 62 = .ok (.iconst 1, 1) := by decide +kernel
theorem dX7_mark_63 : decode cX7_mark 63 = .ok (.ireturn, 1) := by decide +kernel
theorem dX7_traps_0 : decode cX7_traps 0 = .ok (.iconst 0, 1) := by decide +kernel
theorem dX7_traps_1 : decode cX7_traps 1 = .ok (.istore_n 1, 1) := by decide +kernel
theorem dX7_traps_2 : decode cX7_traps 2 = .ok (.iconst 0, 1) := by decide +kernel
theorem dX7_traps_3 : decode cX7_traps 3 = .ok (.istore_n 2, 1) := by decide +kernel
theorem dX7_traps_4 : decode cX7_traps 4 = .ok (.iload_n 2, 1) := by decide +kernel
theorem dX7_traps_5 : decode cX7_traps 5 = .ok (.aload_n 0, 1) := by decide +kernel
theorem dX7_traps_6 : decode cX7_traps 6 = .ok (.getfield 116, 3) := by decide +kernel
theorem dX7_traps_9 : decode cX7_traps 9 = .ok (.iconst 0, 1) := by decide +kernel
theorem dX7_traps_10 : decode cX7_traps 10 = .ok (.iaload, 1) := by decide +kernel
theorem dX7_traps_11 : decode cX7_traps 11 = .ok (.if_icmp .ge 26, 3) := by decide +kernel
theorem dX7_traps_14 : decode cX7_traps 14 = .ok (.iload_n 1, 1) := by decide +kernel
theorem dX7_traps_15 : decode cX7_traps 15 = .ok (.aload_n 0, 1) := by decide +kernel
theorem dX7_traps_16 : decode cX7_traps 16 = .ok (.iconst 0, 1) := by decide +kernel
theorem dX7_traps_17 : decode cX7_traps 17 = .ok (.iload_n 2, 1) := by decide +kernel
theorem dX7_traps_18 : decode cX7_traps 18 = .ok (.invokevirtual 382, 3) := by decide +kernel
theorem dX7_traps_21 : decode cX7_traps 21 = .ok (.ifCond .ne 7, 3) := by decide +kernel
theorem dX7_traps_24 : decode cX7_traps 24 = .ok (.iconst 1, 1) := by decide +kernel
theorem dX7_traps_25 : decode cX7_traps 25 = .ok (.goto 4, 3) := by decide +kernel
theorem dX7_traps_28 : decode cX7_traps 28 = .ok (.iconst 0, 1) := by decide +kernel
theorem dX7_traps_29 : decode cX7_traps 29 = .ok (.iadd, 1) := by decide +kernel
theorem dX7_traps_30 : decode cX7_traps 30 = .ok (.istore_n 1, 1) := by decide +kernel
theorem dX7_traps_31 : decode cX7_traps 31 = .ok (.iinc 2 1, 3) := by decide +kernel
theorem dX7_traps_34 : decode cX7_traps 34 = .ok (.goto (-30), 3) := by decide +kernel
theorem dX7_traps_37 : decode cX7_traps 37 = .ok (.iload_n 1, 1) := by decide +kernel
theorem dX7_traps_38 : decode cX7_traps 38 = .ok (.ireturn, 1) := by decide +kernel
theorem dX7_families_0 : decode cX7_families 0 = .ok (.iconst 0, 1) := by decide +kernel
theorem dX7_families_1 : decode cX7_families 1 = .ok (.istore_n 1, 1) := by decide +kernel
theorem dX7_families_2 : decode cX7_families 2 = .ok (.iconst 0, 1) := by decide +kernel
theorem dX7_families_3 : decode cX7_families 3 = .ok (.istore_n 2, 1) := by decide +kernel
theorem dX7_families_4 : decode cX7_families 4 = .ok (.iload_n 2, 1) := by decide +kernel
theorem dX7_families_5 : decode cX7_families 5 = .ok (.aload_n 0, 1) := by decide +kernel
theorem dX7_families_6 : decode cX7_families 6 = .ok (.getfield 146, 3) := by decide +kernel
theorem dX7_families_9 : decode cX7_families 9 = .ok (.iconst 0, 1) := by decide +kernel
theorem dX7_families_10 : decode cX7_families 10 = .ok (.iaload, 1) := by decide +kernel
theorem dX7_families_11 : decode cX7_families 11 = .ok (.if_icmp .ge 42, 3) := by decide +kernel
theorem dX7_families_14 : decode cX7_families 14 = .ok (.iload_n 1, 1) := by decide +kernel
theorem dX7_families_15 : decode cX7_families 15 = .ok (.aload_n 0, 1) := by decide +kernel
theorem dX7_families_16 : decode cX7_families 16 = .ok (.iconst 0, 1) := by decide +kernel
theorem dX7_families_17 : decode cX7_families 17 = .ok (.iload_n 2, 1) := by decide +kernel
theorem dX7_families_18 : decode cX7_families 18 = .ok (.invokevirtual 372, 3) := by decide +kernel
theorem dX7_families_21 : decode cX7_families 21 = .ok (.ifCond .eq 23, 3) := by decide +kernel
theorem dX7_families_24 : decode cX7_families 24 = .ok (.aload_n 0, 1) := by decide +kernel
theorem dX7_families_25 : decode cX7_families 25 = .ok (.iconst 0, 1) := by decide +kernel
theorem dX7_families_26 : decode cX7_families 26 = .ok (.iload_n 2, 1) := by decide +kernel
theorem dX7_families_27 : decode cX7_families 27 = .ok (.invokevirtual 400, 3) := by decide +kernel
theorem dX7_families_30 : decode cX7_families 30 = .ok (.ifCond .lt 14, 3) := by decide +kernel
theorem dX7_families_33 : decode cX7_families 33 = .ok (.iconst 1, 1) := by decide +kernel
theorem dX7_families_34 : decode cX7_families 34 = .ok (.aload_n 0, 1) := by decide +kernel
theorem dX7_families_35 : decode cX7_families 35 = .ok (.iconst 0, 1) := by decide +kernel
theorem dX7_families_36 : decode cX7_families 36 = .ok (.iload_n 2, 1) := by decide +kernel
theorem dX7_families_37 : decode cX7_families 37 = .ok (.invokevirtual 400, 3) := by decide +kernel
theorem dX7_families_40 : decode cX7_families 40 = .ok (.ishl, 1) := by decide +kernel
theorem dX7_families_41 : decode cX7_families 41 = .ok (.goto 4, 3) := by decide +kernel
theorem dX7_families_44 : decode cX7_families 44 = .ok (.iconst 0, 1) := by decide +kernel
theorem dX7_families_45 : decode cX7_families 45 = .ok (.ior, 1) := by decide +kernel
theorem dX7_families_46 : decode cX7_families 46 = .ok (.istore_n 1, 1) := by decide +kernel
theorem dX7_families_47 : decode cX7_families 47 = .ok (.iinc 2 1, 3) := by decide +kernel
theorem dX7_families_50 : decode cX7_families 50 = .ok (.goto (-46), 3) := by decide +kernel
theorem dX7_families_53 : decode cX7_families 53 = .ok (.iconst 0, 1) := by decide +kernel
theorem dX7_families_54 : decode cX7_families 54 = .ok (.istore_n 2, 1) := by decide +kernel
theorem dX7_families_55 : decode cX7_families 55 = .ok (.iconst 0, 1) := by decide +kernel
theorem dX7_families_56 : decode cX7_families 56 = .ok (.istore_n 3, 1) := by decide +kernel
theorem dX7_families_57 : decode cX7_families 57 = .ok (.iload_n 3, 1) := by decide +kernel
theorem dX7_families_58 : decode cX7_families 58 = .ok (.bipush 12, 2) := by decide +kernel
theorem dX7_families_60 : decode cX7_families 60 = .ok (.if_icmp .ge 17, 3) := by decide +kernel
theorem dX7_families_63 : decode cX7_families 63 = .ok (.iload_n 2, 1) := by decide +kernel
theorem dX7_families_64 : decode cX7_families 64 = .ok (.iload_n 1, 1) := by decide +kernel
theorem dX7_families_65 : decode cX7_families 65 = .ok (.iload_n 3, 1) := by decide +kernel
theorem dX7_families_66 : decode cX7_families 66 = .ok (.ishr, 1) := by decide +kernel
theorem dX7_families_67 : decode cX7_families 67 = .ok (.iconst 1, 1) := by decide +kernel
theorem dX7_families_68 : decode cX7_families 68 = .ok (.iand, 1) := by decide +kernel
theorem dX7_families_69 : decode cX7_families 69 = .ok (.iadd, 1) := by decide +kernel
theorem dX7_families_70 : decode cX7_families 70 = .ok (.istore_n 2, 1) := by decide +kernel
theorem dX7_families_71 : decode cX7_families 71 = .ok (.iinc 3 1, 3) := by decide +kernel
theorem dX7_families_74 : decode cX7_families 74 = .ok (.goto (-17), 3) := by decide +kernel
theorem dX7_families_77 : decode cX7_families 77 = .ok (.iload_n 2, 1) := by decide +kernel
theorem dX7_families_78 : decode cX7_families 78 = .ok (.ireturn, 1) := by decide +kernel
theorem dX7_count_0 : decode cX7_count 0 = .ok (.aload_n 0, 1) := by decide +kernel
theorem dX7_count_1 : decode cX7_count 1 = .ok (.iconst 0, 1) := by decide +kernel
theorem dX7_count_2 : decode cX7_count 2 = .ok (.putfield 1, 3) := by decide +kernel
theorem dX7_count_5 : decode cX7_count 5 = .ok (.iload_n 1, 1) := by decide +kernel
theorem dX7_count_6 : decode cX7_count 6 = .ok (.tableswitch 130 0 10 #[58, 65, 72, 79, 85, 95, 105, 110, 115, 120, 125], 58) := by decide +kernel
theorem dX7_count_64 : decode cX7_count 64 = .ok (.aload_n 0, 1) := by decide +kernel
theorem dX7_count_65 : decode cX7_count 65 = .ok (.getfield 137, 3) := by decide +kernel
theorem dX7_count_68 : decode cX7_count 68 = .ok (.iconst 0, 1) := by decide +kernel
theorem dX7_count_69 : decode cX7_count 69 = .ok (.iaload, 1) := by decide +kernel
theorem dX7_count_70 : decode cX7_count 70 = .ok (.ireturn, 1) := by decide +kernel
theorem dX7_count_71 : decode cX7_count 71 = .ok (.aload_n 0, 1) := by decide +kernel
theorem dX7_count_72 : decode cX7_count 72 = .ok (.getfield 116, 3) := by decide +kernel
theorem dX7_count_75 : decode cX7_count 75 = .ok (.iconst 0, 1) := by decide +kernel
theorem dX7_count_76 : decode cX7_count 76 = .ok (.iaload, 1) := by decide +kernel
theorem dX7_count_77 : decode cX7_count 77 = .ok (.ireturn, 1) := by decide +kernel
theorem dX7_count_78 : decode cX7_count 78 = .ok (.aload_n 0, 1) := by decide +kernel
theorem dX7_count_79 : decode cX7_count 79 = .ok (.getfield 146, 3) := by decide +kernel
theorem dX7_count_82 : decode cX7_count 82 = .ok (.iconst 0, 1) := by decide +kernel
theorem dX7_count_83 : decode cX7_count 83 = .ok (.iaload, 1) := by decide +kernel
theorem dX7_count_84 : decode cX7_count 84 = .ok (.ireturn, 1) := by decide +kernel
theorem dX7_count_85 : decode cX7_count 85 = .ok (.aload_n 0, 1) := by decide +kernel
theorem dX7_count_86 : decode cX7_count 86 = .ok (.iconst 0, 1) := by decide +kernel
theorem dX7_count_87 : decode cX7_count 87 = .ok (.invokevirtual 317, 3) := by decide +kernel
theorem dX7_count_90 : decode cX7_count 90 = .ok (.ireturn, 1) := by decide +kernel
theorem dX7_count_91 : decode cX7_count 91 = .ok (.aload_n 0, 1) := by decide +kernel
theorem dX7_count_92 : decode cX7_count 92 = .ok (.getfield 83, 3) := by decide +kernel
theorem dX7_count_95 : decode cX7_count 95 = .ok (.aload_n 0, 1) := by decide +kernel
theorem dX7_count_96 : decode cX7_count 96 = .ok (.getfield 243, 3) := by decide +kernel
theorem dX7_count_99 : decode cX7_count 99 = .ok (.iaload, 1) := by decide +kernel
theorem dX7_count_100 : decode cX7_count 100 = .ok (.ireturn, 1) := by decide +kernel
theorem dX7_count_101 : decode cX7_count 101 = .ok (.aload_n 0, 1) := by decide +kernel
theorem dX7_count_102 : decode cX7_count 102 = .ok (.getfield 101, 3) := by decide +kernel
theorem dX7_count_105 : decode cX7_count 105 = .ok (.aload_n 0, 1) := by decide +kernel
theorem dX7_count_106 : decode cX7_count 106 = .ok (.getfield 243, 3) := by decide +kernel
theorem dX7_count_109 : decode cX7_count 109 = .ok (.iaload, 1) := by decide +kernel
theorem dX7_count_110 : decode cX7_count 110 = .ok (.ireturn, 1) := by decide +kernel
theorem dX7_count_111 : decode cX7_count 111 = .ok (.aload_n 0, 1) := by decide +kernel
theorem dX7_count_112 : decode cX7_count 112 = .ok (.getfield 249, 3) := by decide +kernel
theorem dX7_count_115 : decode cX7_count 115 = .ok (.ireturn, 1) := by decide +kernel
theorem dX7_count_116 : decode cX7_count 116 = .ok (.aload_n 0, 1) := by decide +kernel
theorem dX7_count_117 : decode cX7_count 117 = .ok (.getfield 11, 3) := by decide +kernel
theorem dX7_count_120 : decode cX7_count 120 = .ok (.ireturn, 1) := by decide +kernel
theorem dX7_count_121 : decode cX7_count 121 = .ok (.aload_n 0, 1) := by decide +kernel
theorem dX7_count_122 : decode cX7_count 122 = .ok (.getfield 428, 3) := by decide +kernel
theorem dX7_count_125 : decode cX7_count 125 = .ok (.ireturn, 1) := by decide +kernel
theorem dX7_count_126 : decode cX7_count 126 = .ok (.aload_n 0, 1) := by decide +kernel
theorem dX7_count_127 : decode cX7_count 127 = .ok (.invokevirtual 434, 3) := by decide +kernel
theorem dX7_count_130 : decode cX7_count 130 = .ok (.ireturn, 1) := by decide +kernel
theorem dX7_count_131 : decode cX7_count 131 = .ok (.aload_n 0, 1) := by decide +kernel
theorem dX7_count_132 : decode cX7_count 132 = .ok (.invokevirtual 438, 3) := by decide +kernel
theorem dX7_count_135 : decode cX7_count 135 = .ok (.ireturn, 1) := by decide +kernel
theorem dX7_count_136 : decode cX7_count 136 = .ok (.iconst (-1), 1) := by decide +kernel
theorem dX7_count_137 : decode cX7_count 137 = .ok (.ireturn, 1) := by decide +kernel
end
section
/-! THE LAYER V: a walk over an abstract heap. Cells have KEYS (numbers of our own); 'ad' maps a key to its address. The heap is
kinds, lengths and references (S), whole numbers (I: ints, chars, booleans; of objects by field, of arrays by place) and longs (J). -/
def gtb : List Cond := lw_tbl.filter goodWord
theorem in_gtb {w : Cond} (h : w ∈ lw_tbl) (hg : goodWord w = true) : w ∈ gtb := List.mem_filter.mpr ⟨h, hg⟩
theorem gtb_good : GoodIn gtb gtb := fun w h => ⟨h, good_of_word (List.mem_filter.mp h).2⟩
theorem gtb_code {y : MethodName} {cc : ByteArray} {n : Nat} {r : Option FieldType} (h : Cond.code y cc n r ∈ gtb) : GoodIn gtb (Cond.code y cc n r :: gtb) := fun w hw => (List.mem_cons.mp hw).elim (fun e => by subst e; exact gtb_good _ h) (gtb_good w)
abbrev HS : Type := (Nat → Nat) × (Nat → Nat) × (Nat → Nat → Option Nat)
abbrev HI : Type := Nat → Nat → Int32
abbrev HJ : Type := Nat → Nat → Int64
def up2 {α : Type} (f : Nat → Nat → α) (a j : Nat) (v : α) : Nat → Nat → α := va_up f a (va_up (f a) j v)
theorem up2_row {α : Type} (f : Nat → Nat → α) (a j : Nat) (v : α) : up2 f a j v a = va_up (f a) j v := va_up_self _ _ _
theorem up2_ne {α : Type} (f : Nat → Nat → α) {a b : Nat} (j : Nat) (v : α) (h : b ≠ a) : up2 f a j v b = f b := va_up_ne _ _ h
def vv (ad : Nat → Nat) (v : Value) : Value := match v with
  | .ref k => .ref (ad k)
  | w => w
theorem vv_cat (ad : Nat → Nat) (v : Value) : (vv ad v).category = v.category := by cases v <;> rfl
def tyc (ci : Nat) : Nat → FieldType := match ci with
  | 0 => tyX0
  | 1 => tyX1
  | 2 => tyX2
  | 3 => tyX3
  | 4 => tyX4
  | 5 => tyX5
  | 6 => tyX6
  | _ => tyX7
def Tc (ci : Nat) : u_T := match ci with
  | 0 => TX0
  | 1 => TX1
  | 2 => TX2
  | 3 => TX3
  | 4 => TX4
  | 5 => TX5
  | 6 => TX6
  | _ => TX7
def Rc (ci : Nat) : String := match ci with
  | 0 => RX0
  | 1 => RX1
  | 2 => RX2
  | 3 => RX3
  | 4 => RX4
  | 5 => RX5
  | 6 => RX6
  | _ => RX7
def nf (ci : Nat) : Nat := match ci with
  | 0 => 8
  | 1 => 13
  | 2 => 12
  | 3 => 8
  | 4 => 7
  | 5 => 2
  | 6 => 12
  | _ => 52
/-- an object's field, by its type -/
def fv (ad : Nat → Nat) (r : Nat → Option Nat) (i : Nat → Int32) (j : Nat → Int64) (x : Nat) (ty : FieldType) : Value := match ty with
  | .long => .long (j x)
  | .object _ => va_rf ((r x).map ad)
  | .array _ => va_rf ((r x).map ad)
  | _ => .int (i x)
def fls (ad : Nat → Nat) (ci : Nat) (r : Nat → Option Nat) (i : Nat → Int32) (j : Nat → Int64) : List Value := (List.range (nf ci)).map fun x => fv ad r i j x (tyc ci x)
theorem fls_get {ad : Nat → Nat} {ci : Nat} {r : Nat → Option Nat} {i : Nat → Int32} {j : Nat → Int64} {x : Nat} (h : x < nf ci) : (fls ad ci r i j)[x]? = some (fv ad r i j x (tyc ci x)) := by
  simp [fls, h]
theorem rng_set {f g : Nat → Value} {n x : Nat} {v : Value} (h1 : g x = v) (h2 : ∀ y, y ≠ x → g y = f y) : ((List.range n).map f).set x v = (List.range n).map g := by
  apply List.ext_getElem?
  intro y
  rw [List.getElem?_set]
  by_cases hy : x = y
  · subst hy
    by_cases hn : x < n
    · simp [hn, h1]
    · simp [hn]
  · simp only [if_neg hy, List.getElem?_map]
    by_cases hn : y < n
    · simp [hn, h2 y (fun e => hy e.symm)]
    · simp [hn]
theorem fls_setI {ad : Nat → Nat} {ci : Nat} {r : Nat → Option Nat} {i : Nat → Int32} {j : Nat → Int64} {x : Nat} {v : Int32} (ht : tyc ci x = .int) : (fls ad ci r i j).set x (.int v) = fls ad ci r (va_up i x v) j := by
  refine rng_set ?_ ?_
  · simp only [ht, fv, va_up_self]
  · intro y hy
    cases h : tyc ci y <;> simp only [fv, va_up_ne _ _ hy]
theorem fls_setJ {ad : Nat → Nat} {ci : Nat} {r : Nat → Option Nat} {i : Nat → Int32} {j : Nat → Int64} {x : Nat} {v : Int64} (ht : tyc ci x = .long) : (fls ad ci r i j).set x (.long v) = fls ad ci r i (va_up j x v) := by
  refine rng_set ?_ ?_
  · simp only [ht, fv, va_up_self]
  · intro y hy
    cases h : tyc ci y <;> simp only [fv, va_up_ne _ _ hy]
theorem fls_setR {ad : Nat → Nat} {ci : Nat} {r : Nat → Option Nat} {i : Nat → Int32} {j : Nat → Int64} {x : Nat} {v : Option Nat} (ht : (∃ C, tyc ci x = .object C) ∨ ∃ t, tyc ci x = .array t) : (fls ad ci r i j).set x (va_rf (v.map ad)) = fls ad ci (va_up r x v) i j := by
  refine rng_set ?_ ?_
  · rcases ht with ⟨C, ht⟩ | ⟨t, ht⟩ <;> simp only [ht, fv, va_up_self]
  · intro y hy
    cases h : tyc ci y <;> simp only [fv, va_up_ne _ _ hy]
/-- a cell by its kind: 1..8 objects of class 0..7; 9 char[], 10 int[], 11 long[], 12 boolean[], 13 Disk[], 14 Lump[] -/
def ceR (cy : Nat → ClassId) (ad : Nat → Nat) (k n : Nat) (r : Nat → Option Nat) (i : Nat → Int32) (j : Nat → Int64) : va_E :=
  if k ≤ 8 then .inr (k - 1, fls ad (k - 1) r i j)
  else if k = 11 then .inl (cy 2, n, .inr (.inl j))
  else if k = 13 ∨ k = 14 then .inl (cy (k - 9), n, .inr (.inr (.inr (.inr (fun x => (r x).map ad)))))
  else .inl (cy (k - 9), n, .inl i)
def cel (cy : Nat → ClassId) (ad : Nat → Nat) (S : HS) (I : HI) (J : HJ) (k : Nat) : va_E := ceR cy ad (S.1 k) (S.2.1 k) (S.2.2 k) (I k) (J k)
def wsl (cy : Nat → ClassId) (ad : Nat → Nat) (S : HS) (I : HI) (J : HJ) (L : List Nat) : va_W := L.map fun k => (ad k, cel cy ad S I J k)
abbrev tys (cy : Nat → ClassId) : List (ClassId × FieldType) := [(cy 0, .char), (cy 1, .int), (cy 2, .long), (cy 3, .boolean), (cy 4, .object "RingDisk$Disk"), (cy 5, .object "RingDisk$Lump")]
def nrep (L : List Nat) : Prop := ∀ i j a : Nat, L[i]? = some a → L[j]? = some a → i = j
def Rl (D : va_G) (cy : Nat → ClassId) (B0 : Nat → Prop) (ad : Nat → Nat) (S : HS) (I : HI) (J : HJ) (H : Heap) : Prop :=
  ∃ L : List Nat, nrep L ∧ (∀ k, k ∈ L ↔ S.1 k ≠ 0) ∧ va_P D vwCl (wsl cy ad S I J L) H ∧ va_D B0 (wsl cy ad S I J L)
theorem wsl_get {cy : Nat → ClassId} {ad : Nat → Nat} {S : HS} {I : HI} {J : HJ} {L : List Nat} {k : Nat} (h : k ∈ L) : ∃ q0 : Nat, L[q0]? = some k ∧ (wsl cy ad S I J L)[q0]? = some (ad k, cel cy ad S I J k) := by
  obtain ⟨q0, hq⟩ := List.getElem?_of_mem h
  exact ⟨q0, hq, by simp [wsl, hq]⟩
theorem wsl_set {cy : Nat → ClassId} {ad : Nat → Nat} {S S' : HS} {I I' : HI} {J J' : HJ} {L : List Nat} {k q0 : Nat} {x : va_E} (hn : nrep L) (hq : L[q0]? = some k) (hx : cel cy ad S' I' J' k = x) (ho : ∀ b, b ≠ k → cel cy ad S' I' J' b = cel cy ad S I J b) : (wsl cy ad S I J L).set q0 (ad k, x) = wsl cy ad S' I' J' L := by
  apply List.ext_getElem?
  intro y
  rw [List.getElem?_set]
  have hlt : q0 < L.length := (List.getElem?_eq_some_iff.mp hq).1
  by_cases hy : q0 = y
  · subst hy
    have hk : L[q0] = k := (List.getElem?_eq_some_iff.mp hq).2
    simp [wsl, hlt, hk, hx]
  · simp only [if_neg hy, wsl, List.getElem?_map]
    cases hb : L[y]? with
    | none => rfl
    | some b =>
      have hbk : b ≠ k := fun e => hy (hn q0 y k hq (by rw [hb, e]))
      simp [ho b hbk]
theorem cel_o {cy : Nat → ClassId} {ad : Nat → Nat} {S : HS} {I : HI} {J : HJ} {k ci : Nat} (h : S.1 k = ci + 1) (hc : ci < 8) : cel cy ad S I J k = .inr (ci, fls ad ci (S.2.2 k) (I k) (J k)) := by
  simp only [cel, ceR, h]
  rw [if_pos (by omega)]
  rfl
theorem cel_i {cy : Nat → ClassId} {ad : Nat → Nat} {S : HS} {I : HI} {J : HJ} {k : Nat} (h : S.1 k = 10) : cel cy ad S I J k = .inl (cy 1, S.2.1 k, .inl (I k)) := by
  simp [cel, ceR, h]
theorem cel_c {cy : Nat → ClassId} {ad : Nat → Nat} {S : HS} {I : HI} {J : HJ} {k : Nat} (h : S.1 k = 9) : cel cy ad S I J k = .inl (cy 0, S.2.1 k, .inl (I k)) := by
  simp [cel, ceR, h]
theorem cel_z {cy : Nat → ClassId} {ad : Nat → Nat} {S : HS} {I : HI} {J : HJ} {k : Nat} (h : S.1 k = 12) : cel cy ad S I J k = .inl (cy 3, S.2.1 k, .inl (I k)) := by
  simp [cel, ceR, h]
theorem cel_l {cy : Nat → ClassId} {ad : Nat → Nat} {S : HS} {I : HI} {J : HJ} {k : Nat} (h : S.1 k = 11) : cel cy ad S I J k = .inl (cy 2, S.2.1 k, .inr (.inl (J k))) := by
  simp [cel, ceR, h]
theorem cel_d {cy : Nat → ClassId} {ad : Nat → Nat} {S : HS} {I : HI} {J : HJ} {k : Nat} (h : S.1 k = 13) : cel cy ad S I J k = .inl (cy 4, S.2.1 k, .inr (.inr (.inr (.inr (fun x => (S.2.2 k x).map ad))))) := by
  simp [cel, ceR, h]
theorem cel_u {cy : Nat → ClassId} {ad : Nat → Nat} {S : HS} {I : HI} {J : HJ} {k : Nat} (h : S.1 k = 14) : cel cy ad S I J k = .inl (cy 5, S.2.1 k, .inr (.inr (.inr (.inr (fun x => (S.2.2 k x).map ad))))) := by
  simp [cel, ceR, h]
theorem cel_I {cy : Nat → ClassId} {ad : Nat → Nat} {S : HS} {I : HI} {J : HJ} {a x : Nat} {v : Int32} : ∀ b, b ≠ a → cel cy ad S (up2 I a x v) J b = cel cy ad S I J b := by
  intro b hb
  simp only [cel, up2_ne I x v hb]
theorem cel_J {cy : Nat → ClassId} {ad : Nat → Nat} {S : HS} {I : HI} {J : HJ} {a x : Nat} {v : Int64} : ∀ b, b ≠ a → cel cy ad S I (up2 J a x v) b = cel cy ad S I J b := by
  intro b hb
  simp only [cel, up2_ne J x v hb]
theorem cel_R {cy : Nat → ClassId} {ad : Nat → Nat} {S : HS} {I : HI} {J : HJ} {a x : Nat} {v : Option Nat} : ∀ b, b ≠ a → cel cy ad (S.1, S.2.1, up2 S.2.2 a x v) I J b = cel cy ad S I J b := by
  intro b hb
  simp only [cel, up2_ne S.2.2 x v hb]
/-! what the launch gives beside the tables' words: nest mates' links, arrays of our classes, literals, two static rows -/
def sIx : List Nat := [69, 94, 132, 107, 165, 167, 169, 171, 163, 158, 153, 144, 116]
def sTx : List String := ["()<=+-*/;", "stick break drift gather feed eat wander gap seen", "to", "when", "ring size gas warm dust all weight step lumps", "not", "(", ")", "*/", "+-", "<=", "and or", ";"]
def sBy : List (List Int32) := [[40, 41, 60, 61, 43, 45, 42, 47, 59], [115, 116, 105, 99, 107, 32, 98, 114, 101, 97, 107, 32, 100, 114, 105, 102, 116, 32, 103, 97, 116, 104, 101, 114, 32, 102, 101, 101, 100, 32, 101, 97, 116, 32, 119, 97, 110, 100, 101, 114, 32, 103, 97, 112, 32, 115, 101, 101, 110], [116, 111], [119, 104, 101, 110], [114, 105, 110, 103, 32, 115, 105, 122, 101, 32, 103, 97, 115, 32, 119, 97, 114, 109, 32, 100, 117, 115, 116, 32, 97, 108, 108, 32, 119, 101, 105, 103, 104, 116, 32, 115, 116, 101, 112, 32, 108, 117, 109, 112, 115], [110, 111, 116], [40], [41], [42, 47], [43, 45], [60, 61], [97, 110, 100, 32, 111, 114], [59]]
def sLe : List Nat := [9, 49, 2, 4, 45, 3, 1, 1, 2, 2, 2, 6, 1]
def nLeast : List Int32 := [0, 0, 0, 1, 0, 0, 1, 0, 0]
def nMost : List Int32 := [100, 100, 100, 99999, 100, 100, 99, 4, 100]
def XtN (U : State) : Prop := va_Nw (.methodLinkNest "RingDisk" 29 ⟨"RingDisk$Reader", "<init>", "()V"⟩ "RingDisk") U ∧ va_Nw (.methodLinkNest "RingDisk$Disk" 71 ⟨"RingDisk", "isWithin", "(III)Z"⟩ "RingDisk") U ∧ va_Nw (.methodLinkNest "RingDisk$Tape" 19 ⟨"RingDisk", "isWithin", "(III)Z"⟩ "RingDisk") U ∧ va_Nw (.methodLinkNest "RingDisk$Reader" 43 ⟨"RingDisk", "isWithin", "(III)Z"⟩ "RingDisk") U ∧ va_AO "RingDisk$Lump" U ∧ va_AO "RingDisk$Disk" U
def XtS (ad : Nat → Nat) (B0 : Nat → Prop) (U : State) : Prop := (∃ adV : Nat → Nat, vk_S 13 sLe sBy (fun i => ad (5000 + i)) adV B0 U U.heap) ∧ ∀ i, i < 13 → vk_R "RingDisk$Reader" (sIx.getD i 0) (sTx.getD i "") (ad (5000 + i)) U
def XtT (ad : Nat → Nat) (B0 : Nat → Prop) (U : State) : Prop := va_Z "RingDisk$Reader" "LEAST_N" "[I" (.ref (ad 5100)) B0 U U.heap ∧ va_T .int (ad 5100) 9 (fun j => .int (nLeast.getD j 0)) B0 U U.heap ∧ va_Z "RingDisk$Reader" "MOST_N" "[I" (.ref (ad 5101)) B0 U U.heap ∧ va_T .int (ad 5101) 9 (fun j => .int (nMost.getD j 0)) B0 U U.heap ∧ va_Z "java/lang/String" "COMPACT_STRINGS" "Z" (.int 1) B0 U U.heap ∧ va_Zq "jdk/internal/util/Preconditions" "SIOOBE_FORMATTER" "Ljava/util/function/BiFunction;" B0 U U.heap
def Xt (ad : Nat → Nat) (B0 : Nat → Prop) (U : State) : Prop := XtN U ∧ XtS ad B0 U ∧ XtT ad B0 U
theorem Xt_moved {ad : Nat → Nat} {B0 : Nat → Prop} {u U : State} (hW : u.WarmedH U.vm) (hq : ∀ q : Nat, q < u.heap.size → ¬ B0 q → U.heap[q]? = u.heap[q]?) (h : Xt ad B0 u) : Xt ad B0 U := by
  obtain ⟨⟨n1, n2, n3, n4, n5, n6⟩, ⟨⟨adV, s1⟩, s2⟩, t1, t2, t3, t4, t5, t6⟩ := h
  have ha := hW.alike
  exact ⟨⟨n1.warmM hW, n2.warmM hW, n3.warmM hW, n4.warmM hW, n5.moved ha, n6.moved ha⟩, ⟨⟨adV, (s1.moved ha).kept hq⟩, fun i hi => (s2 i hi).warm hW⟩, (t1.moved ha).kept hq, (t2.moved ha).kept hq, (t3.moved ha).kept hq, (t4.moved ha).kept hq, (t5.moved ha).kept hq, (t6.moved ha).kept hq⟩
theorem Xt_ad {ad ad' : Nat → Nat} {B0 : Nat → Prop} {U : State} (he : ∀ k, 5000 ≤ k → ad' k = ad k) (h : Xt ad B0 U) : Xt ad' B0 U := by
  have e1 : (fun i => ad' (5000 + i)) = fun i => ad (5000 + i) := funext fun i => he _ (by omega)
  obtain ⟨n, ⟨⟨adV, s1⟩, s2⟩, t1, t2, t3, t4, t5, t6⟩ := h
  refine ⟨n, ⟨⟨adV, by rw [e1]; exact s1⟩, fun i hi => by rw [he (5000 + i) (by omega)]; exact s2 i hi⟩, ?_⟩
  unfold XtT
  rw [he 5100 (by omega), he 5101 (by omega)]
  exact ⟨t1, t2, t3, t4, t5, t6⟩
/-! contracts -/
def Pw (D : va_G) (cy : Nat → ClassId) (B0 : Nat → Prop) (ad : Nat → Nat) (S : HS) (I : HI) (J : HJ) (U : State) : Prop := Rl D cy B0 ad S I J U.heap ∧ va_K D vwCl (tys cy) U ∧ (∀ q, U.heap.size ≤ q → B0 q) ∧ Xt ad B0 U
def Qw (D : va_G) (cy : Nat → ClassId) (B0 : Nat → Prop) (ad : Nat → Nat) (F : Nat → Prop) (post : Option Value → HS → HI → HJ → Prop) : Array Value → State → Outcome → State → Prop := fun _ st o t =>
  (∃ (v : Option Value) (S' : HS) (I' : HI) (J' : HJ) (ad' : Nat → Nat), o = .returned (v.map (vv ad')) ∧ post v S' I' J' ∧ (∀ k, F k → ad' k = ad k) ∧ Rl D cy B0 ad' S' I' J' t.heap) ∧ va_F B0 st t
def Mt (l : Launch) (y : MethodName) (cc : ByteArray) (nL : Nat) (ret : Option FieldType) (rm : Room) (F : Nat → Prop) (As : List Value) (S : HS) (I : HI) (J : HJ) (post : Option Value → HS → HI → HJ → Prop) : Prop :=
  ∀ (D : va_G) (cy : Nat → ClassId) (B0 : Nat → Prop) (ad : Nat → Nat), Met l y (Cond.code y cc nL ret :: gtb) rm (fun a U => a = (As.map (vv ad)).toArray ∧ Pw D cy B0 ad S I J U) (Qw D cy B0 ad F post) rm.cells rm.slots B0
abbrev VX : Type := (Program × Launch × Env × Room × State × MethodId × Array Value × List Frame × Method × Code) × va_G × (Nat → ClassId) × (Nat → Prop) × (Nat → Nat) × (Nat → Prop) × Nat × Nat × Nat
abbrev xp (X : VX) : Program := X.1.1
abbrev xl (X : VX) : Launch := X.1.2.1
abbrev xe (X : VX) : Env := X.1.2.2.1
abbrev xR (X : VX) : Room := X.1.2.2.2.1
abbrev xs (X : VX) : State := X.1.2.2.2.2.1
abbrev xm (X : VX) : MethodId := X.1.2.2.2.2.2.1
abbrev xa (X : VX) : Array Value := X.1.2.2.2.2.2.2.1
abbrev xb (X : VX) : List Frame := X.1.2.2.2.2.2.2.2.1
abbrev xh (X : VX) : Method := X.1.2.2.2.2.2.2.2.2.1
abbrev xc (X : VX) : Code := X.1.2.2.2.2.2.2.2.2.2
abbrev xD (X : VX) : va_G := X.2.1
abbrev xy (X : VX) : Nat → ClassId := X.2.2.1
abbrev xB (X : VX) : Nat → Prop := X.2.2.2.1
abbrev xad (X : VX) : Nat → Nat := X.2.2.2.2.1
abbrev xF (X : VX) : Nat → Prop := X.2.2.2.2.2.1
abbrev xmc (X : VX) : Nat := X.2.2.2.2.2.2.1
abbrev xms (X : VX) : Nat := X.2.2.2.2.2.2.2.1
abbrev xn (X : VX) : Nat := X.2.2.2.2.2.2.2.2
def LvR (ad : Nat → Nat) (ls : Array Slot) (nL : Nat) (lv : List (Option Value)) : Prop := ls.size = nL ∧ lv_wf ls ∧ ∀ (i : Nat) (v : Value), lv[i]? = some (some v) → ls[i]? = some (.val (vv ad v))
def V (X : VX) (post : Option Value → HS → HI → HJ → Prop) (nc ns pc : Nat) (lv : List (Option Value)) (st : List Value) (S : HS) (I : HI) (J : HJ) : Prop :=
  ∀ (ad : Nat → Nat) (H : Heap) (locs : List Loc) (ls : Array Slot), Rl (xD X) (xy X) (xB X) ad S I J H → (∀ k, xF X k → ad k = xad X k) → va_S (xB X) (xs X).heap H locs → LvR ad ls (xn X) lv →
    W (xp X) (xl X) (xe X) (xR X) (xs X) (xm X) (xa X) (xb X) (xh X) (xc X) H locs nc ns (MQ (xb X) (Qw (xD X) (xy X) (xB X) (xad X) (xF X) post) (xa X) (xs X) (xmc X) (xms X) (xB X)) (F0 (xm X) pc ls (st.map (vv ad)))
/-- what a walk knows -/
abbrev Cx (X : VX) (cc : ByteArray) (y : MethodName) (ret : Option FieldType) (rm : Room) : Prop :=
  (xp X).tables.exec = Jvm.exec ∧ (xc X).code = cc ∧ (xc X).maxLocals = xn X ∧ (xs X).vm.findClass y.cls = some (xm X).cls ∧ (∀ w ∈ gtb, w.before (xa X) (xs X) = true) ∧ (xh X).sig.returnType = ret ∧ (xh X).locks = false ∧ va_K (xD X) vwCl (tys (xy X)) (xs X) ∧ (∀ q, (xs X).heap.size ≤ q → xB X q) ∧ Xt (xad X) (xB X) (xs X) ∧ xR X = rm ∧ (xh X).name = y.name ∧ xmc X = rm.cells ∧ xms X = rm.slots ∧ ∀ k, 5000 ≤ k → xF X k
/-! the locals with which a method begins -/
def isC2 (v : Value) : Bool := match v with
  | .long _ => true
  | .double _ => true
  | _ => false
theorem isC2_cat (v : Value) : isC2 v = true ↔ v.category = 2 := by cases v <;> simp [isC2, Value.category]
def lva (l : List Value) : List (Option Value) := match l with
  | [] => []
  | v :: t => some v :: (bif isC2 v then none :: lva t else lva t)
def lvs (n : Nat) (l : List Value) : List (Option Value) := lva l ++ List.replicate (n - (lva l).length) none
theorem lva_args (ad : Nat → Nat) : ∀ (l : List Value) (o i : Nat) (v : Value), (lva l)[i]? = some (some v) → (o + i, vv ad v) ∈ lv_args o (l.map (vv ad)) := by
  intro l
  induction l with
  | nil => intro o i v h; simp [lva] at h
  | cons w t ih =>
    intro o i v h
    cases i with
    | zero =>
      simp only [lva, List.getElem?_cons_zero, Option.some.injEq] at h
      subst h
      exact List.mem_cons_self
    | succ i =>
      simp only [lva, List.getElem?_cons_succ] at h
      refine List.mem_cons_of_mem _ ?_
      rw [vv_cat]
      cases hc : isC2 w with
      | true =>
        rw [hc] at h
        simp only [cond_true] at h
        rw [if_pos ((isC2_cat w).mp hc)]
        cases i with
        | zero => simp at h
        | succ i =>
          simp only [List.getElem?_cons_succ] at h
          have h1 := ih (o + 2) i v h
          rw [show o + (i + 1 + 1) = o + 2 + i by omega]
          exact h1
      | false =>
        rw [hc] at h
        simp only [cond_false] at h
        have hn : ¬ w.category = 2 := fun e => by rw [(isC2_cat w).mpr e] at hc; cases hc
        rw [if_neg hn]
        have h1 := ih (o + 1) i v h
        rw [show o + (i + 1) = o + 1 + i by omega]
        exact h1
theorem lvs_args (ad : Nat → Nat) {n : Nat} {l : List Value} {i : Nat} {v : Value} (h : (lvs n l)[i]? = some (some v)) : (i, vv ad v) ∈ lv_args 0 (l.map (vv ad)) := by
  have key : (lva l)[i]? = some (some v) := by
    unfold lvs at h
    by_cases hi : i < (lva l).length
    · rw [List.getElem?_append_left hi] at h
      exact h
    · rw [List.getElem?_append_right (by omega)] at h
      have := List.eq_of_mem_replicate (List.mem_of_getElem? h)
      cases this
  have := lva_args ad l 0 i v key
  rwa [Nat.zero_add] at this
theorem Mt.of {l : Launch} {y : MethodName} {cc : ByteArray} {nL : Nat} {ret : Option FieldType} {rm : Room} {F : Nat → Prop} {As : List Value} {S : HS} {I : HI} {J : HJ} {post : Option Value → HS → HI → HJ → Prop} (hy : plainName y.cls = true) (hl : ∀ ad, (lg_sl (As.map (vv ad))).length ≤ nL) (hF : ∀ k, 5000 ≤ k → F k)
    (body : ∀ X : VX, xl X = l → xn X = nL → xF X = F → Cx X cc y ret rm → V X post 0 0 0 (lvs nL As) [] S I J) : Mt l y cc nL ret rm F As S I J post := by
  intro D cy B0 ad
  refine Met.ofW (cc := cc) (maxL := nL) (ret := ret) hy rfl ?_
  intro p e s m args below meth c s₁ B hml hv
  obtain ⟨rfl, hR, hK, hB, hX⟩ := hv
  have hts := atoms_spec (ws := Cond.code y cc nL ret :: gtb) B.pre
  have hown : s.vm.findClass y.cls = some m.cls := findClass_of_methodNamed B.named
  have hin : meth.name = y.name := (name_of_methodNamed B.named B.method).1
  have C : Cx ((p, l, e, (headSpec (Cond.code y cc nL ret :: gtb) rm).room, s, m, (As.map (vv ad)).toArray, below, meth, c), D, cy, B0, ad, F, rm.cells, rm.slots, nL) cc y ret rm :=
    ⟨B.exec, B.bytes, hml, hown, fun w hw => hts w (List.mem_cons_of_mem _ hw), B.returns, B.notSynchronized, hK, hB, hX, rfl, hin, rfl, rfl, hF⟩
  have hl0 := lv_entry (As.map (vv ad)) (n := nL) (hl ad)
  rw [lg_entry_eq]
  refine body _ rfl rfl rfl C ad s.heap [] _ hR (fun _ _ => rfl) va_S.rf ⟨hl0.1, hl0.2.1, fun i v hi => ?_⟩
  exact hl0.2.2 (i, vv ad v) (lvs_args ad hi)
end
section
/-! rules of V: one an instruction -/
section VR
variable {X : VX} {cc : ByteArray} {y : MethodName} {ret : Option FieldType} {rm : Room} {post : Option Value → HS → HI → HJ → Prop} {nc ns pc : Nat} {lv : List (Option Value)} {st : List Value} {S : HS} {I : HI} {J : HJ}
theorem V_top {v w : Value} (h : v = w) (k : V X post nc ns pc lv (w :: st) S I J) : V X post nc ns pc lv (v :: st) S I J := h ▸ k
theorem V_mem {I' : HI} {J' : HJ} (h1 : I = I') (h2 : J = J') (k : V X post nc ns pc lv st S I' J') : V X post nc ns pc lv st S I J := h1 ▸ h2 ▸ k
theorem V_widen {a b : Nat} (h1 : nc ≤ a) (h2 : ns ≤ b) (k : V X post a b pc lv st S I J) : V X post nc ns pc lv st S I J := fun ad H locs ls h1' h2' h3 h4 => W.widen h1 h2 (k ad H locs ls h1' h2' h3 h4)
/-- fewer known locals -/
theorem V_lv {lv' : List (Option Value)} (h : ∀ (i : Nat) (v : Value), lv'[i]? = some (some v) → lv[i]? = some (some v)) (k : V X post nc ns pc lv' st S I J) : V X post nc ns pc lv st S I J := fun ad H locs ls h1 h2 h3 h4 => k ad H locs ls h1 h2 h3 ⟨h4.1, h4.2.1, fun i v hi => h4.2.2 i v (h i v hi)⟩
theorem V_iconst (C : Cx X cc y ret rm) {n : Int} {v : Int32} (hd : decode cc pc = .ok (.iconst n, 1)) (hv : Int32.ofInt n = v) (k : V X post nc ns (pc + 1) lv (.int v :: st) S I J) : V X post nc ns pc lv st S I J := fun ad H locs ls h1 h2 h3 h4 => lv_iconst C.1 C.2.1 hd hv (k ad H locs ls h1 h2 h3 h4)
theorem V_bipush (C : Cx X cc y ret rm) {n : Int} {v : Int32} (hd : decode cc pc = .ok (.bipush n, 2)) (hv : (Int8.ofInt n).toInt32 = v) (k : V X post nc ns (pc + 2) lv (.int v :: st) S I J) : V X post nc ns pc lv st S I J := fun ad H locs ls h1 h2 h3 h4 => lv_bipush C.1 C.2.1 hd hv (k ad H locs ls h1 h2 h3 h4)
theorem V_sipush (C : Cx X cc y ret rm) {n : Int} {v : Int32} (hd : decode cc pc = .ok (.sipush n, 3)) (hv : (Int16.ofInt n).toInt32 = v) (k : V X post nc ns (pc + 3) lv (.int v :: st) S I J) : V X post nc ns pc lv st S I J := fun ad H locs ls h1 h2 h3 h4 => lv_sipush C.1 C.2.1 hd hv (k ad H locs ls h1 h2 h3 h4)
theorem V_lconst (C : Cx X cc y ret rm) {n : Fin 2} {v : Int64} (hd : decode cc pc = .ok (.lconst n, 1)) (hv : Int64.ofNat (n : Nat) = v) (k : V X post nc ns (pc + 1) lv (.long v :: st) S I J) : V X post nc ns pc lv st S I J := fun ad H locs ls h1 h2 h3 h4 => lv_lconst C.1 C.2.1 hd hv (k ad H locs ls h1 h2 h3 h4)
theorem V_ldc (C : Cx X cc y ret rm) {ix : Nat} {v : Int32} (hd : decode cc pc = .ok (.ldc ix, 2)) (hw : Cond.constant y.cls ix v ∈ gtb) (k : V X post nc ns (pc + 2) lv (.int v :: st) S I J) : V X post nc ns pc lv st S I J := fun ad H locs ls h1 h2 h3 h4 => lv_ldc C.1 C.2.1 C.2.2.2.1 (C.2.2.2.2.1 _ hw) hd (k ad H locs ls h1 h2 h3 h4)
theorem V_ldcw (C : Cx X cc y ret rm) {ix : Nat} {v : Int32} (hd : decode cc pc = .ok (.ldc_w ix, 3)) (hw : Cond.constant y.cls ix v ∈ gtb) (k : V X post nc ns (pc + 3) lv (.int v :: st) S I J) : V X post nc ns pc lv st S I J := fun ad H locs ls h1 h2 h3 h4 => lv_ldcw C.1 C.2.1 C.2.2.2.1 (C.2.2.2.2.1 _ hw) hd (k ad H locs ls h1 h2 h3 h4)
theorem V_ldc2 (C : Cx X cc y ret rm) {ix : Nat} {v : Int64} (hd : decode cc pc = .ok (.ldc2_w ix, 3)) (hw : Cond.constantLong y.cls ix v ∈ gtb) (k : V X post nc ns (pc + 3) lv (.long v :: st) S I J) : V X post nc ns pc lv st S I J := fun ad H locs ls h1 h2 h3 h4 => lv_ldc2 C.1 C.2.1 C.2.2.2.1 (C.2.2.2.2.1 _ hw) hd (k ad H locs ls h1 h2 h3 h4)
theorem V_iload_n (C : Cx X cc y ret rm) {n : Fin 4} {x : Int32} (hd : decode cc pc = .ok (.iload_n n, 1)) (hl : lv[(n : Nat)]? = some (some (.int x))) (k : V X post nc ns (pc + 1) lv (.int x :: st) S I J) : V X post nc ns pc lv st S I J := fun ad H locs ls h1 h2 h3 h4 => lv_iload_n C.1 C.2.1 hd rfl (h4.2.2 _ _ hl) (k ad H locs ls h1 h2 h3 h4)
theorem V_iload (C : Cx X cc y ret rm) {n : Nat} {x : Int32} (hd : decode cc pc = .ok (.iload n, 2)) (hl : lv[n]? = some (some (.int x))) (k : V X post nc ns (pc + 2) lv (.int x :: st) S I J) : V X post nc ns pc lv st S I J := fun ad H locs ls h1 h2 h3 h4 => lv_iload C.1 C.2.1 hd (h4.2.2 _ _ hl) (k ad H locs ls h1 h2 h3 h4)
theorem V_lload_n (C : Cx X cc y ret rm) {n : Fin 4} {x : Int64} (hd : decode cc pc = .ok (.lload_n n, 1)) (hl : lv[(n : Nat)]? = some (some (.long x))) (k : V X post nc ns (pc + 1) lv (.long x :: st) S I J) : V X post nc ns pc lv st S I J := fun ad H locs ls h1 h2 h3 h4 => lv_lload_n C.1 C.2.1 hd rfl (h4.2.2 _ _ hl) (k ad H locs ls h1 h2 h3 h4)
theorem V_lload (C : Cx X cc y ret rm) {n : Nat} {x : Int64} (hd : decode cc pc = .ok (.lload n, 2)) (hl : lv[n]? = some (some (.long x))) (k : V X post nc ns (pc + 2) lv (.long x :: st) S I J) : V X post nc ns pc lv st S I J := fun ad H locs ls h1 h2 h3 h4 => lv_lload C.1 C.2.1 hd (h4.2.2 _ _ hl) (k ad H locs ls h1 h2 h3 h4)
theorem V_aload_n (C : Cx X cc y ret rm) {n : Fin 4} {x : Nat} (hd : decode cc pc = .ok (.aload_n n, 1)) (hl : lv[(n : Nat)]? = some (some (.ref x))) (k : V X post nc ns (pc + 1) lv (.ref x :: st) S I J) : V X post nc ns pc lv st S I J := fun ad H locs ls h1 h2 h3 h4 => lv_aload_n C.1 C.2.1 hd rfl (h4.2.2 _ _ hl) (k ad H locs ls h1 h2 h3 h4)
theorem V_aload (C : Cx X cc y ret rm) {n : Nat} {x : Nat} (hd : decode cc pc = .ok (.aload n, 2)) (hl : lv[n]? = some (some (.ref x))) (k : V X post nc ns (pc + 2) lv (.ref x :: st) S I J) : V X post nc ns pc lv st S I J := fun ad H locs ls h1 h2 h3 h4 => lv_aload C.1 C.2.1 hd (h4.2.2 _ _ hl) (k ad H locs ls h1 h2 h3 h4)
theorem V_aload_nN (C : Cx X cc y ret rm) {n : Fin 4} (hd : decode cc pc = .ok (.aload_n n, 1)) (hl : lv[(n : Nat)]? = some (some .null)) (k : V X post nc ns (pc + 1) lv (.null :: st) S I J) : V X post nc ns pc lv st S I J := fun ad H locs ls h1 h2 h3 h4 => lv_aload_nN C.1 C.2.1 hd rfl (h4.2.2 _ _ hl) (k ad H locs ls h1 h2 h3 h4)
theorem V_iadd (C : Cx X cc y ret rm) {a b : Int32} (hd : decode cc pc = .ok (.iadd, 1))  (k : V X post nc ns (pc + 1) lv (.int (a + b) :: st) S I J) : V X post nc ns pc lv (.int b :: .int a :: st) S I J := fun ad H locs ls h1 h2 h3 h4 => lv_iadd C.1 C.2.1 hd (k ad H locs ls h1 h2 h3 h4)
theorem V_isub (C : Cx X cc y ret rm) {a b : Int32} (hd : decode cc pc = .ok (.isub, 1))  (k : V X post nc ns (pc + 1) lv (.int (a - b) :: st) S I J) : V X post nc ns pc lv (.int b :: .int a :: st) S I J := fun ad H locs ls h1 h2 h3 h4 => lv_isub C.1 C.2.1 hd (k ad H locs ls h1 h2 h3 h4)
theorem V_imul (C : Cx X cc y ret rm) {a b : Int32} (hd : decode cc pc = .ok (.imul, 1))  (k : V X post nc ns (pc + 1) lv (.int (a * b) :: st) S I J) : V X post nc ns pc lv (.int b :: .int a :: st) S I J := fun ad H locs ls h1 h2 h3 h4 => lv_imul C.1 C.2.1 hd (k ad H locs ls h1 h2 h3 h4)
theorem V_iand (C : Cx X cc y ret rm) {a b : Int32} (hd : decode cc pc = .ok (.iand, 1))  (k : V X post nc ns (pc + 1) lv (.int (a &&& b) :: st) S I J) : V X post nc ns pc lv (.int b :: .int a :: st) S I J := fun ad H locs ls h1 h2 h3 h4 => lv_iand C.1 C.2.1 hd (k ad H locs ls h1 h2 h3 h4)
theorem V_ior (C : Cx X cc y ret rm) {a b : Int32} (hd : decode cc pc = .ok (.ior, 1))  (k : V X post nc ns (pc + 1) lv (.int (a ||| b) :: st) S I J) : V X post nc ns pc lv (.int b :: .int a :: st) S I J := fun ad H locs ls h1 h2 h3 h4 => lv_ior C.1 C.2.1 hd (k ad H locs ls h1 h2 h3 h4)
theorem V_ladd (C : Cx X cc y ret rm) {a b : Int64} (hd : decode cc pc = .ok (.ladd, 1))  (k : V X post nc ns (pc + 1) lv (.long (a + b) :: st) S I J) : V X post nc ns pc lv (.long b :: .long a :: st) S I J := fun ad H locs ls h1 h2 h3 h4 => lv_ladd C.1 C.2.1 hd (k ad H locs ls h1 h2 h3 h4)
theorem V_lsub (C : Cx X cc y ret rm) {a b : Int64} (hd : decode cc pc = .ok (.lsub, 1))  (k : V X post nc ns (pc + 1) lv (.long (a - b) :: st) S I J) : V X post nc ns pc lv (.long b :: .long a :: st) S I J := fun ad H locs ls h1 h2 h3 h4 => lv_lsub C.1 C.2.1 hd (k ad H locs ls h1 h2 h3 h4)
theorem V_lmul (C : Cx X cc y ret rm) {a b : Int64} (hd : decode cc pc = .ok (.lmul, 1))  (k : V X post nc ns (pc + 1) lv (.long (a * b) :: st) S I J) : V X post nc ns pc lv (.long b :: .long a :: st) S I J := fun ad H locs ls h1 h2 h3 h4 => lv_lmul C.1 C.2.1 hd (k ad H locs ls h1 h2 h3 h4)
theorem V_land (C : Cx X cc y ret rm) {a b : Int64} (hd : decode cc pc = .ok (.land, 1))  (k : V X post nc ns (pc + 1) lv (.long (a &&& b) :: st) S I J) : V X post nc ns pc lv (.long b :: .long a :: st) S I J := fun ad H locs ls h1 h2 h3 h4 => lv_land C.1 C.2.1 hd (k ad H locs ls h1 h2 h3 h4)
theorem V_lor (C : Cx X cc y ret rm) {a b : Int64} (hd : decode cc pc = .ok (.lor, 1))  (k : V X post nc ns (pc + 1) lv (.long (a ||| b) :: st) S I J) : V X post nc ns pc lv (.long b :: .long a :: st) S I J := fun ad H locs ls h1 h2 h3 h4 => lv_lor C.1 C.2.1 hd (k ad H locs ls h1 h2 h3 h4)
theorem V_idiv (C : Cx X cc y ret rm) {a b : Int32} (hd : decode cc pc = .ok (.idiv, 1)) (hne : ¬ b = 0) (k : V X post nc ns (pc + 1) lv (.int (a / b) :: st) S I J) : V X post nc ns pc lv (.int b :: .int a :: st) S I J := fun ad H locs ls h1 h2 h3 h4 => lv_idiv C.1 C.2.1 hd hne (k ad H locs ls h1 h2 h3 h4)
theorem V_irem (C : Cx X cc y ret rm) {a b : Int32} (hd : decode cc pc = .ok (.irem, 1)) (hne : ¬ b = 0) (k : V X post nc ns (pc + 1) lv (.int (a - a / b * b) :: st) S I J) : V X post nc ns pc lv (.int b :: .int a :: st) S I J := fun ad H locs ls h1 h2 h3 h4 => lv_irem C.1 C.2.1 hd hne (k ad H locs ls h1 h2 h3 h4)
theorem V_ldiv (C : Cx X cc y ret rm) {a b : Int64} (hd : decode cc pc = .ok (.ldiv, 1)) (hne : ¬ b = 0) (k : V X post nc ns (pc + 1) lv (.long (a / b) :: st) S I J) : V X post nc ns pc lv (.long b :: .long a :: st) S I J := fun ad H locs ls h1 h2 h3 h4 => lv_ldiv C.1 C.2.1 hd hne (k ad H locs ls h1 h2 h3 h4)
theorem V_lrem (C : Cx X cc y ret rm) {a b : Int64} (hd : decode cc pc = .ok (.lrem, 1)) (hne : ¬ b = 0) (k : V X post nc ns (pc + 1) lv (.long (a - a / b * b) :: st) S I J) : V X post nc ns pc lv (.long b :: .long a :: st) S I J := fun ad H locs ls h1 h2 h3 h4 => lv_lrem C.1 C.2.1 hd hne (k ad H locs ls h1 h2 h3 h4)
theorem V_ishl (C : Cx X cc y ret rm) {a b : Int32} (hd : decode cc pc = .ok (.ishl, 1))  (k : V X post nc ns (pc + 1) lv (.int (a <<< (b &&& 31)) :: st) S I J) : V X post nc ns pc lv (.int b :: .int a :: st) S I J := fun ad H locs ls h1 h2 h3 h4 => lv_ishl C.1 C.2.1 hd (k ad H locs ls h1 h2 h3 h4)
theorem V_ishr (C : Cx X cc y ret rm) {a b : Int32} (hd : decode cc pc = .ok (.ishr, 1))  (k : V X post nc ns (pc + 1) lv (.int (a >>> (b &&& 31)) :: st) S I J) : V X post nc ns pc lv (.int b :: .int a :: st) S I J := fun ad H locs ls h1 h2 h3 h4 => lv_ishr C.1 C.2.1 hd (k ad H locs ls h1 h2 h3 h4)
theorem V_lshl (C : Cx X cc y ret rm) {a : Int64} {b : Int32} (hd : decode cc pc = .ok (.lshl, 1))  (k : V X post nc ns (pc + 1) lv (.long (a <<< (b.toInt64 &&& 63)) :: st) S I J) : V X post nc ns pc lv (.int b :: .long a :: st) S I J := fun ad H locs ls h1 h2 h3 h4 => lv_lshl C.1 C.2.1 hd rfl (k ad H locs ls h1 h2 h3 h4)
theorem V_lshr (C : Cx X cc y ret rm) {a : Int64} {b : Int32} (hd : decode cc pc = .ok (.lshr, 1))  (k : V X post nc ns (pc + 1) lv (.long (a >>> (b.toInt64 &&& 63)) :: st) S I J) : V X post nc ns pc lv (.int b :: .long a :: st) S I J := fun ad H locs ls h1 h2 h3 h4 => lv_lshr C.1 C.2.1 hd rfl (k ad H locs ls h1 h2 h3 h4)
theorem V_lcmp (C : Cx X cc y ret rm) {a b : Int64} (hd : decode cc pc = .ok (.lcmp, 1))  (k : V X post nc ns (pc + 1) lv (.int (lg_cmp a b) :: st) S I J) : V X post nc ns pc lv (.long b :: .long a :: st) S I J := fun ad H locs ls h1 h2 h3 h4 => W.lcmp C.1 C.2.1 hd (k ad H locs ls h1 h2 h3 h4)
theorem V_i2l (C : Cx X cc y ret rm) {a : Int32} (hd : decode cc pc = .ok (.i2l, 1))  (k : V X post nc ns (pc + 1) lv (.long a.toInt64 :: st) S I J) : V X post nc ns pc lv (.int a :: st) S I J := fun ad H locs ls h1 h2 h3 h4 => lv_i2l C.1 C.2.1 hd rfl (k ad H locs ls h1 h2 h3 h4)
theorem V_l2i (C : Cx X cc y ret rm) {a : Int64} (hd : decode cc pc = .ok (.l2i, 1))  (k : V X post nc ns (pc + 1) lv (.int a.toInt32 :: st) S I J) : V X post nc ns pc lv (.long a :: st) S I J := fun ad H locs ls h1 h2 h3 h4 => lv_l2i C.1 C.2.1 hd rfl (k ad H locs ls h1 h2 h3 h4)
theorem V_i2c (C : Cx X cc y ret rm) {a : Int32} (hd : decode cc pc = .ok (.i2c, 1))  (k : V X post nc ns (pc + 1) lv (.int (a.toUInt32 % 65536).toInt32 :: st) S I J) : V X post nc ns pc lv (.int a :: st) S I J := fun ad H locs ls h1 h2 h3 h4 => lv_i2c C.1 C.2.1 hd rfl (k ad H locs ls h1 h2 h3 h4)
theorem V_dup (C : Cx X cc y ret rm) {v : Value} (hd : decode cc pc = .ok (.dup, 1)) (hc : v.category = 1) (k : V X post nc ns (pc + 1) lv (v :: v :: st) S I J) : V X post nc ns pc lv (v :: st) S I J := fun ad H locs ls h1 h2 h3 h4 => lv_dup C.1 C.2.1 hd ((vv_cat ad v).trans hc) (k ad H locs ls h1 h2 h3 h4)
theorem V_dup2 (C : Cx X cc y ret rm) {v w : Value} (hd : decode cc pc = .ok (.dup2, 1)) (hc : v.category = 1) (hc2 : w.category = 1) (k : V X post nc ns (pc + 1) lv (v :: w :: v :: w :: st) S I J) : V X post nc ns pc lv (v :: w :: st) S I J := fun ad H locs ls h1 h2 h3 h4 => lv_dup2_11 C.1 C.2.1 hd ((vv_cat ad v).trans hc) ((vv_cat ad w).trans hc2) (k ad H locs ls h1 h2 h3 h4)
theorem V_pop (C : Cx X cc y ret rm) {v : Value} (hd : decode cc pc = .ok (.pop, 1)) (hc : v.category = 1) (k : V X post nc ns (pc + 1) lv st S I J) : V X post nc ns pc lv (v :: st) S I J := fun ad H locs ls h1 h2 h3 h4 => lv_pop C.1 C.2.1 hd ((vv_cat ad v).trans hc) (k ad H locs ls h1 h2 h3 h4)
theorem V_if_eq (C : Cx X cc y ret rm) {x : Int32} {off : Int} (tgt : Nat) (hd : decode cc pc = .ok (.ifCond .eq off, 3)) (ht : (pc : Int) + off = (tgt : Int)) (kt : x = 0 → V X post nc ns tgt lv st S I J) (kf : ¬ x = 0 → V X post nc ns (pc + 3) lv st S I J) : V X post nc ns pc lv (.int x :: st) S I J := fun ad H locs ls h1 h2 h3 h4 => lv_if_eq C.1 C.2.1 hd ht (fun q => kt q ad H locs ls h1 h2 h3 h4) (fun q => kf q ad H locs ls h1 h2 h3 h4)
theorem V_icmp_eq (C : Cx X cc y ret rm) {x y2 : Int32} {off : Int} (tgt : Nat) (hd : decode cc pc = .ok (.if_icmp .eq off, 3)) (ht : (pc : Int) + off = (tgt : Int)) (kt : x = y2 → V X post nc ns tgt lv st S I J) (kf : ¬ x = y2 → V X post nc ns (pc + 3) lv st S I J) : V X post nc ns pc lv (.int y2 :: .int x :: st) S I J := fun ad H locs ls h1 h2 h3 h4 => lv_icmp_eq C.1 C.2.1 hd ht (fun q => kt q ad H locs ls h1 h2 h3 h4) (fun q => kf q ad H locs ls h1 h2 h3 h4)
theorem V_if_ne (C : Cx X cc y ret rm) {x : Int32} {off : Int} (tgt : Nat) (hd : decode cc pc = .ok (.ifCond .ne off, 3)) (ht : (pc : Int) + off = (tgt : Int)) (kt : ¬ x = 0 → V X post nc ns tgt lv st S I J) (kf : x = 0 → V X post nc ns (pc + 3) lv st S I J) : V X post nc ns pc lv (.int x :: st) S I J := fun ad H locs ls h1 h2 h3 h4 => lv_if_ne C.1 C.2.1 hd ht (fun q => kt q ad H locs ls h1 h2 h3 h4) (fun q => kf q ad H locs ls h1 h2 h3 h4)
theorem V_icmp_ne (C : Cx X cc y ret rm) {x y2 : Int32} {off : Int} (tgt : Nat) (hd : decode cc pc = .ok (.if_icmp .ne off, 3)) (ht : (pc : Int) + off = (tgt : Int)) (kt : ¬ x = y2 → V X post nc ns tgt lv st S I J) (kf : x = y2 → V X post nc ns (pc + 3) lv st S I J) : V X post nc ns pc lv (.int y2 :: .int x :: st) S I J := fun ad H locs ls h1 h2 h3 h4 => lv_icmp_ne C.1 C.2.1 hd ht (fun q => kt q ad H locs ls h1 h2 h3 h4) (fun q => kf q ad H locs ls h1 h2 h3 h4)
theorem V_if_lt (C : Cx X cc y ret rm) {x : Int32} {off : Int} (tgt : Nat) (hd : decode cc pc = .ok (.ifCond .lt off, 3)) (ht : (pc : Int) + off = (tgt : Int)) (kt : x < 0 → V X post nc ns tgt lv st S I J) (kf : ¬ x < 0 → V X post nc ns (pc + 3) lv st S I J) : V X post nc ns pc lv (.int x :: st) S I J := fun ad H locs ls h1 h2 h3 h4 => lv_if_lt C.1 C.2.1 hd ht (fun q => kt q ad H locs ls h1 h2 h3 h4) (fun q => kf q ad H locs ls h1 h2 h3 h4)
theorem V_icmp_lt (C : Cx X cc y ret rm) {x y2 : Int32} {off : Int} (tgt : Nat) (hd : decode cc pc = .ok (.if_icmp .lt off, 3)) (ht : (pc : Int) + off = (tgt : Int)) (kt : x < y2 → V X post nc ns tgt lv st S I J) (kf : ¬ x < y2 → V X post nc ns (pc + 3) lv st S I J) : V X post nc ns pc lv (.int y2 :: .int x :: st) S I J := fun ad H locs ls h1 h2 h3 h4 => lv_icmp_lt C.1 C.2.1 hd ht (fun q => kt q ad H locs ls h1 h2 h3 h4) (fun q => kf q ad H locs ls h1 h2 h3 h4)
theorem V_if_ge (C : Cx X cc y ret rm) {x : Int32} {off : Int} (tgt : Nat) (hd : decode cc pc = .ok (.ifCond .ge off, 3)) (ht : (pc : Int) + off = (tgt : Int)) (kt : 0 ≤ x → V X post nc ns tgt lv st S I J) (kf : ¬ 0 ≤ x → V X post nc ns (pc + 3) lv st S I J) : V X post nc ns pc lv (.int x :: st) S I J := fun ad H locs ls h1 h2 h3 h4 => lv_if_ge C.1 C.2.1 hd ht (fun q => kt q ad H locs ls h1 h2 h3 h4) (fun q => kf q ad H locs ls h1 h2 h3 h4)
theorem V_icmp_ge (C : Cx X cc y ret rm) {x y2 : Int32} {off : Int} (tgt : Nat) (hd : decode cc pc = .ok (.if_icmp .ge off, 3)) (ht : (pc : Int) + off = (tgt : Int)) (kt : y2 ≤ x → V X post nc ns tgt lv st S I J) (kf : ¬ y2 ≤ x → V X post nc ns (pc + 3) lv st S I J) : V X post nc ns pc lv (.int y2 :: .int x :: st) S I J := fun ad H locs ls h1 h2 h3 h4 => lv_icmp_ge C.1 C.2.1 hd ht (fun q => kt q ad H locs ls h1 h2 h3 h4) (fun q => kf q ad H locs ls h1 h2 h3 h4)
theorem V_if_gt (C : Cx X cc y ret rm) {x : Int32} {off : Int} (tgt : Nat) (hd : decode cc pc = .ok (.ifCond .gt off, 3)) (ht : (pc : Int) + off = (tgt : Int)) (kt : 0 < x → V X post nc ns tgt lv st S I J) (kf : ¬ 0 < x → V X post nc ns (pc + 3) lv st S I J) : V X post nc ns pc lv (.int x :: st) S I J := fun ad H locs ls h1 h2 h3 h4 => lv_if_gt C.1 C.2.1 hd ht (fun q => kt q ad H locs ls h1 h2 h3 h4) (fun q => kf q ad H locs ls h1 h2 h3 h4)
theorem V_icmp_gt (C : Cx X cc y ret rm) {x y2 : Int32} {off : Int} (tgt : Nat) (hd : decode cc pc = .ok (.if_icmp .gt off, 3)) (ht : (pc : Int) + off = (tgt : Int)) (kt : y2 < x → V X post nc ns tgt lv st S I J) (kf : ¬ y2 < x → V X post nc ns (pc + 3) lv st S I J) : V X post nc ns pc lv (.int y2 :: .int x :: st) S I J := fun ad H locs ls h1 h2 h3 h4 => lv_icmp_gt C.1 C.2.1 hd ht (fun q => kt q ad H locs ls h1 h2 h3 h4) (fun q => kf q ad H locs ls h1 h2 h3 h4)
theorem V_if_le (C : Cx X cc y ret rm) {x : Int32} {off : Int} (tgt : Nat) (hd : decode cc pc = .ok (.ifCond .le off, 3)) (ht : (pc : Int) + off = (tgt : Int)) (kt : x ≤ 0 → V X post nc ns tgt lv st S I J) (kf : ¬ x ≤ 0 → V X post nc ns (pc + 3) lv st S I J) : V X post nc ns pc lv (.int x :: st) S I J := fun ad H locs ls h1 h2 h3 h4 => lv_if_le C.1 C.2.1 hd ht (fun q => kt q ad H locs ls h1 h2 h3 h4) (fun q => kf q ad H locs ls h1 h2 h3 h4)
theorem V_icmp_le (C : Cx X cc y ret rm) {x y2 : Int32} {off : Int} (tgt : Nat) (hd : decode cc pc = .ok (.if_icmp .le off, 3)) (ht : (pc : Int) + off = (tgt : Int)) (kt : x ≤ y2 → V X post nc ns tgt lv st S I J) (kf : ¬ x ≤ y2 → V X post nc ns (pc + 3) lv st S I J) : V X post nc ns pc lv (.int y2 :: .int x :: st) S I J := fun ad H locs ls h1 h2 h3 h4 => lv_icmp_le C.1 C.2.1 hd ht (fun q => kt q ad H locs ls h1 h2 h3 h4) (fun q => kf q ad H locs ls h1 h2 h3 h4)
theorem V_goto (C : Cx X cc y ret rm) {off : Int} (tgt : Nat) (hd : decode cc pc = .ok (.goto off, 3)) (ht : (pc : Int) + off = (tgt : Int)) (k : V X post nc ns tgt lv st S I J) : V X post nc ns pc lv st S I J := fun ad H locs ls h1 h2 h3 h4 => lv_goto C.1 C.2.1 hd ht (k ad H locs ls h1 h2 h3 h4)
theorem V_ifnonnull (C : Cx X cc y ret rm) {x : Nat} {off : Int} (tgt : Nat) (hd : decode cc pc = .ok (.ifnonnull off, 3)) (ht : (pc : Int) + off = (tgt : Int)) (k : V X post nc ns tgt lv st S I J) : V X post nc ns pc lv (.ref x :: st) S I J := fun ad H locs ls h1 h2 h3 h4 => lv_ifnonnull C.1 C.2.1 hd ht (k ad H locs ls h1 h2 h3 h4)
theorem V_ifnonnullN (C : Cx X cc y ret rm) {off : Int} (hd : decode cc pc = .ok (.ifnonnull off, 3)) (k : V X post nc ns (pc + 3) lv st S I J) : V X post nc ns pc lv (.null :: st) S I J := fun ad H locs ls h1 h2 h3 h4 => lv_ifnonnullN C.1 C.2.1 hd (k ad H locs ls h1 h2 h3 h4)
theorem V_swIn (C : Cx X cc y ret rm) {dflt lo hi : Int} {offs : Array Int} {len : Nat} {x : Int32} {off : Int} (tgt : Nat) (hd : decode cc pc = .ok (.tableswitch dflt lo hi offs, len)) (h5 : ¬ x.toInt < lo) (h6 : ¬ hi < x.toInt) (ho : offs[(x.toInt - lo).toNat]? = some off) (ht : (pc : Int) + off = (tgt : Int)) (k : V X post nc ns tgt lv st S I J) : V X post nc ns pc lv (.int x :: st) S I J := fun ad H locs ls h1 h2 h3 h4 => lv_tableIn C.1 C.2.1 hd h5 h6 ho ht (k ad H locs ls h1 h2 h3 h4)
theorem V_swOut (C : Cx X cc y ret rm) {dflt lo hi : Int} {offs : Array Int} {len : Nat} {x : Int32} (tgt : Nat) (hd : decode cc pc = .ok (.tableswitch dflt lo hi offs, len)) (h : x.toInt < lo ∨ hi < x.toInt) (ht : (pc : Int) + dflt = (tgt : Int)) (k : V X post nc ns tgt lv st S I J) : V X post nc ns pc lv (.int x :: st) S I J := fun ad H locs ls h1 h2 h3 h4 => lv_tableOut C.1 C.2.1 hd h ht (k ad H locs ls h1 h2 h3 h4)
/-- a store of one word: what a long held one before goes -/
def st1 (lv : List (Option Value)) (i : Nat) (v : Value) : List (Option Value) := match lv, i with
  | [], _ => []
  | _ :: t, 0 => some v :: t
  | a :: t, i + 1 => (bif i == 0 && (match a with | some w => isC2 w | none => false) then none else a) :: st1 t i v
def st2 (lv : List (Option Value)) (i : Nat) (v : Value) : List (Option Value) := match lv, i with
  | [], _ => []
  | _ :: t, 0 => some v :: (match t with | [] => [] | _ :: u => none :: u)
  | a :: t, i + 1 => (bif i == 0 && (match a with | some w => isC2 w | none => false) then none else a) :: st2 t i v
def prs (o : Nat) (lv : List (Option Value)) : List (Nat × Value) := match lv with
  | [] => []
  | none :: t => prs (o + 1) t
  | some v :: t => (o, v) :: prs (o + 1) t
theorem prs_of : ∀ (lv : List (Option Value)) (o i : Nat) (v : Value), (i, v) ∈ prs o lv → o ≤ i ∧ lv[i - o]? = some (some v) := by
  intro lv
  induction lv with
  | nil => intro o i v h; simp [prs] at h
  | cons a t ih =>
    intro o i v h
    have step : (i, v) ∈ prs (o + 1) t → o ≤ i ∧ (a :: t)[i - o]? = some (some v) := by
      intro h
      obtain ⟨h1, h2⟩ := ih (o + 1) i v h
      refine ⟨by omega, ?_⟩
      rw [show i - o = (i - (o + 1)) + 1 by omega, List.getElem?_cons_succ]
      exact h2
    cases a with
    | none => exact step h
    | some w =>
      rcases List.mem_cons.mp h with e | h
      · cases e
        exact ⟨Nat.le_refl _, by simp⟩
      · exact step h
theorem prs_to : ∀ (lv : List (Option Value)) (o i : Nat) (v : Value), lv[i]? = some (some v) → (o + i, v) ∈ prs o lv := by
  intro lv
  induction lv with
  | nil => intro o i v h; simp at h
  | cons a t ih =>
    intro o i v h
    cases i with
    | zero =>
      simp only [List.getElem?_cons_zero, Option.some.injEq] at h
      subst h
      exact List.mem_cons_self
    | succ i =>
      simp only [List.getElem?_cons_succ] at h
      have h1 := ih (o + 1) i v h
      rw [show o + (i + 1) = o + 1 + i by omega]
      cases a with
      | none => exact h1
      | some w => exact List.mem_cons_of_mem _ h1
theorem st1_of : ∀ (lv : List (Option Value)) (i : Nat) (v : Value) (x : Nat) (w : Value), (st1 lv i v)[x]? = some (some w) → (x = i ∧ w = v) ∨ (x ≠ i ∧ lv[x]? = some (some w) ∧ ¬ (x + 1 = i ∧ w.category = 2)) := by
  intro lv
  induction lv with
  | nil => intro i v x w h; simp [st1] at h
  | cons a t ih =>
    intro i v x w h
    cases i with
    | zero =>
      cases x with
      | zero =>
        simp only [st1, List.getElem?_cons_zero, Option.some.injEq] at h
        exact Or.inl ⟨rfl, h.symm⟩
      | succ x =>
        simp only [st1, List.getElem?_cons_succ] at h
        exact Or.inr ⟨by omega, by simpa using h, by omega⟩
    | succ i =>
      cases x with
      | zero =>
        simp only [st1, List.getElem?_cons_zero, Option.some.injEq] at h
        refine Or.inr ⟨by omega, ?_, ?_⟩
        · revert h
          cases hb : (i == 0 && (match a with | some w => isC2 w | none => false)) with
          | true => intro h; simp at h
          | false => intro h; simp only [cond_false] at h; simp [h]
        · rintro ⟨h1, h2⟩
          have hi : i = 0 := by omega
          subst hi
          revert h
          cases a with
          | none => simp
          | some u =>
            cases hu : isC2 u with
            | true => simp [hu]
            | false =>
              intro h
              simp [hu] at h
              subst h
              rw [(isC2_cat u).mpr h2] at hu
              cases hu
      | succ x =>
        simp only [st1, List.getElem?_cons_succ] at h
        rcases ih i v x w h with ⟨h1, h2⟩ | ⟨h1, h2, h3⟩
        · exact Or.inl ⟨by omega, h2⟩
        · exact Or.inr ⟨by omega, by simpa using h2, fun q => h3 ⟨by omega, q.2⟩⟩
theorem st2_of : ∀ (lv : List (Option Value)) (i : Nat) (v : Value) (x : Nat) (w : Value), (st2 lv i v)[x]? = some (some w) → (x = i ∧ w = v) ∨ (x ≠ i ∧ x ≠ i + 1 ∧ lv[x]? = some (some w) ∧ ¬ (x + 1 = i ∧ w.category = 2)) := by
  intro lv
  induction lv with
  | nil => intro i v x w h; simp [st2] at h
  | cons a t ih =>
    intro i v x w h
    cases i with
    | zero =>
      cases x with
      | zero =>
        simp only [st2, List.getElem?_cons_zero, Option.some.injEq] at h
        exact Or.inl ⟨rfl, h.symm⟩
      | succ x =>
        simp only [st2, List.getElem?_cons_succ] at h
        cases t with
        | nil => simp at h
        | cons b u =>
          cases x with
          | zero => simp at h
          | succ x =>
            simp only [List.getElem?_cons_succ] at h
            exact Or.inr ⟨by omega, by omega, by simpa using h, by omega⟩
    | succ i =>
      cases x with
      | zero =>
        simp only [st2, List.getElem?_cons_zero, Option.some.injEq] at h
        refine Or.inr ⟨by omega, by omega, ?_, ?_⟩
        · revert h
          cases hb : (i == 0 && (match a with | some w => isC2 w | none => false)) with
          | true => intro h; simp at h
          | false => intro h; simp only [cond_false] at h; simp [h]
        · rintro ⟨h1, h2⟩
          have hi : i = 0 := by omega
          subst hi
          revert h
          cases a with
          | none => simp
          | some u =>
            cases hu : isC2 u with
            | true => simp [hu]
            | false =>
              intro h
              simp [hu] at h
              subst h
              rw [(isC2_cat u).mpr h2] at hu
              cases hu
      | succ x =>
        simp only [st2, List.getElem?_cons_succ] at h
        rcases ih i v x w h with ⟨h1, h2⟩ | ⟨h1, h2, h3, h4⟩
        · exact Or.inl ⟨by omega, h2⟩
        · exact Or.inr ⟨by omega, by omega, by simpa using h3, fun q => h4 ⟨by omega, q.2⟩⟩
theorem LvR.has {ad : Nat → Nat} {ls : Array Slot} {nL : Nat} {lv : List (Option Value)} (h : LvR ad ls nL lv) : lv_has ls nL ((prs 0 lv).map fun q => (q.1, vv ad q.2)) := by
  refine ⟨h.1, h.2.1, fun q hq => ?_⟩
  obtain ⟨⟨i, v⟩, hp, rfl⟩ := List.mem_map.mp hq
  exact h.2.2 i v (prs_of lv 0 i v hp).2
theorem LvR.of1 {ad : Nat → Nat} {ls : Array Slot} {nL i : Nat} {lv : List (Option Value)} {v : Value} (h : lv_has ls nL ((i, vv ad v) :: ((prs 0 lv).map fun q => (q.1, vv ad q.2)).filter (fun q => !(q.1 == i) && !(q.1 + 1 == i && q.2.category == 2)))) : LvR ad ls nL (st1 lv i v) := by
  refine ⟨h.1, h.2.1, fun x w hx => ?_⟩
  rcases st1_of lv i v x w hx with ⟨rfl, rfl⟩ | ⟨h1, h2, h3⟩
  · exact h.2.2 _ List.mem_cons_self
  · refine h.2.2 (x, vv ad w) (List.mem_cons_of_mem _ (List.mem_filter.mpr ⟨List.mem_map.mpr ⟨(x, w), by simpa using prs_to lv 0 x w h2, rfl⟩, ?_⟩))
    simp only [vv_cat, Bool.and_eq_true, Bool.not_eq_true', beq_eq_false_iff_ne, ne_eq, Bool.and_eq_false_iff]
    refine ⟨h1, ?_⟩
    by_cases hc : x + 1 = i
    · exact Or.inr (fun q => h3 ⟨hc, q⟩)
    · exact Or.inl hc
theorem LvR.of2 {ad : Nat → Nat} {ls : Array Slot} {nL i : Nat} {lv : List (Option Value)} {v : Value} (h : lv_has ls nL ((i, vv ad v) :: ((prs 0 lv).map fun q => (q.1, vv ad q.2)).filter (fun q => !(q.1 == i) && (!(q.1 == i + 1) && !(q.1 + 1 == i && q.2.category == 2))))) : LvR ad ls nL (st2 lv i v) := by
  refine ⟨h.1, h.2.1, fun x w hx => ?_⟩
  rcases st2_of lv i v x w hx with ⟨rfl, rfl⟩ | ⟨h1, h1', h2, h3⟩
  · exact h.2.2 _ List.mem_cons_self
  · refine h.2.2 (x, vv ad w) (List.mem_cons_of_mem _ (List.mem_filter.mpr ⟨List.mem_map.mpr ⟨(x, w), by simpa using prs_to lv 0 x w h2, rfl⟩, ?_⟩))
    simp only [vv_cat, Bool.and_eq_true, Bool.not_eq_true', beq_eq_false_iff_ne, ne_eq, Bool.and_eq_false_iff]
    refine ⟨h1, h1', ?_⟩
    by_cases hc : x + 1 = i
    · exact Or.inr (fun q => h3 ⟨hc, q⟩)
    · exact Or.inl hc
theorem V_istore_n (C : Cx X cc y ret rm) {n : Fin 4} {x : Int32} (hd : decode cc pc = .ok (.istore_n n, 1)) (hn : (n : Nat) < xn X) (k : V X post nc ns (pc + 1) (st1 lv n (.int x)) st S I J) : V X post nc ns pc lv (.int x :: st) S I J := fun ad H locs ls h1 h2 h3 h4 => lv_istore_n C.1 C.2.1 hd rfl h4.has hn rfl (fun ls' hl => k ad H locs ls' h1 h2 h3 (LvR.of1 (v := .int x) hl))
theorem V_istore (C : Cx X cc y ret rm) {n : Nat} {x : Int32} (hd : decode cc pc = .ok (.istore n, 2)) (hn : n < xn X) (k : V X post nc ns (pc + 2) (st1 lv n (.int x)) st S I J) : V X post nc ns pc lv (.int x :: st) S I J := fun ad H locs ls h1 h2 h3 h4 => lv_istore C.1 C.2.1 hd h4.has hn rfl (fun ls' hl => k ad H locs ls' h1 h2 h3 (LvR.of1 (v := .int x) hl))
theorem V_lstore_n (C : Cx X cc y ret rm) {n : Fin 4} {x : Int64} (hd : decode cc pc = .ok (.lstore_n n, 1)) (hn : (n : Nat) + 1 < xn X) (k : V X post nc ns (pc + 1) (st2 lv n (.long x)) st S I J) : V X post nc ns pc lv (.long x :: st) S I J := fun ad H locs ls h1 h2 h3 h4 => lv_lstore_n C.1 C.2.1 hd rfl h4.has hn rfl (fun ls' hl => k ad H locs ls' h1 h2 h3 (LvR.of2 (v := .long x) hl))
theorem V_lstore (C : Cx X cc y ret rm) {n : Nat} {x : Int64} (hd : decode cc pc = .ok (.lstore n, 2)) (hn : n + 1 < xn X) (k : V X post nc ns (pc + 2) (st2 lv n (.long x)) st S I J) : V X post nc ns pc lv (.long x :: st) S I J := fun ad H locs ls h1 h2 h3 h4 => lv_lstore C.1 C.2.1 hd h4.has hn rfl (fun ls' hl => k ad H locs ls' h1 h2 h3 (LvR.of2 (v := .long x) hl))
theorem V_astore_n (C : Cx X cc y ret rm) {n : Fin 4} {x : Nat} (hd : decode cc pc = .ok (.astore_n n, 1)) (hn : (n : Nat) < xn X) (k : V X post nc ns (pc + 1) (st1 lv n (.ref x)) st S I J) : V X post nc ns pc lv (.ref x :: st) S I J := fun ad H locs ls h1 h2 h3 h4 => lv_astore_n C.1 C.2.1 hd rfl h4.has hn rfl (fun ls' hl => k ad H locs ls' h1 h2 h3 (LvR.of1 (v := .ref x) hl))
theorem V_astore (C : Cx X cc y ret rm) {n : Nat} {x : Nat} (hd : decode cc pc = .ok (.astore n, 2)) (hn : n < xn X) (k : V X post nc ns (pc + 2) (st1 lv n (.ref x)) st S I J) : V X post nc ns pc lv (.ref x :: st) S I J := fun ad H locs ls h1 h2 h3 h4 => lv_astore C.1 C.2.1 hd h4.has hn rfl (fun ls' hl => k ad H locs ls' h1 h2 h3 (LvR.of1 (v := .ref x) hl))
theorem V_astore_nN (C : Cx X cc y ret rm) {n : Fin 4} (hd : decode cc pc = .ok (.astore_n n, 1)) (hn : (n : Nat) < xn X) (k : V X post nc ns (pc + 1) (st1 lv n .null) st S I J) : V X post nc ns pc lv (.null :: st) S I J := fun ad H locs ls h1 h2 h3 h4 => lv_astore_nN C.1 C.2.1 hd rfl h4.has hn rfl (fun ls' hl => k ad H locs ls' h1 h2 h3 (LvR.of1 (v := .null) hl))
theorem V_iinc (C : Cx X cc y ret rm) {n : Nat} {d : Int} {x : Int32} (hd : decode cc pc = .ok (.iinc n d, 3)) (hl : lv[n]? = some (some (.int x))) (hn : n < xn X) (k : V X post nc ns (pc + 3) (st1 lv n (.int (x + Int32.ofInt d))) st S I J) : V X post nc ns pc lv st S I J := fun ad H locs ls h1 h2 h3 h4 => by
  obtain ⟨kk, hk⟩ := List.getElem?_of_mem (List.mem_map.mpr ⟨(n, .int x), (by simpa using prs_to lv 0 n (.int x) hl), rfl⟩ : ((n, Value.int x) : Nat × Value) ∈ (prs 0 lv).map fun q => (q.1, vv ad q.2))
  exact lv_iinc C.1 C.2.1 hd h4.has hk rfl hn rfl (fun ls' hl => k ad H locs ls' h1 h2 h3 (LvR.of1 (v := .int (x + Int32.ofInt d)) hl))
end VR
end
section
/-! rules of V: fields, arrays, returns -/
section VH
/-- the word of a field instruction: class ci's field x under the pool number ix of the class own -/
def FL (own : String) (ix ci x : Nat) : Prop := Cond.fieldLink own ix (Tc ci x).1 (Tc ci x).2.1 (Tc ci x).2.2.1 ∈ gtb ∧ x < nf ci ∧ ci < 8
theorem inX0 : ∀ w ∈ u_ws RX0 TX0 8, w ∈ gtb := by decide +kernel
theorem inX1 : ∀ w ∈ u_ws RX1 TX1 13, w ∈ gtb := by decide +kernel
theorem inX2 : ∀ w ∈ u_ws RX2 TX2 12, w ∈ gtb := by decide +kernel
theorem inX3 : ∀ w ∈ u_ws RX3 TX3 8, w ∈ gtb := by decide +kernel
theorem inX4 : ∀ w ∈ u_ws RX4 TX4 7, w ∈ gtb := by decide +kernel
theorem inX5 : ∀ w ∈ u_ws RX5 TX5 2, w ∈ gtb := by decide +kernel
theorem inX6 : ∀ w ∈ u_ws RX6 TX6 12, w ∈ gtb := by decide +kernel
theorem inX7 : ∀ w ∈ u_ws RX7 TX7 52, w ∈ gtb := by decide +kernel
theorem cl_ok (ci : Nat) (h : ci < 8) : vwCl[ci]? = some (Rc ci, Tc ci, nf ci) ∧ (∀ w ∈ u_ws (Rc ci) (Tc ci) (nf ci), w ∈ gtb) ∧ (∀ k, k < nf ci → parseFieldDescriptor (Tc ci k).2.2.1 = some (tyc ci k)) ∧ (∀ a, a < nf ci → ∀ b, b < nf ci → a ≠ b → (Tc ci a).2.1 ≠ (Tc ci b).2.1) := by
  match ci, h with
  | 0, _ => exact ⟨rfl, inX0, tyX0_ok, nmX0⟩
  | 1, _ => exact ⟨rfl, inX1, tyX1_ok, nmX1⟩
  | 2, _ => exact ⟨rfl, inX2, tyX2_ok, nmX2⟩
  | 3, _ => exact ⟨rfl, inX3, tyX3_ok, nmX3⟩
  | 4, _ => exact ⟨rfl, inX4, tyX4_ok, nmX4⟩
  | 5, _ => exact ⟨rfl, inX5, tyX5_ok, nmX5⟩
  | 6, _ => exact ⟨rfl, inX6, tyX6_ok, nmX6⟩
  | 7, _ => exact ⟨rfl, inX7, tyX7_ok, nmX7⟩
variable {X : VX} {cc : ByteArray} {y : MethodName} {ret : Option FieldType} {rm : Room} {post : Option Value → HS → HI → HJ → Prop} {nc ns pc : Nat} {lv : List (Option Value)} {st : List Value} {S : HS} {I : HI} {J : HJ}
theorem V_get0 (C : Cx X cc y ret rm) {ix ci x a : Nat} {v : Value} (hf : FL y.cls ix ci x) (hK : S.1 a = ci + 1) (hv : ∀ ad, fv ad (S.2.2 a) (I a) (J a) x (tyc ci x) = vv ad v) (hd : decode cc pc = .ok (.getfield ix, 3)) (k : V X post nc ns (pc + 3) lv (v :: st) S I J) : V X post nc ns pc lv (.ref a :: st) S I J := fun ad H locs ls h1 h2 h3 h4 => by
  obtain ⟨L, n1, n2, hP, hD⟩ := id h1
  obtain ⟨q0, -, hq⟩ := wsl_get (cy := xy X) (ad := ad) (S := S) (I := I) (J := J) ((n2 a).mpr (by rw [hK]; omega))
  rw [cel_o hK hf.2.2] at hq
  obtain ⟨c1, c2, -, -⟩ := cl_ok ci hf.2.2
  exact va_get C.1 C.2.1 (D := xD X) (v := vv ad v) C.2.2.2.2.1 c2 C.2.2.2.1 C.2.2.2.2.2.2.2.1 hP q0 hq c1 x hf.2.1 (C.2.2.2.2.1 _ hf.1) (fun _ h9 => h9) (by rw [fls_get hf.2.1, hv ad]) hd (k ad H locs ls h1 h2 h3 h4)
theorem V_getI (C : Cx X cc y ret rm) {ix ci x a : Nat} (hf : FL y.cls ix ci x) (hK : S.1 a = ci + 1) (ht : tyc ci x = .int) (hd : decode cc pc = .ok (.getfield ix, 3)) (k : V X post nc ns (pc + 3) lv (.int (I a x) :: st) S I J) : V X post nc ns pc lv (.ref a :: st) S I J :=
  V_get0 C hf hK (fun ad => by rw [ht]; rfl) hd k
theorem V_getJ (C : Cx X cc y ret rm) {ix ci x a : Nat} (hf : FL y.cls ix ci x) (hK : S.1 a = ci + 1) (ht : tyc ci x = .long) (hd : decode cc pc = .ok (.getfield ix, 3)) (k : V X post nc ns (pc + 3) lv (.long (J a x) :: st) S I J) : V X post nc ns pc lv (.ref a :: st) S I J :=
  V_get0 C hf hK (fun ad => by rw [ht]; rfl) hd k
def isRt (ty : FieldType) : Bool := match ty with
  | .object _ => true
  | .array _ => true
  | _ => false
theorem V_getR (C : Cx X cc y ret rm) {ix ci x a b : Nat} (hf : FL y.cls ix ci x) (hK : S.1 a = ci + 1) (hR : S.2.2 a x = some b) (ht : isRt (tyc ci x) = true) (hd : decode cc pc = .ok (.getfield ix, 3)) (k : V X post nc ns (pc + 3) lv (.ref b :: st) S I J) : V X post nc ns pc lv (.ref a :: st) S I J :=
  V_get0 C hf hK (fun ad => by revert ht; cases tyc ci x <;> simp [isRt, fv, hR, va_rf, vv]) hd k
/-- a new state of the cell a -/
theorem Rl_set {D : va_G} {cy : Nat → ClassId} {B0 : Nat → Prop} {ad : Nat → Nat} {S' : HS} {I' : HI} {J' : HJ} {L : List Nat} {a q0 : Nat} {x : va_E} {H1 : Heap} (n1 : nrep L) (n2 : ∀ k, k ∈ L ↔ S.1 k ≠ 0) (hq : L[q0]? = some a) (hx : cel cy ad S' I' J' a = x) (ho : ∀ b, b ≠ a → cel cy ad S' I' J' b = cel cy ad S I J b) (hS : S'.1 = S.1) (hP : va_P D vwCl ((wsl cy ad S I J L).set q0 (ad a, x)) H1) (hD : va_D B0 ((wsl cy ad S I J L).set q0 (ad a, x))) : Rl D cy B0 ad S' I' J' H1 := by
  rw [wsl_set n1 hq hx ho] at hP hD
  exact ⟨L, n1, fun k => by rw [hS]; exact n2 k, hP, hD⟩
theorem V_putI (C : Cx X cc y ret rm) {ix ci x a : Nat} {v : Int32} (hf : FL y.cls ix ci x) (hK : S.1 a = ci + 1) (ht : tyc ci x = .int) (hfin : (Tc ci x).2.2.2 = false) (hd : decode cc pc = .ok (.putfield ix, 3)) (k : V X post nc ns (pc + 3) lv st S (up2 I a x v) J) : V X post nc ns pc lv (.int v :: .ref a :: st) S I J := fun ad H locs ls h1 h2 h3 h4 => by
  obtain ⟨L, n1, n2, hP, hD⟩ := h1
  obtain ⟨q0, hL, hq⟩ := wsl_get (cy := xy X) (ad := ad) (S := S) (I := I) (J := J) ((n2 a).mpr (by rw [hK]; omega))
  rw [cel_o hK hf.2.2] at hq
  obtain ⟨c1, c2, c3, c4⟩ := cl_ok ci hf.2.2
  refine va_put C.1 C.2.1 (D := xD X) (v := .int v) (ty := .int) C.2.2.2.2.1 c2 (tyc ci) c3 c4 C.2.2.2.1 C.2.2.2.2.2.2.2.1 hP hD h3 q0 hq c1 x hf.2.1 (C.2.2.2.2.1 _ hf.1) (fun _ h9 => h9) hfin (by rw [c3 x hf.2.1, ht]) rfl rfl (by simp [fls, hf.2.1]) hd (fun H1 locs1 hP1 hD1 hS1 => ?_)
  refine k ad H1 locs1 ls (Rl_set n1 n2 hL ?_ cel_I rfl hP1 hD1) h2 hS1 h4
  rw [cel_o hK hf.2.2, up2_row, fls_setI ht]
theorem V_putJ (C : Cx X cc y ret rm) {ix ci x a : Nat} {v : Int64} (hf : FL y.cls ix ci x) (hK : S.1 a = ci + 1) (ht : tyc ci x = .long) (hfin : (Tc ci x).2.2.2 = false) (hd : decode cc pc = .ok (.putfield ix, 3)) (k : V X post nc ns (pc + 3) lv st S I (up2 J a x v)) : V X post nc ns pc lv (.long v :: .ref a :: st) S I J := fun ad H locs ls h1 h2 h3 h4 => by
  obtain ⟨L, n1, n2, hP, hD⟩ := h1
  obtain ⟨q0, hL, hq⟩ := wsl_get (cy := xy X) (ad := ad) (S := S) (I := I) (J := J) ((n2 a).mpr (by rw [hK]; omega))
  rw [cel_o hK hf.2.2] at hq
  obtain ⟨c1, c2, c3, c4⟩ := cl_ok ci hf.2.2
  refine va_put C.1 C.2.1 (D := xD X) (v := .long v) (ty := .long) C.2.2.2.2.1 c2 (tyc ci) c3 c4 C.2.2.2.1 C.2.2.2.2.2.2.2.1 hP hD h3 q0 hq c1 x hf.2.1 (C.2.2.2.2.1 _ hf.1) (fun _ h9 => h9) hfin (by rw [c3 x hf.2.1, ht]) rfl rfl (by simp [fls, hf.2.1]) hd (fun H1 locs1 hP1 hD1 hS1 => ?_)
  refine k ad H1 locs1 ls (Rl_set n1 n2 hL ?_ cel_J rfl hP1 hD1) h2 hS1 h4
  rw [cel_o hK hf.2.2, up2_row, fls_setJ ht]
theorem isRt_or {ty : FieldType} (h : isRt ty = true) : (∃ C, ty = .object C) ∨ ∃ t, ty = .array t := by
  cases ty <;> simp [isRt] at h ⊢
theorem V_putR (C : Cx X cc y ret rm) {ix ci x a b : Nat} (hf : FL y.cls ix ci x) (hK : S.1 a = ci + 1) (ht : isRt (tyc ci x) = true) (hfin : (Tc ci x).2.2.2 = false) (hd : decode cc pc = .ok (.putfield ix, 3)) (k : V X post nc ns (pc + 3) lv st (S.1, S.2.1, up2 S.2.2 a x (some b)) I J) : V X post nc ns pc lv (.ref b :: .ref a :: st) S I J := fun ad H locs ls h1 h2 h3 h4 => by
  obtain ⟨L, n1, n2, hP, hD⟩ := h1
  obtain ⟨q0, hL, hq⟩ := wsl_get (cy := xy X) (ad := ad) (S := S) (I := I) (J := J) ((n2 a).mpr (by rw [hK]; omega))
  rw [cel_o hK hf.2.2] at hq
  obtain ⟨c1, c2, c3, c4⟩ := cl_ok ci hf.2.2
  have ht2 := isRt_or ht
  refine va_put C.1 C.2.1 (D := xD X) (v := .ref (ad b)) (ty := tyc ci x) C.2.2.2.2.1 c2 (tyc ci) c3 c4 C.2.2.2.1 C.2.2.2.2.2.2.2.1 hP hD h3 q0 hq c1 x hf.2.1 (C.2.2.2.2.1 _ hf.1) (fun _ h9 => h9) hfin (c3 x hf.2.1) (by rcases ht2 with ⟨C, e⟩ | ⟨t, e⟩ <;> rw [e] <;> rfl) (by rcases ht2 with ⟨C, e⟩ | ⟨t, e⟩ <;> rw [e] <;> rfl) (by simp [fls, hf.2.1]) hd (fun H1 locs1 hP1 hD1 hS1 => ?_)
  refine k ad H1 locs1 ls (Rl_set (S' := (S.1, S.2.1, up2 S.2.2 a x (some b))) n1 n2 hL ?_ cel_R rfl hP1 hD1) h2 hS1 h4
  rw [cel_o (S := (S.1, S.2.1, up2 S.2.2 a x (some b))) hK hf.2.2]
  dsimp only
  rw [up2_row, ← fls_setR ht2]
  rfl
theorem V_putFR (C : Cx X cc y ret rm) {ix ci x a b : Nat} (hf : FL y.cls ix ci x) (hK : S.1 a = ci + 1) (ht : isRt (tyc ci x) = true) (hfin : (Tc ci x).2.2.2 = true) (hnm : y.name = "<init>") (hdc : (Tc ci x).1 = y.cls) (hd : decode cc pc = .ok (.putfield ix, 3)) (k : V X post nc ns (pc + 3) lv st (S.1, S.2.1, up2 S.2.2 a x (some b)) I J) : V X post nc ns pc lv (.ref b :: .ref a :: st) S I J := fun ad H locs ls h1 h2 h3 h4 => by
  obtain ⟨L, n1, n2, hP, hD⟩ := h1
  obtain ⟨q0, hL, hq⟩ := wsl_get (cy := xy X) (ad := ad) (S := S) (I := I) (J := J) ((n2 a).mpr (by rw [hK]; omega))
  rw [cel_o hK hf.2.2] at hq
  obtain ⟨c1, c2, c3, c4⟩ := cl_ok ci hf.2.2
  have ht2 := isRt_or ht
  refine va_putF C.1 C.2.1 (D := xD X) (v := .ref (ad b)) (ty := tyc ci x) C.2.2.2.2.1 c2 (tyc ci) c3 c4 C.2.2.2.1 C.2.2.2.2.2.2.2.1 hP hD h3 q0 hq c1 x hf.2.1 (C.2.2.2.2.1 _ hf.1) (fun _ h9 => h9) hfin (by rw [C.2.2.2.2.2.2.2.2.2.2.2.1, hnm]) hdc (c3 x hf.2.1) (by rcases ht2 with ⟨C, e⟩ | ⟨t, e⟩ <;> rw [e] <;> rfl) (by rcases ht2 with ⟨C, e⟩ | ⟨t, e⟩ <;> rw [e] <;> rfl) (by simp [fls, hf.2.1]) hd (fun H1 locs1 hP1 hD1 hS1 => ?_)
  refine k ad H1 locs1 ls (Rl_set (S' := (S.1, S.2.1, up2 S.2.2 a x (some b))) n1 n2 hL ?_ cel_R rfl hP1 hD1) h2 hS1 h4
  rw [cel_o (S := (S.1, S.2.1, up2 S.2.2 a x (some b))) hK hf.2.2]
  dsimp only
  rw [up2_row, ← fls_setR ht2]
  rfl
theorem V_iald (C : Cx X cc y ret rm) {a : Nat} {i : Int32} (j : Nat) (hK : S.1 a = 10) (hi : i = nI j) (hj : j < S.2.1 a) (hN : S.2.1 a < 2 ^ 31) (hd : decode cc pc = .ok (.iaload, 1)) (k : V X post nc ns (pc + 1) lv (.int (I a j) :: st) S I J) : V X post nc ns pc lv (.int i :: .ref a :: st) S I J := fun ad H locs ls h1 h2 h3 h4 => by
  obtain ⟨L, n1, n2, hP, hD⟩ := id h1
  obtain ⟨q0, -, hq⟩ := wsl_get (cy := xy X) (ad := ad) (S := S) (I := I) (J := J) ((n2 a).mpr (by rw [hK]; omega))
  rw [cel_i hK] at hq
  subst hi
  have hk := k ad H locs ls h1 h2 h3 h4
  rw [← nI_clamp (n := j) (by omega)] at hk
  exact va_iald C.1 C.2.1 C.2.2.2.2.2.2.2.1 hP q0 1 hq rfl (vp_in_nI hj hN) hd hk
theorem V_cald (C : Cx X cc y ret rm) {a : Nat} {i : Int32} (j : Nat) (hK : S.1 a = 9) (hi : i = nI j) (hj : j < S.2.1 a) (hN : S.2.1 a < 2 ^ 31) (hd : decode cc pc = .ok (.caload, 1)) (k : V X post nc ns (pc + 1) lv (.int (I a j) :: st) S I J) : V X post nc ns pc lv (.int i :: .ref a :: st) S I J := fun ad H locs ls h1 h2 h3 h4 => by
  obtain ⟨L, n1, n2, hP, hD⟩ := id h1
  obtain ⟨q0, -, hq⟩ := wsl_get (cy := xy X) (ad := ad) (S := S) (I := I) (J := J) ((n2 a).mpr (by rw [hK]; omega))
  rw [cel_c hK] at hq
  subst hi
  have hk := k ad H locs ls h1 h2 h3 h4
  rw [← nI_clamp (n := j) (by omega)] at hk
  exact va_cald C.1 C.2.1 C.2.2.2.2.2.2.2.1 hP q0 0 hq rfl (vp_in_nI hj hN) hd hk
theorem V_zald (C : Cx X cc y ret rm) {a : Nat} {i : Int32} (j : Nat) (hK : S.1 a = 12) (hi : i = nI j) (hj : j < S.2.1 a) (hN : S.2.1 a < 2 ^ 31) (hd : decode cc pc = .ok (.baload, 1)) (k : V X post nc ns (pc + 1) lv (.int (I a j) :: st) S I J) : V X post nc ns pc lv (.int i :: .ref a :: st) S I J := fun ad H locs ls h1 h2 h3 h4 => by
  obtain ⟨L, n1, n2, hP, hD⟩ := id h1
  obtain ⟨q0, -, hq⟩ := wsl_get (cy := xy X) (ad := ad) (S := S) (I := I) (J := J) ((n2 a).mpr (by rw [hK]; omega))
  rw [cel_z hK] at hq
  subst hi
  have hk := k ad H locs ls h1 h2 h3 h4
  rw [← nI_clamp (n := j) (by omega)] at hk
  exact va_zald C.1 C.2.1 C.2.2.2.2.2.2.2.1 hP q0 3 hq rfl (vp_in_nI hj hN) hd hk
theorem V_lald (C : Cx X cc y ret rm) {a : Nat} {i : Int32} (j : Nat) (hK : S.1 a = 11) (hi : i = nI j) (hj : j < S.2.1 a) (hN : S.2.1 a < 2 ^ 31) (hd : decode cc pc = .ok (.laload, 1)) (k : V X post nc ns (pc + 1) lv (.long (J a j) :: st) S I J) : V X post nc ns pc lv (.int i :: .ref a :: st) S I J := fun ad H locs ls h1 h2 h3 h4 => by
  obtain ⟨L, n1, n2, hP, hD⟩ := id h1
  obtain ⟨q0, -, hq⟩ := wsl_get (cy := xy X) (ad := ad) (S := S) (I := I) (J := J) ((n2 a).mpr (by rw [hK]; omega))
  rw [cel_l hK] at hq
  subst hi
  have hk := k ad H locs ls h1 h2 h3 h4
  rw [← nI_clamp (n := j) (by omega)] at hk
  exact va_lald C.1 C.2.1 C.2.2.2.2.2.2.2.1 hP q0 2 hq rfl (vp_in_nI hj hN) hd hk
theorem V_aald (C : Cx X cc y ret rm) {a : Nat} {i : Int32} {b : Option Nat} (j : Nat) (hK : S.1 a = 13 ∨ S.1 a = 14) (hi : i = nI j) (hj : j < S.2.1 a) (hN : S.2.1 a < 2 ^ 31) (hR : S.2.2 a j = b) (hd : decode cc pc = .ok (.aaload, 1)) (k : V X post nc ns (pc + 1) lv (va_rf b :: st) S I J) : V X post nc ns pc lv (.int i :: .ref a :: st) S I J := fun ad H locs ls h1 h2 h3 h4 => by
  obtain ⟨L, n1, n2, hP, hD⟩ := id h1
  obtain ⟨q0, -, hq⟩ := wsl_get (cy := xy X) (ad := ad) (S := S) (I := I) (J := J) ((n2 a).mpr (by rcases hK with h | h <;> rw [h] <;> omega))
  subst hi
  have hk := k ad H locs ls h1 h2 h3 h4
  have e : (va_rf b :: st).map (vv ad) = va_rf ((S.2.2 a (nI j).toNatClampNeg).map ad) :: st.map (vv ad) := by
    rw [nI_clamp (n := j) (by omega), hR]
    cases b <;> rfl
  rw [e] at hk
  rcases hK with hK | hK
  · rw [cel_d hK] at hq
    exact va_aldq C.1 C.2.1 C.2.2.2.2.2.2.2.1 hP q0 4 hq rfl (vp_in_nI hj hN) hd hk
  · rw [cel_u hK] at hq
    exact va_aldq C.1 C.2.1 C.2.2.2.2.2.2.2.1 hP q0 5 hq rfl (vp_in_nI hj hN) hd hk
theorem V_iast (C : Cx X cc y ret rm) {a : Nat} {i v : Int32} (j : Nat) (hK : S.1 a = 10) (hi : i = nI j) (hj : j < S.2.1 a) (hN : S.2.1 a < 2 ^ 31) (hd : decode cc pc = .ok (.iastore, 1)) (k : V X post nc ns (pc + 1) lv st S (up2 I a j v) J) : V X post nc ns pc lv (.int v :: .int i :: .ref a :: st) S I J := fun ad H locs ls h1 h2 h3 h4 => by
  obtain ⟨L, n1, n2, hP, hD⟩ := h1
  obtain ⟨q0, hL, hq⟩ := wsl_get (cy := xy X) (ad := ad) (S := S) (I := I) (J := J) ((n2 a).mpr (by rw [hK]; omega))
  rw [cel_i hK] at hq
  subst hi
  refine va_iast C.1 C.2.1 C.2.2.2.2.2.2.2.1 hP hD h3 q0 1 hq rfl (vp_in_nI hj hN) hd (fun H1 locs1 hP1 hD1 hS1 => ?_)
  refine k ad H1 locs1 ls (Rl_set n1 n2 hL ?_ cel_I rfl hP1 hD1) h2 hS1 h4
  rw [cel_i hK, up2_row, nI_clamp (n := j) (by omega)]
  rfl
theorem V_cast (C : Cx X cc y ret rm) {a : Nat} {i v : Int32} (j : Nat) (hK : S.1 a = 9) (hi : i = nI j) (hj : j < S.2.1 a) (hN : S.2.1 a < 2 ^ 31) (hd : decode cc pc = .ok (.castore, 1)) (k : V X post nc ns (pc + 1) lv st S (up2 I a j (vp_nar .char v)) J) : V X post nc ns pc lv (.int v :: .int i :: .ref a :: st) S I J := fun ad H locs ls h1 h2 h3 h4 => by
  obtain ⟨L, n1, n2, hP, hD⟩ := h1
  obtain ⟨q0, hL, hq⟩ := wsl_get (cy := xy X) (ad := ad) (S := S) (I := I) (J := J) ((n2 a).mpr (by rw [hK]; omega))
  rw [cel_c hK] at hq
  subst hi
  refine va_cast C.1 C.2.1 C.2.2.2.2.2.2.2.1 hP hD h3 q0 0 hq rfl (vp_in_nI hj hN) hd (fun H1 locs1 hP1 hD1 hS1 => ?_)
  refine k ad H1 locs1 ls (Rl_set n1 n2 hL ?_ cel_I rfl hP1 hD1) h2 hS1 h4
  rw [cel_c hK, up2_row, nI_clamp (n := j) (by omega)]
  rfl
theorem V_zast (C : Cx X cc y ret rm) {a : Nat} {i v : Int32} (j : Nat) (hK : S.1 a = 12) (hi : i = nI j) (hj : j < S.2.1 a) (hN : S.2.1 a < 2 ^ 31) (hd : decode cc pc = .ok (.bastore, 1)) (k : V X post nc ns (pc + 1) lv st S (up2 I a j (vp_nar .boolean v)) J) : V X post nc ns pc lv (.int v :: .int i :: .ref a :: st) S I J := fun ad H locs ls h1 h2 h3 h4 => by
  obtain ⟨L, n1, n2, hP, hD⟩ := h1
  obtain ⟨q0, hL, hq⟩ := wsl_get (cy := xy X) (ad := ad) (S := S) (I := I) (J := J) ((n2 a).mpr (by rw [hK]; omega))
  rw [cel_z hK] at hq
  subst hi
  refine va_zast C.1 C.2.1 C.2.2.2.2.2.2.2.1 hP hD h3 q0 3 hq rfl (vp_in_nI hj hN) hd (fun H1 locs1 hP1 hD1 hS1 => ?_)
  refine k ad H1 locs1 ls (Rl_set n1 n2 hL ?_ cel_I rfl hP1 hD1) h2 hS1 h4
  rw [cel_z hK, up2_row, nI_clamp (n := j) (by omega)]
  rfl
theorem V_last (C : Cx X cc y ret rm) {a : Nat} {i : Int32} {v : Int64} (j : Nat) (hK : S.1 a = 11) (hi : i = nI j) (hj : j < S.2.1 a) (hN : S.2.1 a < 2 ^ 31) (hd : decode cc pc = .ok (.lastore, 1)) (k : V X post nc ns (pc + 1) lv st S I (up2 J a j v)) : V X post nc ns pc lv (.long v :: .int i :: .ref a :: st) S I J := fun ad H locs ls h1 h2 h3 h4 => by
  obtain ⟨L, n1, n2, hP, hD⟩ := h1
  obtain ⟨q0, hL, hq⟩ := wsl_get (cy := xy X) (ad := ad) (S := S) (I := I) (J := J) ((n2 a).mpr (by rw [hK]; omega))
  rw [cel_l hK] at hq
  subst hi
  refine va_last C.1 C.2.1 C.2.2.2.2.2.2.2.1 hP hD h3 q0 2 hq rfl (vp_in_nI hj hN) hd (fun H1 locs1 hP1 hD1 hS1 => ?_)
  refine k ad H1 locs1 ls (Rl_set n1 n2 hL ?_ cel_J rfl hP1 hD1) h2 hS1 h4
  rw [cel_l hK, up2_row, nI_clamp (n := j) (by omega)]
  rfl
/-! returns -/
theorem V_iret (C : Cx X cc y (some .int) rm) {v : Int32} (h1 : nc ≤ rm.cells) (h2 : ns ≤ rm.slots) (hd : decode cc pc = .ok (.ireturn, 1)) (hp : post (some (.int v)) S I J) : V X post nc ns pc lv [.int v] S I J := fun ad H locs ls g1 g2 g3 g4 => by
  rw [C.2.2.2.2.2.2.2.2.2.2.2.2.1, C.2.2.2.2.2.2.2.2.2.2.2.2.2.1]
  refine W.widen h1 h2 ?_
  exact W.iret C.1 C.2.1 C.2.2.2.2.2.1 (fun t ht hW => ⟨⟨some (.int v), S, I, J, ad, rfl, hp, g2, by rw [ht]; exact g1⟩, g3.F ht⟩) g3.2.2 hd (hlocks := C.2.2.2.2.2.2.1)
theorem V_lret (C : Cx X cc y (some .long) rm) {v : Int64} (h1 : nc ≤ rm.cells) (h2 : ns ≤ rm.slots) (hd : decode cc pc = .ok (.lreturn, 1)) (hp : post (some (.long v)) S I J) : V X post nc ns pc lv [.long v] S I J := fun ad H locs ls g1 g2 g3 g4 => by
  rw [C.2.2.2.2.2.2.2.2.2.2.2.2.1, C.2.2.2.2.2.2.2.2.2.2.2.2.2.1]
  refine W.widen h1 h2 ?_
  exact W.lret C.1 C.2.1 C.2.2.2.2.2.1 (fun t ht hW => ⟨⟨some (.long v), S, I, J, ad, rfl, hp, g2, by rw [ht]; exact g1⟩, g3.F ht⟩) g3.2.2 hd (hlocks := C.2.2.2.2.2.2.1)
theorem V_zret (C : Cx X cc y (some .boolean) rm) {v : Int32} (hv : v = 0 ∨ v = 1) (h1 : nc ≤ rm.cells) (h2 : ns ≤ rm.slots) (hd : decode cc pc = .ok (.ireturn, 1)) (hp : post (some (.int v)) S I J) : V X post nc ns pc lv [.int v] S I J := fun ad H locs ls g1 g2 g3 g4 => by
  rw [C.2.2.2.2.2.2.2.2.2.2.2.2.1, C.2.2.2.2.2.2.2.2.2.2.2.2.2.1]
  refine W.widen h1 h2 ?_
  exact W.zret C.1 C.2.1 C.2.2.2.2.2.1 (by rcases hv with rfl | rfl <;> rfl) (fun t ht hW => ⟨⟨some (.int v), S, I, J, ad, rfl, hp, g2, by rw [ht]; exact g1⟩, g3.F ht⟩) g3.2.2 hd (hlocks := C.2.2.2.2.2.2.1)
theorem V_vret (C : Cx X cc y none rm) (h1 : nc ≤ rm.cells) (h2 : ns ≤ rm.slots) (hd : decode cc pc = .ok (.return_, 1)) (hp : post none S I J) : V X post nc ns pc lv [] S I J := fun ad H locs ls g1 g2 g3 g4 => by
  rw [C.2.2.2.2.2.2.2.2.2.2.2.2.1, C.2.2.2.2.2.2.2.2.2.2.2.2.2.1]
  refine W.widen h1 h2 ?_
  exact W.vret C.1 C.2.1 C.2.2.2.2.2.1 (fun t ht hW => ⟨⟨none, S, I, J, ad, rfl, hp, g2, by rw [ht]; exact g1⟩, g3.F ht⟩) g3.2.2 hd (hlocks := C.2.2.2.2.2.2.1)
end VH
end
section
/-! rules of V: calls, new cells -/
section VC
/-- what the tables say of a method that is called: instance, static -/
def MI (y : MethodName) (cc : ByteArray) (nL : Nat) (ret : Option FieldType) (n : Nat) : Prop := Cond.instanceMethod y ∈ gtb ∧ Cond.selects y.cls y y ∈ gtb ∧ Cond.initialized y.cls ∈ gtb ∧ Cond.code y cc nL ret ∈ gtb ∧ y.cls ≠ "java/lang/invoke/MethodHandle" ∧ y.cls ≠ "java/lang/invoke/VarHandle" ∧ (parseMethodDescriptor y.desc).map (fun d => d.parameters.length) = some n
def MS (y : MethodName) (cc : ByteArray) (nL : Nat) (ret : Option FieldType) (n : Nat) : Prop := Cond.static y ∈ gtb ∧ Cond.initialized y.cls ∈ gtb ∧ Cond.code y cc nL ret ∈ gtb ∧ y.cls ≠ "java/lang/invoke/MethodHandle" ∧ y.cls ≠ "java/lang/invoke/VarHandle" ∧ (parseMethodDescriptor y.desc).map (fun d => d.parameters.length) = some n
/-- a constructor -/
def MC (y : MethodName) (cc : ByteArray) (nL : Nat) (n : Nat) : Prop := Cond.instanceMethod y ∈ gtb ∧ Cond.initialized y.cls ∈ gtb ∧ Cond.code y cc nL none ∈ gtb ∧ y.name = "<init>" ∧ y.cls ≠ "java/lang/invoke/MethodHandle" ∧ y.cls ≠ "java/lang/invoke/VarHandle" ∧ (parseMethodDescriptor y.desc).map (fun d => d.parameters.length) = some n
def clo (F : Nat → Prop) (v : Value) : Prop := match v with
  | .ref k => F k
  | _ => True
theorem clo_eq {F : Nat → Prop} {ad ad' : Nat → Nat} (h : ∀ k, F k → ad' k = ad k) {v : Value} (hv : clo F v) : vv ad' v = vv ad v := by
  cases v <;> simp [vv]
  exact h _ hv
theorem clo_T (v : Value) : clo (fun _ => True) v := by cases v <;> trivial
theorem Pw_blind {D : va_G} {cy : Nat → ClassId} {B0 : Nat → Prop} {ad : Nat → Nat} {S : HS} {I : HI} {J : HJ} {as : Array Value} : FrameBlind (fun a U => a = as ∧ Pw D cy B0 ad S I J U) := by
  intro a U g mk h
  obtain ⟨h0, h1, h2, h3, h4⟩ := h
  exact ⟨h0, h1, va_K.moved (u := U) (U := U.calling g mk a) (Vm.Alike.refl U.vm) h2, h3, Xt_moved (u := U) (U := U.calling g mk a) (State.WarmedH.refl U) (fun _ _ _ => rfl) h4⟩
variable {X : VX} {cc : ByteArray} {y : MethodName} {ret : Option FieldType} {rm : Room} {post : Option Value → HS → HI → HJ → Prop} {nc ns pc : Nat} {lv : List (Option Value)} {st : List Value} {S : HS} {I : HI} {J : HJ}
theorem Pw_now (C : Cx X cc y ret rm) {ad : Nat → Nat} {H : Heap} {locs : List Loc} {as : Array Value} (h1 : Rl (xD X) (xy X) (xB X) ad S I J H) (h2 : ∀ k, xF X k → ad k = xad X k) (h3 : va_S (xB X) (xs X).heap H locs) : ∀ U : State, U.heap = H → (xs X).WarmedH U.vm → (as = as ∧ Pw (xD X) (xy X) (xB X) ad S I J U) := by
  intro U hU hW
  refine ⟨rfl, by rw [hU]; exact h1, va_K.moved hW.alike C.2.2.2.2.2.2.2.1, ?_, ?_⟩
  · intro q hq; rw [hU] at hq; exact C.2.2.2.2.2.2.2.2.1 q (Nat.le_trans h3.1 hq)
  · exact Xt_ad (fun k hk => h2 k (C.2.2.2.2.2.2.2.2.2.2.2.2.2.2 k hk)) (Xt_moved hW (fun q hq hn => by rw [hU]; exact h3.2.1 q hq hn) C.2.2.2.2.2.2.2.2.2.1)
theorem V_run {F : Nat → Prop} {post' : Option Value → HS → HI → HJ → Prop} {mc ms : Nat} {rest : List Value} (hFX : ∀ k, xF X k → F k) (hcl : ∀ v, (some v ∈ lv ∨ v ∈ rest) → clo F v)
    (hrun : ∀ (ad : Nat → Nat) (H : Heap) (locs : List Loc) (ls : Array Slot), Rl (xD X) (xy X) (xB X) ad S I J H → (∀ k, xF X k → ad k = xad X k) → va_S (xB X) (xs X).heap H locs → LvR ad ls (xn X) lv → ∃ as : Array Value, va_Run (xp X) (xl X) (xe X) (xR X) (xs X) (xm X) (xa X) (xb X) (xh X) (xc X) H locs nc ns mc ms (F0 (xm X) pc ls (st.map (vv ad))) (rest.map (vv ad)) (Qw (xD X) (xy X) (xB X) ad F post' as) (xB X))
    (k : ∀ v S' I' J', post' v S' I' J' → V X post (nc + mc) (ns + ms) (pc + 3) lv (v.toList ++ rest) S' I' J') : V X post nc ns pc lv st S I J := fun ad H locs ls h1 h2 h3 h4 => by
  obtain ⟨as, hr⟩ := hrun ad H locs ls h1 h2 h3 h4
  intro T hT X0
  obtain ⟨v, st₀, t, T', L, h0, X', hL, e1, e2, ⟨⟨v', S', I', J', ad', hv, hp, hF, hR⟩, hz, hk⟩, hgo⟩ := hr T hT X0
  cases hv
  rw [h0] at hz hk
  have hK := k v' S' I' J' hp ad' T'.heap (locs ++ L) ls (by rw [e1]; exact hR) (fun q hq => (hF q (hFX q hq)).trans (h2 q hq))
    ⟨Nat.le_trans h3.1 (by rw [e1]; exact hz), fun q g1 g2 => by rw [e1, hk q (Nat.lt_of_lt_of_le g1 h3.1) g2]; exact h3.2.1 q g1 g2, fun q hq => by
      rcases List.mem_append.mp hq with h | h
      · exact h3.2.2 q h
      · exact hL q h⟩
    ⟨h4.1, h4.2.1, fun i w hw => by rw [clo_eq hF (hcl w (Or.inl (List.mem_of_getElem? hw)))]; exact h4.2.2 i w hw⟩
  have e : (v'.toList ++ rest).map (vv ad') = (v'.map (vv ad')).toList ++ rest.map (vv ad) := by
    rw [List.map_append]
    have e3 : rest.map (vv ad') = rest.map (vv ad) := List.map_congr_left (fun w hw => clo_eq hF (hcl w (Or.inr hw)))
    rw [e3]
    cases v' <;> rfl
  rw [e] at hK
  obtain ⟨t2, a1, b1⟩ := hK T' rfl X'
  exact ⟨t2, hgo t2 a1, b1⟩
theorem cat_vv (ad : Nat → Nat) (l : List Value) : ((l.map (vv ad)).map fun v => v.category) = l.map fun v => v.category := by
  rw [List.map_map]
  exact List.map_congr_left (fun v _ => vv_cat ad v)
theorem V_callV {F : Nat → Prop} (C : Cx X cc y ret rm) {ix ci a nL' n : Nat} {y' : MethodName} {cc' : ByteArray} {ret' : Option FieldType} {rm' : Room} {As rest : List Value} {post' : Option Value → HS → HI → HJ → Prop} (hM : Mt (xl X) y' cc' nL' ret' rm' F (.ref a :: As) S I J post') (hy : MI y' cc' nL' ret' n) (hl : Cond.methodLink y.cls ix y' ∈ gtb) (hn : As.length = n) (hK : S.1 a = ci + 1) (hci : ci < 8 ∧ Rc ci = y'.cls) (hr : rm'.frames + 1 ≤ rm.frames ∧ 8 + (nL' + 11) + rm'.locals ≤ rm.locals) (hc : nc + rm'.cells ≤ rm.cells ∧ ns + rm'.slots ≤ rm.slots) (hw : (rest.map fun v => v.category).sum ≤ 8) (hFX : ∀ k, xF X k → F k) (hcl : ∀ v, (some v ∈ lv ∨ v ∈ rest) → clo F v) (hst : st = As.reverse ++ .ref a :: rest) (hd : decode cc pc = .ok (.invokevirtual ix, 3))
    (k : ∀ v S' I' J', post' v S' I' J' → V X post (nc + rm'.cells) (ns + rm'.slots) (pc + 3) lv (v.toList ++ rest) S' I' J') : V X post nc ns pc lv st S I J := by
  refine V_run hFX hcl (fun ad H locs ls h1 h2 h3 h4 => ?_) k
  obtain ⟨L, n1, n2, hP, hD⟩ := id h1
  obtain ⟨q0, -, hq⟩ := wsl_get (cy := xy X) (ad := ad) (S := S) (I := I) (J := J) ((n2 a).mpr (by rw [hK]; omega))
  rw [cel_o hK hci.1] at hq
  obtain ⟨c1, -⟩ := cl_ok ci hci.1
  have hrecv := va_recv C.2.2.2.2.2.2.2.1 hP c1 hq
  rw [show ((Rc ci, Tc ci, nf ci) : vw_C).1 = y'.cls from hci.2] at hrecv
  have hts := C.2.2.2.2.1
  have hRR := C.2.2.2.2.2.2.2.2.2.2.1
  refine ⟨_, va_runV (Ts := gtb) (C := y'.cls) (b := ad a) (As := As.map (vv ad)) ⟨C.1, C.2.1, C.2.2.1, C.2.2.2.1, hts⟩ (hM (xD X) (xy X) (xB X) ad)
    ⟨callB_of (R := xR X) n hts (gtb_code hy.2.2.2.1) rfl rfl rfl (hts _ hy.2.2.1) (hts _ hl) hy.2.2.2.2 (by rw [hRR]; exact hr), hts _ hy.1, hts _ hy.2.1⟩
    ⟨Pw_blind, hrecv, Pw_now C h1 h2 h3⟩ rfl (by rw [List.length_map]; exact hn) h4.1 ?_ ?_ hd (by rw [hRR]; exact hc)⟩
  · show st.map (vv ad) = _
    rw [hst, List.map_append, List.map_reverse]
    rfl
  · refine lv_room ?_
    rw [cat_vv]
    exact hw
theorem V_callS {F : Nat → Prop} (C : Cx X cc y ret rm) {ix nL' n : Nat} {y' : MethodName} {cc' : ByteArray} {ret' : Option FieldType} {rm' : Room} {As rest : List Value} {post' : Option Value → HS → HI → HJ → Prop} (hM : Mt (xl X) y' cc' nL' ret' rm' F As S I J post') (hy : MS y' cc' nL' ret' n) (hl : Cond.methodLink y.cls ix y' ∈ gtb) (hn : As.length = n) (hr : rm'.frames + 1 ≤ rm.frames ∧ 8 + (nL' + 11) + rm'.locals ≤ rm.locals) (hc : nc + rm'.cells ≤ rm.cells ∧ ns + rm'.slots ≤ rm.slots) (hw : (rest.map fun v => v.category).sum ≤ 8) (hFX : ∀ k, xF X k → F k) (hcl : ∀ v, (some v ∈ lv ∨ v ∈ rest) → clo F v) (hst : st = As.reverse ++ rest) (hd : decode cc pc = .ok (.invokestatic ix, 3))
    (k : ∀ v S' I' J', post' v S' I' J' → V X post (nc + rm'.cells) (ns + rm'.slots) (pc + 3) lv (v.toList ++ rest) S' I' J') : V X post nc ns pc lv st S I J := by
  refine V_run hFX hcl (fun ad H locs ls h1 h2 h3 h4 => ?_) k
  have hts := C.2.2.2.2.1
  have hRR := C.2.2.2.2.2.2.2.2.2.2.1
  refine ⟨_, va_runS (Ts := gtb) (As := As.map (vv ad)) ⟨C.1, C.2.1, C.2.2.1, C.2.2.2.1, hts⟩ (hM (xD X) (xy X) (xB X) ad)
    ⟨callB_of (R := xR X) n hts (gtb_code hy.2.2.1) rfl rfl rfl (hts _ hy.2.1) (hts _ hl) hy.2.2.2 (by rw [hRR]; exact hr), hts _ hy.1⟩
    ⟨Pw_blind, Pw_now C h1 h2 h3⟩ rfl (by rw [List.length_map]; exact hn) h4.1 ?_ ?_ hd (by rw [hRR]; exact hc)⟩
  · show st.map (vv ad) = _
    rw [hst, List.map_append, List.map_reverse]
  · refine lv_room ?_
    rw [cat_vv]
    exact hw
/-- a nest mate's private static method -/
theorem V_callSN {F : Nat → Prop} (C : Cx X cc y ret rm) {ix nL' n : Nat} {host : String} {y' : MethodName} {cc' : ByteArray} {ret' : Option FieldType} {rm' : Room} {As rest : List Value} {post' : Option Value → HS → HI → HJ → Prop} (hM : Mt (xl X) y' cc' nL' ret' rm' F As S I J post') (hy : MS y' cc' nL' ret' n) (hl : XtN (xs X) → va_Nw (.methodLinkNest y.cls ix y' host) (xs X)) (hn : As.length = n) (hr : rm'.frames + 1 ≤ rm.frames ∧ 8 + (nL' + 11) + rm'.locals ≤ rm.locals) (hc : nc + rm'.cells ≤ rm.cells ∧ ns + rm'.slots ≤ rm.slots) (hw : (rest.map fun v => v.category).sum ≤ 8) (hFX : ∀ k, xF X k → F k) (hcl : ∀ v, (some v ∈ lv ∨ v ∈ rest) → clo F v) (hst : st = As.reverse ++ rest) (hd : decode cc pc = .ok (.invokestatic ix, 3))
    (k : ∀ v S' I' J', post' v S' I' J' → V X post (nc + rm'.cells) (ns + rm'.slots) (pc + 3) lv (v.toList ++ rest) S' I' J') : V X post nc ns pc lv st S I J := by
  refine V_run hFX hcl (fun ad H locs ls h1 h2 h3 h4 => ?_) k
  have hts := C.2.2.2.2.1
  have hRR := C.2.2.2.2.2.2.2.2.2.2.1
  refine ⟨_, va_runSN (Ts := gtb) (As := As.map (vv ad)) ⟨C.1, C.2.1, C.2.2.1, C.2.2.2.1, hts⟩ (hM (xD X) (xy X) (xB X) ad)
    ⟨va_cnB (R := xR X) n hts (gtb_code hy.2.2.1) rfl rfl rfl (hl C.2.2.2.2.2.2.2.2.2.1.1) (hts _ hy.2.1) hy.2.2.2 (by rw [hRR]; exact hr), hts _ hy.1, trivial⟩
    ⟨Pw_blind, Pw_now C h1 h2 h3⟩ rfl (by rw [List.length_map]; exact hn) h4.1 ?_ ?_ hd (by rw [hRR]; exact hc)⟩
  · show st.map (vv ad) = _
    rw [hst, List.map_append, List.map_reverse]
  · refine lv_room ?_
    rw [cat_vv]
    exact hw
theorem V_callI {F : Nat → Prop} (C : Cx X cc y ret rm) {ix a nL' n : Nat} {y' : MethodName} {cc' : ByteArray} {rm' : Room} {As rest : List Value} {post' : Option Value → HS → HI → HJ → Prop} (hM : Mt (xl X) y' cc' nL' none rm' F (.ref a :: As) S I J post') (hy : MC y' cc' nL' n) (hl : Cond.methodLink y.cls ix y' ∈ gtb) (hn : As.length = n) (hr : rm'.frames + 1 ≤ rm.frames ∧ 8 + (nL' + 11) + rm'.locals ≤ rm.locals) (hc : nc + rm'.cells ≤ rm.cells ∧ ns + rm'.slots ≤ rm.slots) (hw : (rest.map fun v => v.category).sum ≤ 8) (hFX : ∀ k, xF X k → F k) (hcl : ∀ v, (some v ∈ lv ∨ v ∈ rest) → clo F v) (hst : st = As.reverse ++ .ref a :: rest) (hd : decode cc pc = .ok (.invokespecial ix, 3))
    (k : ∀ v S' I' J', post' v S' I' J' → V X post (nc + rm'.cells) (ns + rm'.slots) (pc + 3) lv (v.toList ++ rest) S' I' J') : V X post nc ns pc lv st S I J := by
  refine V_run hFX hcl (fun ad H locs ls h1 h2 h3 h4 => ?_) k
  have hts := C.2.2.2.2.1
  have hRR := C.2.2.2.2.2.2.2.2.2.2.1
  refine ⟨_, va_runI (Ts := gtb) (b := ad a) (As := As.map (vv ad)) ⟨C.1, C.2.1, C.2.2.1, C.2.2.2.1, hts⟩ (hM (xD X) (xy X) (xB X) ad)
    ⟨callB_of (R := xR X) n hts (gtb_code hy.2.2.1) rfl rfl rfl (hts _ hy.2.1) (hts _ hl) hy.2.2.2.2 (by rw [hRR]; exact hr), hy.2.2.2.1, hts _ hy.1⟩
    ⟨Pw_blind, Pw_now C h1 h2 h3⟩ rfl (by rw [List.length_map]; exact hn) h4.1 ?_ ?_ hd (by rw [hRR]; exact hc)⟩
  · show st.map (vv ad) = _
    rw [hst, List.map_append, List.map_reverse]
    rfl
  · refine lv_room ?_
    rw [cat_vv]
    exact hw
theorem V_callIN {F : Nat → Prop} (C : Cx X cc y ret rm) {ix a nL' n : Nat} {host : String} {y' : MethodName} {cc' : ByteArray} {rm' : Room} {As rest : List Value} {post' : Option Value → HS → HI → HJ → Prop} (hM : Mt (xl X) y' cc' nL' none rm' F (.ref a :: As) S I J post') (hy : MC y' cc' nL' n) (hl : XtN (xs X) → va_Nw (.methodLinkNest y.cls ix y' host) (xs X)) (hn : As.length = n) (hr : rm'.frames + 1 ≤ rm.frames ∧ 8 + (nL' + 11) + rm'.locals ≤ rm.locals) (hc : nc + rm'.cells ≤ rm.cells ∧ ns + rm'.slots ≤ rm.slots) (hw : (rest.map fun v => v.category).sum ≤ 8) (hFX : ∀ k, xF X k → F k) (hcl : ∀ v, (some v ∈ lv ∨ v ∈ rest) → clo F v) (hst : st = As.reverse ++ .ref a :: rest) (hd : decode cc pc = .ok (.invokespecial ix, 3))
    (k : ∀ v S' I' J', post' v S' I' J' → V X post (nc + rm'.cells) (ns + rm'.slots) (pc + 3) lv (v.toList ++ rest) S' I' J') : V X post nc ns pc lv st S I J := by
  refine V_run hFX hcl (fun ad H locs ls h1 h2 h3 h4 => ?_) k
  have hts := C.2.2.2.2.1
  have hRR := C.2.2.2.2.2.2.2.2.2.2.1
  refine ⟨_, va_runIN (Ts := gtb) (b := ad a) (As := As.map (vv ad)) ⟨C.1, C.2.1, C.2.2.1, C.2.2.2.1, hts⟩ (hM (xD X) (xy X) (xB X) ad)
    ⟨va_cnB (R := xR X) n hts (gtb_code hy.2.2.1) rfl rfl rfl (hl C.2.2.2.2.2.2.2.2.2.1.1) (hts _ hy.2.1) hy.2.2.2.2 (by rw [hRR]; exact hr), hy.2.2.2.1, hts _ hy.1⟩
    ⟨Pw_blind, Pw_now C h1 h2 h3⟩ rfl (by rw [List.length_map]; exact hn) h4.1 ?_ ?_ hd (by rw [hRR]; exact hc)⟩
  · show st.map (vv ad) = _
    rw [hst, List.map_append, List.map_reverse]
    rfl
  · refine lv_room ?_
    rw [cat_vv]
    exact hw
theorem w_oc : Cond.code objectInit ⟨#[0xb1]⟩ 1 none ∈ gtb := by decide +kernel
theorem w_oi : Cond.instanceMethod objectInit ∈ gtb := by decide +kernel
theorem V_objInit (C : Cx X cc y ret rm) {ix a : Nat} (hl : Cond.methodLink y.cls ix objectInit ∈ gtb) (hf : 1 ≤ rm.frames) (hw : (st.map fun v => v.category).sum + 12 ≤ rm.locals) (hd : decode cc pc = .ok (.invokespecial ix, 3)) (k : V X post nc ns (pc + 3) lv st S I J) : V X post nc ns pc lv (.ref a :: st) S I J := fun ad H locs ls h1 h2 h3 h4 => by
  have hts := C.2.2.2.2.1
  have hRR := C.2.2.2.2.2.2.2.2.2.2.1
  refine W.objInit (rest := st.map (vv ad)) C.1 C.2.1 C.2.2.2.1 (hts _ hl) (hts _ w_oi) (hts _ w_oc) rfl (by rw [C.2.2.1]; exact h4.1) rfl hd (by rw [hRR]; exact hf) ?_ ?_
  · rw [hRR, cat_vv]
    have : 2 * (F0 (xm X) pc ls ((Value.ref a :: st).map (vv ad))).monitorRoom = 0 := rfl
    omega
  · exact k ad H locs ls h1 h2 h3 h4
end VC
end
