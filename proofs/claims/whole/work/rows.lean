section
-- ===== PART A: goes FIRST, ahead of the names: the tables' words, and 'selects' of the private methods out of them =====
/-- a private method of a class that the tables say can be made, by its rows of tables_1 -/
def lw_okq (q : MethodName × Nat) : Prop := (q.1.cls ≠ "java/lang/invoke/MethodHandle" ∧ q.1.cls ≠ "java/lang/invoke/VarHandle") ∧ Cond.instantiable q.1.cls q.2 ∈ tables_1 ∧ Cond.privateMethod q.1 ∈ tables_1 ∧ Cond.instanceMethod q.1 ∈ tables_1
theorem lw_p0 : lw_okq (⟨"NarrowingPacker", "writeSource", "()V"⟩, 12) := ⟨⟨by decide +kernel, by decide +kernel⟩, List.mem_of_getElem? (i := 24) (by decide +kernel), List.mem_of_getElem? (i := 383) (by decide +kernel), List.mem_of_getElem? (i := 384) (by decide +kernel)⟩
theorem lw_p1 : lw_okq (⟨"NarrowingPacker$Chooser", "findMatch", "(LNarrowingPacker$Bytes;I)V"⟩, 5) := ⟨⟨by decide +kernel, by decide +kernel⟩, List.mem_of_getElem? (i := 138) (by decide +kernel), List.mem_of_getElem? (i := 391) (by decide +kernel), List.mem_of_getElem? (i := 392) (by decide +kernel)⟩
theorem lw_p2 : lw_okq (⟨"NarrowingPacker$Chooser", "findEcho", "(LNarrowingPacker$Bytes;I[I)V"⟩, 5) := ⟨⟨by decide +kernel, by decide +kernel⟩, List.mem_of_getElem? (i := 138) (by decide +kernel), List.mem_of_getElem? (i := 398) (by decide +kernel), List.mem_of_getElem? (i := 399) (by decide +kernel)⟩
theorem lw_p3 : lw_okq (⟨"NarrowingPacker$Packet", "become", "(III)V"⟩, 5) := ⟨⟨by decide +kernel, by decide +kernel⟩, List.mem_of_getElem? (i := 74) (by decide +kernel), List.mem_of_getElem? (i := 406) (by decide +kernel), List.mem_of_getElem? (i := 407) (by decide +kernel)⟩
theorem lw_p4 : lw_okq (⟨"NarrowingPacker$Narrower", "raiseLow", "(J)V"⟩, 4) := ⟨⟨by decide +kernel, by decide +kernel⟩, List.mem_of_getElem? (i := 172) (by decide +kernel), List.mem_of_getElem? (i := 435) (by decide +kernel), List.mem_of_getElem? (i := 436) (by decide +kernel)⟩
theorem lw_p5 : lw_okq (⟨"NarrowingPacker$PacketWriter", "writeLiteral", "(ILNarrowingPacker$History;)V"⟩, 1) := ⟨⟨by decide +kernel, by decide +kernel⟩, List.mem_of_getElem? (i := 166) (by decide +kernel), List.mem_of_getElem? (i := 445) (by decide +kernel), List.mem_of_getElem? (i := 446) (by decide +kernel)⟩
theorem lw_p6 : lw_okq (⟨"NarrowingPacker$PacketWriter", "writeMatch", "(LNarrowingPacker$Packet;)V"⟩, 1) := ⟨⟨by decide +kernel, by decide +kernel⟩, List.mem_of_getElem? (i := 166) (by decide +kernel), List.mem_of_getElem? (i := 462) (by decide +kernel), List.mem_of_getElem? (i := 463) (by decide +kernel)⟩
theorem lw_p7 : lw_okq (⟨"NarrowingPacker$PacketWriter", "writeLength", "(II)V"⟩, 1) := ⟨⟨by decide +kernel, by decide +kernel⟩, List.mem_of_getElem? (i := 166) (by decide +kernel), List.mem_of_getElem? (i := 469) (by decide +kernel), List.mem_of_getElem? (i := 470) (by decide +kernel)⟩
theorem lw_p8 : lw_okq (⟨"NarrowingPacker$PacketWriter", "writeEnd", "()V"⟩, 1) := ⟨⟨by decide +kernel, by decide +kernel⟩, List.mem_of_getElem? (i := 166) (by decide +kernel), List.mem_of_getElem? (i := 483) (by decide +kernel), List.mem_of_getElem? (i := 484) (by decide +kernel)⟩
theorem lw_p9 : lw_okq (⟨"NarrowingPacker$PacketWriter", "writeRepeat", "(LNarrowingPacker$Packet;I)V"⟩, 1) := ⟨⟨by decide +kernel, by decide +kernel⟩, List.mem_of_getElem? (i := 166) (by decide +kernel), List.mem_of_getElem? (i := 487) (by decide +kernel), List.mem_of_getElem? (i := 488) (by decide +kernel)⟩
theorem lw_p10 : lw_okq (⟨"NarrowingPacker$History", "repeat", "(II)V"⟩, 3) := ⟨⟨by decide +kernel, by decide +kernel⟩, List.mem_of_getElem? (i := 113) (by decide +kernel), List.mem_of_getElem? (i := 496) (by decide +kernel), List.mem_of_getElem? (i := 497) (by decide +kernel)⟩
theorem lw_p11 : lw_okq (⟨"NarrowingPacker$History", "bringToFront", "(II)V"⟩, 3) := ⟨⟨by decide +kernel, by decide +kernel⟩, List.mem_of_getElem? (i := 113) (by decide +kernel), List.mem_of_getElem? (i := 500) (by decide +kernel), List.mem_of_getElem? (i := 501) (by decide +kernel)⟩
theorem lw_p12 : lw_okq (⟨"NarrowingPacker$History", "stateBehind", "(I)I"⟩, 3) := ⟨⟨by decide +kernel, by decide +kernel⟩, List.mem_of_getElem? (i := 113) (by decide +kernel), List.mem_of_getElem? (i := 504) (by decide +kernel), List.mem_of_getElem? (i := 505) (by decide +kernel)⟩
theorem lw_p13 : lw_okq (⟨"NarrowingPacker$History", "stateBehindLiteral", "()I"⟩, 3) := ⟨⟨by decide +kernel, by decide +kernel⟩, List.mem_of_getElem? (i := 113) (by decide +kernel), List.mem_of_getElem? (i := 508) (by decide +kernel), List.mem_of_getElem? (i := 509) (by decide +kernel)⟩
theorem lw_p14 : lw_okq (⟨"java/lang/Throwable", "fillInStackTrace", "(I)Ljava/lang/Throwable;"⟩, 6) := ⟨⟨by decide +kernel, by decide +kernel⟩, List.mem_of_getElem? (i := 564) (by decide +kernel), List.mem_of_getElem? (i := 562) (by decide +kernel), List.mem_of_getElem? (i := 563) (by decide +kernel)⟩
theorem lw_p15 : lw_okq (⟨"NarrowingPacker", "keepPacking", "(LNarrowingPacker$Narrower;)V"⟩, 12) := ⟨⟨by decide +kernel, by decide +kernel⟩, List.mem_of_getElem? (i := 24) (by decide +kernel), List.mem_of_getElem? (i := 594) (by decide +kernel), List.mem_of_getElem? (i := 595) (by decide +kernel)⟩
def lw_privs_1 : List (MethodName × Nat) := [(⟨"NarrowingPacker", "writeSource", "()V"⟩, 12), (⟨"NarrowingPacker$Chooser", "findMatch", "(LNarrowingPacker$Bytes;I)V"⟩, 5), (⟨"NarrowingPacker$Chooser", "findEcho", "(LNarrowingPacker$Bytes;I[I)V"⟩, 5), (⟨"NarrowingPacker$Packet", "become", "(III)V"⟩, 5), (⟨"NarrowingPacker$Narrower", "raiseLow", "(J)V"⟩, 4), (⟨"NarrowingPacker$PacketWriter", "writeLiteral", "(ILNarrowingPacker$History;)V"⟩, 1), (⟨"NarrowingPacker$PacketWriter", "writeMatch", "(LNarrowingPacker$Packet;)V"⟩, 1), (⟨"NarrowingPacker$PacketWriter", "writeLength", "(II)V"⟩, 1), (⟨"NarrowingPacker$PacketWriter", "writeEnd", "()V"⟩, 1), (⟨"NarrowingPacker$PacketWriter", "writeRepeat", "(LNarrowingPacker$Packet;I)V"⟩, 1), (⟨"NarrowingPacker$History", "repeat", "(II)V"⟩, 3), (⟨"NarrowingPacker$History", "bringToFront", "(II)V"⟩, 3), (⟨"NarrowingPacker$History", "stateBehind", "(I)I"⟩, 3), (⟨"NarrowingPacker$History", "stateBehindLiteral", "()I"⟩, 3), (⟨"java/lang/Throwable", "fillInStackTrace", "(I)Ljava/lang/Throwable;"⟩, 6), (⟨"NarrowingPacker", "keepPacking", "(LNarrowingPacker$Narrower;)V"⟩, 12)]
theorem lw_r1 : ∀ q ∈ lw_privs_1, lw_okq q := List.forall_mem_cons.mpr ⟨lw_p0, List.forall_mem_cons.mpr ⟨lw_p1, List.forall_mem_cons.mpr ⟨lw_p2, List.forall_mem_cons.mpr ⟨lw_p3, List.forall_mem_cons.mpr ⟨lw_p4, List.forall_mem_cons.mpr ⟨lw_p5, List.forall_mem_cons.mpr ⟨lw_p6, List.forall_mem_cons.mpr ⟨lw_p7, List.forall_mem_cons.mpr ⟨lw_p8, List.forall_mem_cons.mpr ⟨lw_p9, List.forall_mem_cons.mpr ⟨lw_p10, List.forall_mem_cons.mpr ⟨lw_p11, List.forall_mem_cons.mpr ⟨lw_p12, List.forall_mem_cons.mpr ⟨lw_p13, List.forall_mem_cons.mpr ⟨lw_p14, List.forall_mem_cons.mpr ⟨lw_p15, fun _ h => absurd h List.not_mem_nil⟩⟩⟩⟩⟩⟩⟩⟩⟩⟩⟩⟩⟩⟩⟩⟩
theorem lw_p16 : lw_okq (⟨"NarrowingPacker$Follower", "takeByte", "()V"⟩, 5) := ⟨⟨by decide +kernel, by decide +kernel⟩, List.mem_of_getElem? (i := 216) (by decide +kernel), List.mem_of_getElem? (i := 672) (by decide +kernel), List.mem_of_getElem? (i := 673) (by decide +kernel)⟩
theorem lw_p17 : lw_okq (⟨"NarrowingPacker$PacketReader", "readLiteral", "(LNarrowingPacker$History;)I"⟩, 1) := ⟨⟨by decide +kernel, by decide +kernel⟩, List.mem_of_getElem? (i := 210) (by decide +kernel), List.mem_of_getElem? (i := 707) (by decide +kernel), List.mem_of_getElem? (i := 708) (by decide +kernel)⟩
theorem lw_p18 : lw_okq (⟨"NarrowingPacker$PacketReader", "readMatchOrEnd", "(LNarrowingPacker$Packet;)V"⟩, 1) := ⟨⟨by decide +kernel, by decide +kernel⟩, List.mem_of_getElem? (i := 210) (by decide +kernel), List.mem_of_getElem? (i := 715) (by decide +kernel), List.mem_of_getElem? (i := 716) (by decide +kernel)⟩
theorem lw_p19 : lw_okq (⟨"NarrowingPacker$PacketReader", "readLength", "(I)I"⟩, 1) := ⟨⟨by decide +kernel, by decide +kernel⟩, List.mem_of_getElem? (i := 210) (by decide +kernel), List.mem_of_getElem? (i := 719) (by decide +kernel), List.mem_of_getElem? (i := 720) (by decide +kernel)⟩
theorem lw_p20 : lw_okq (⟨"NarrowingPacker$PacketReader", "readDistance", "(I)I"⟩, 1) := ⟨⟨by decide +kernel, by decide +kernel⟩, List.mem_of_getElem? (i := 210) (by decide +kernel), List.mem_of_getElem? (i := 733) (by decide +kernel), List.mem_of_getElem? (i := 734) (by decide +kernel)⟩
theorem lw_p21 : lw_okq (⟨"NarrowingPacker$PacketReader", "readRepeat", "(LNarrowingPacker$Packet;I[I)V"⟩, 1) := ⟨⟨by decide +kernel, by decide +kernel⟩, List.mem_of_getElem? (i := 210) (by decide +kernel), List.mem_of_getElem? (i := 742) (by decide +kernel), List.mem_of_getElem? (i := 743) (by decide +kernel)⟩
theorem lw_p22 : lw_okq (⟨"NarrowingPacker", "refuseWhatCannotBeTold", "()V"⟩, 12) := ⟨⟨by decide +kernel, by decide +kernel⟩, List.mem_of_getElem? (i := 24) (by decide +kernel), List.mem_of_getElem? (i := 748) (by decide +kernel), List.mem_of_getElem? (i := 749) (by decide +kernel)⟩
theorem lw_p23 : lw_okq (⟨"NarrowingPackerModel", "begin", "(Z)V"⟩, 34) := ⟨⟨by decide +kernel, by decide +kernel⟩, List.mem_of_getElem? (i := 759) (by decide +kernel), List.mem_of_getElem? (i := 887) (by decide +kernel), List.mem_of_getElem? (i := 888) (by decide +kernel)⟩
theorem lw_p24 : lw_okq (⟨"NarrowingPackerModel", "choose", "()V"⟩, 34) := ⟨⟨by decide +kernel, by decide +kernel⟩, List.mem_of_getElem? (i := 759) (by decide +kernel), List.mem_of_getElem? (i := 892) (by decide +kernel), List.mem_of_getElem? (i := 893) (by decide +kernel)⟩
theorem lw_p25 : lw_okq (⟨"NarrowingPackerModel", "agree", "(II)I"⟩, 34) := ⟨⟨by decide +kernel, by decide +kernel⟩, List.mem_of_getElem? (i := 759) (by decide +kernel), List.mem_of_getElem? (i := 896) (by decide +kernel), List.mem_of_getElem? (i := 897) (by decide +kernel)⟩
theorem lw_p26 : lw_okq (⟨"NarrowingPackerModel", "packet", "()Z"⟩, 34) := ⟨⟨by decide +kernel, by decide +kernel⟩, List.mem_of_getElem? (i := 759) (by decide +kernel), List.mem_of_getElem? (i := 900) (by decide +kernel), List.mem_of_getElem? (i := 901) (by decide +kernel)⟩
theorem lw_p27 : lw_okq (⟨"NarrowingPackerModel", "bit", "(II)I"⟩, 34) := ⟨⟨by decide +kernel, by decide +kernel⟩, List.mem_of_getElem? (i := 759) (by decide +kernel), List.mem_of_getElem? (i := 904) (by decide +kernel), List.mem_of_getElem? (i := 905) (by decide +kernel)⟩
theorem lw_p28 : lw_okq (⟨"NarrowingPackerModel", "grow", "(J)V"⟩, 34) := ⟨⟨by decide +kernel, by decide +kernel⟩, List.mem_of_getElem? (i := 759) (by decide +kernel), List.mem_of_getElem? (i := 909) (by decide +kernel), List.mem_of_getElem? (i := 910) (by decide +kernel)⟩
theorem lw_p29 : lw_okq (⟨"NarrowingPackerModel", "widen", "()V"⟩, 34) := ⟨⟨by decide +kernel, by decide +kernel⟩, List.mem_of_getElem? (i := 759) (by decide +kernel), List.mem_of_getElem? (i := 914) (by decide +kernel), List.mem_of_getElem? (i := 915) (by decide +kernel)⟩
theorem lw_p30 : lw_okq (⟨"NarrowingPackerModel", "read", "()V"⟩, 34) := ⟨⟨by decide +kernel, by decide +kernel⟩, List.mem_of_getElem? (i := 759) (by decide +kernel), List.mem_of_getElem? (i := 919) (by decide +kernel), List.mem_of_getElem? (i := 920) (by decide +kernel)⟩
theorem lw_p31 : lw_okq (⟨"NarrowingPackerModel", "literal", "(I)I"⟩, 34) := ⟨⟨by decide +kernel, by decide +kernel⟩, List.mem_of_getElem? (i := 759) (by decide +kernel), List.mem_of_getElem? (i := 923) (by decide +kernel), List.mem_of_getElem? (i := 924) (by decide +kernel)⟩
def lw_privs_2 : List (MethodName × Nat) := [(⟨"NarrowingPacker$Follower", "takeByte", "()V"⟩, 5), (⟨"NarrowingPacker$PacketReader", "readLiteral", "(LNarrowingPacker$History;)I"⟩, 1), (⟨"NarrowingPacker$PacketReader", "readMatchOrEnd", "(LNarrowingPacker$Packet;)V"⟩, 1), (⟨"NarrowingPacker$PacketReader", "readLength", "(I)I"⟩, 1), (⟨"NarrowingPacker$PacketReader", "readDistance", "(I)I"⟩, 1), (⟨"NarrowingPacker$PacketReader", "readRepeat", "(LNarrowingPacker$Packet;I[I)V"⟩, 1), (⟨"NarrowingPacker", "refuseWhatCannotBeTold", "()V"⟩, 12), (⟨"NarrowingPackerModel", "begin", "(Z)V"⟩, 34), (⟨"NarrowingPackerModel", "choose", "()V"⟩, 34), (⟨"NarrowingPackerModel", "agree", "(II)I"⟩, 34), (⟨"NarrowingPackerModel", "packet", "()Z"⟩, 34), (⟨"NarrowingPackerModel", "bit", "(II)I"⟩, 34), (⟨"NarrowingPackerModel", "grow", "(J)V"⟩, 34), (⟨"NarrowingPackerModel", "widen", "()V"⟩, 34), (⟨"NarrowingPackerModel", "read", "()V"⟩, 34), (⟨"NarrowingPackerModel", "literal", "(I)I"⟩, 34)]
theorem lw_r2 : ∀ q ∈ lw_privs_2, lw_okq q := List.forall_mem_cons.mpr ⟨lw_p16, List.forall_mem_cons.mpr ⟨lw_p17, List.forall_mem_cons.mpr ⟨lw_p18, List.forall_mem_cons.mpr ⟨lw_p19, List.forall_mem_cons.mpr ⟨lw_p20, List.forall_mem_cons.mpr ⟨lw_p21, List.forall_mem_cons.mpr ⟨lw_p22, List.forall_mem_cons.mpr ⟨lw_p23, List.forall_mem_cons.mpr ⟨lw_p24, List.forall_mem_cons.mpr ⟨lw_p25, List.forall_mem_cons.mpr ⟨lw_p26, List.forall_mem_cons.mpr ⟨lw_p27, List.forall_mem_cons.mpr ⟨lw_p28, List.forall_mem_cons.mpr ⟨lw_p29, List.forall_mem_cons.mpr ⟨lw_p30, List.forall_mem_cons.mpr ⟨lw_p31, fun _ h => absurd h List.not_mem_nil⟩⟩⟩⟩⟩⟩⟩⟩⟩⟩⟩⟩⟩⟩⟩⟩
theorem lw_p32 : lw_okq (⟨"NarrowingPackerModel", "tree", "(III)I"⟩, 34) := ⟨⟨by decide +kernel, by decide +kernel⟩, List.mem_of_getElem? (i := 759) (by decide +kernel), List.mem_of_getElem? (i := 927) (by decide +kernel), List.mem_of_getElem? (i := 928) (by decide +kernel)⟩
theorem lw_p33 : lw_okq (⟨"NarrowingPackerModel", "tellLiteral", "(I)V"⟩, 34) := ⟨⟨by decide +kernel, by decide +kernel⟩, List.mem_of_getElem? (i := 759) (by decide +kernel), List.mem_of_getElem? (i := 931) (by decide +kernel), List.mem_of_getElem? (i := 932) (by decide +kernel)⟩
theorem lw_p34 : lw_okq (⟨"NarrowingPackerModel", "note", "(III)V"⟩, 34) := ⟨⟨by decide +kernel, by decide +kernel⟩, List.mem_of_getElem? (i := 759) (by decide +kernel), List.mem_of_getElem? (i := 935) (by decide +kernel), List.mem_of_getElem? (i := 936) (by decide +kernel)⟩
theorem lw_p35 : lw_okq (⟨"NarrowingPackerModel", "tell", "(I)V"⟩, 34) := ⟨⟨by decide +kernel, by decide +kernel⟩, List.mem_of_getElem? (i := 759) (by decide +kernel), List.mem_of_getElem? (i := 939) (by decide +kernel), List.mem_of_getElem? (i := 940) (by decide +kernel)⟩
theorem lw_p36 : lw_okq (⟨"NarrowingPackerModel", "length", "(II)I"⟩, 34) := ⟨⟨by decide +kernel, by decide +kernel⟩, List.mem_of_getElem? (i := 759) (by decide +kernel), List.mem_of_getElem? (i := 943) (by decide +kernel), List.mem_of_getElem? (i := 944) (by decide +kernel)⟩
theorem lw_p37 : lw_okq (⟨"NarrowingPackerModel", "distance", "(II)I"⟩, 34) := ⟨⟨by decide +kernel, by decide +kernel⟩, List.mem_of_getElem? (i := 759) (by decide +kernel), List.mem_of_getElem? (i := 947) (by decide +kernel), List.mem_of_getElem? (i := 948) (by decide +kernel)⟩
theorem lw_p38 : lw_okq (⟨"NarrowingPackerModel", "row", "(III)I"⟩, 34) := ⟨⟨by decide +kernel, by decide +kernel⟩, List.mem_of_getElem? (i := 759) (by decide +kernel), List.mem_of_getElem? (i := 954) (by decide +kernel), List.mem_of_getElem? (i := 955) (by decide +kernel)⟩
theorem lw_p39 : lw_okq (⟨"NarrowingPackerModel", "tellFar", "(IIII)V"⟩, 34) := ⟨⟨by decide +kernel, by decide +kernel⟩, List.mem_of_getElem? (i := 759) (by decide +kernel), List.mem_of_getElem? (i := 958) (by decide +kernel), List.mem_of_getElem? (i := 959) (by decide +kernel)⟩
theorem lw_p40 : lw_okq (⟨"NarrowingPackerModel", "echo", "(I)I"⟩, 34) := ⟨⟨by decide +kernel, by decide +kernel⟩, List.mem_of_getElem? (i := 759) (by decide +kernel), List.mem_of_getElem? (i := 962) (by decide +kernel), List.mem_of_getElem? (i := 963) (by decide +kernel)⟩
def lw_privs_3 : List (MethodName × Nat) := [(⟨"NarrowingPackerModel", "tree", "(III)I"⟩, 34), (⟨"NarrowingPackerModel", "tellLiteral", "(I)V"⟩, 34), (⟨"NarrowingPackerModel", "note", "(III)V"⟩, 34), (⟨"NarrowingPackerModel", "tell", "(I)V"⟩, 34), (⟨"NarrowingPackerModel", "length", "(II)I"⟩, 34), (⟨"NarrowingPackerModel", "distance", "(II)I"⟩, 34), (⟨"NarrowingPackerModel", "row", "(III)I"⟩, 34), (⟨"NarrowingPackerModel", "tellFar", "(IIII)V"⟩, 34), (⟨"NarrowingPackerModel", "echo", "(I)I"⟩, 34)]
theorem lw_r3 : ∀ q ∈ lw_privs_3, lw_okq q := List.forall_mem_cons.mpr ⟨lw_p32, List.forall_mem_cons.mpr ⟨lw_p33, List.forall_mem_cons.mpr ⟨lw_p34, List.forall_mem_cons.mpr ⟨lw_p35, List.forall_mem_cons.mpr ⟨lw_p36, List.forall_mem_cons.mpr ⟨lw_p37, List.forall_mem_cons.mpr ⟨lw_p38, List.forall_mem_cons.mpr ⟨lw_p39, List.forall_mem_cons.mpr ⟨lw_p40, fun _ h => absurd h List.not_mem_nil⟩⟩⟩⟩⟩⟩⟩⟩⟩
def lw_privs : List (MethodName × Nat) := lw_privs_1 ++ (lw_privs_2 ++ (lw_privs_3))
def lw_tbl : List Cond := k2_sels lw_privs ++ tables_1
theorem lw_privs_ok : ∀ q ∈ lw_privs, lw_okq q := by
  show ∀ q ∈ lw_privs_1 ++ (lw_privs_2 ++ (lw_privs_3)), lw_okq q
  exact List.forall_mem_append.mpr ⟨lw_r1, List.forall_mem_append.mpr ⟨lw_r2, lw_r3⟩⟩
end
section
/-! names: classes, methods (by program, out of the listing and the tables) -/
def F_By : u_T := fun k => match k with
  | 0 => ("NarrowingPacker$Bytes", "row", "[I", true)
  | _ => ("NarrowingPacker$Bytes", "count", "I", false)
def t_By : Nat → FieldType := fun k => match k with
  | 0 => .array .int
  | _ => .int
def F_Ch : u_T := fun k => match k with
  | _ => ("NarrowingPacker$Chances", "row", "[I", true)
def t_Ch : Nat → FieldType := fun k => match k with
  | _ => .array .int
def F_Co : u_T := fun k => match k with
  | 0 => ("NarrowingPacker$Chooser", "limit", "I", true)
  | 1 => ("NarrowingPacker$Chooser", "matchLength", "I", false)
  | 2 => ("NarrowingPacker$Chooser", "matchDistance", "I", false)
  | 3 => ("NarrowingPacker$Chooser", "echoLength", "I", false)
  | _ => ("NarrowingPacker$Chooser", "echo", "I", false)
def t_Co : Nat → FieldType := fun k => match k with
  | 0 => .int
  | 1 => .int
  | 2 => .int
  | 3 => .int
  | _ => .int
def F_Fo : u_T := fun k => match k with
  | 0 => ("NarrowingPacker$Follower", "chances", "LNarrowingPacker$Chances;", true)
  | 1 => ("NarrowingPacker$Follower", "packed", "LNarrowingPacker$Bytes;", true)
  | 2 => ("NarrowingPacker$Follower", "next", "I", false)
  | 3 => ("NarrowingPacker$Follower", "code", "J", false)
  | _ => ("NarrowingPacker$Follower", "range", "J", false)
def t_Fo : Nat → FieldType := fun k => match k with
  | 0 => .object "NarrowingPacker$Chances"
  | 1 => .object "NarrowingPacker$Bytes"
  | 2 => .int
  | 3 => .long
  | _ => .long
def F_Hi : u_T := fun k => match k with
  | 0 => ("NarrowingPacker$History", "bytes", "LNarrowingPacker$Bytes;", true)
  | 1 => ("NarrowingPacker$History", "lastDistances", "[I", true)
  | _ => ("NarrowingPacker$History", "state", "I", false)
def t_Hi : Nat → FieldType := fun k => match k with
  | 0 => .object "NarrowingPacker$Bytes"
  | 1 => .array .int
  | _ => .int
def F_Na : u_T := fun k => match k with
  | 0 => ("NarrowingPacker$Narrower", "chances", "LNarrowingPacker$Chances;", true)
  | 1 => ("NarrowingPacker$Narrower", "digits", "[I", true)
  | 2 => ("NarrowingPacker$Narrower", "length", "I", false)
  | _ => ("NarrowingPacker$Narrower", "range", "J", false)
def t_Na : Nat → FieldType := fun k => match k with
  | 0 => .object "NarrowingPacker$Chances"
  | 1 => .array .int
  | 2 => .int
  | _ => .long
def F_Pa : u_T := fun k => match k with
  | 0 => ("NarrowingPacker$Packet", "kind", "I", false)
  | 1 => ("NarrowingPacker$Packet", "length", "I", false)
  | 2 => ("NarrowingPacker$Packet", "distance", "I", false)
  | 3 => ("NarrowingPacker$Packet", "echo", "I", false)
  | _ => ("NarrowingPacker$Packet", "literal", "I", false)
def t_Pa : Nat → FieldType := fun k => match k with
  | 0 => .int
  | 1 => .int
  | 2 => .int
  | 3 => .int
  | _ => .int
def F_Pl : u_T := fun k => match k with
  | 0 => ("NarrowingPacker$PacketList", "kinds", "[I", true)
  | 1 => ("NarrowingPacker$PacketList", "lengths", "[I", true)
  | 2 => ("NarrowingPacker$PacketList", "values", "[I", true)
  | _ => ("NarrowingPacker$PacketList", "count", "I", false)
def t_Pl : Nat → FieldType := fun k => match k with
  | 0 => .array .int
  | 1 => .array .int
  | 2 => .array .int
  | _ => .int
def F_Re : u_T := fun k => match k with
  | _ => ("NarrowingPacker$PacketReader", "follower", "LNarrowingPacker$Follower;", true)
def t_Re : Nat → FieldType := fun k => match k with
  | _ => .object "NarrowingPacker$Follower"
def F_Wr : u_T := fun k => match k with
  | _ => ("NarrowingPacker$PacketWriter", "narrower", "LNarrowingPacker$Narrower;", true)
def t_Wr : Nat → FieldType := fun k => match k with
  | _ => .object "NarrowingPacker$Narrower"
def F_Np : u_T := fun k => match k with
  | 0 => ("NarrowingPacker", "source", "LNarrowingPacker$Bytes;", true)
  | 1 => ("NarrowingPacker", "packed", "LNarrowingPacker$Bytes;", true)
  | 2 => ("NarrowingPacker", "result", "LNarrowingPacker$Bytes;", true)
  | 3 => ("NarrowingPacker", "keptChances", "[I", true)
  | 4 => ("NarrowingPacker", "keptPackets", "LNarrowingPacker$PacketList;", false)
  | 5 => ("NarrowingPacker", "somethingWasPacked", "Z", false)
  | 6 => ("NarrowingPacker", "newPackets", "LNarrowingPacker$PacketList;", false)
  | 7 => ("NarrowingPacker", "current", "LNarrowingPacker$Packet;", true)
  | 8 => ("NarrowingPacker", "history", "LNarrowingPacker$History;", true)
  | 9 => ("NarrowingPacker", "chooser", "LNarrowingPacker$Chooser;", true)
  | 10 => ("NarrowingPacker", "writer", "LNarrowingPacker$PacketWriter;", true)
  | _ => ("NarrowingPacker", "reader", "LNarrowingPacker$PacketReader;", true)
def t_Np : Nat → FieldType := fun k => match k with
  | 0 => .object "NarrowingPacker$Bytes"
  | 1 => .object "NarrowingPacker$Bytes"
  | 2 => .object "NarrowingPacker$Bytes"
  | 3 => .array .int
  | 4 => .object "NarrowingPacker$PacketList"
  | 5 => .boolean
  | 6 => .object "NarrowingPacker$PacketList"
  | 7 => .object "NarrowingPacker$Packet"
  | 8 => .object "NarrowingPacker$History"
  | 9 => .object "NarrowingPacker$Chooser"
  | 10 => .object "NarrowingPacker$PacketWriter"
  | _ => .object "NarrowingPacker$PacketReader"
def F_Mo : u_T := fun k => match k with
  | 0 => ("NarrowingPackerModel", "fault", "I", false)
  | 1 => ("NarrowingPackerModel", "limit", "I", true)
  | 2 => ("NarrowingPackerModel", "typed", "I", false)
  | 3 => ("NarrowingPackerModel", "source", "[I", true)
  | 4 => ("NarrowingPackerModel", "size", "I", false)
  | 5 => ("NarrowingPackerModel", "packed", "[I", true)
  | 6 => ("NarrowingPackerModel", "told", "I", false)
  | 7 => ("NarrowingPackerModel", "result", "[I", true)
  | 8 => ("NarrowingPackerModel", "has", "Z", false)
  | 9 => ("NarrowingPackerModel", "packets", "I", false)
  | 10 => ("NarrowingPackerModel", "packetKind", "[I", true)
  | 11 => ("NarrowingPackerModel", "packetLength", "[I", true)
  | 12 => ("NarrowingPackerModel", "packetDistance", "[I", true)
  | 13 => ("NarrowingPackerModel", "kept", "[I", true)
  | 14 => ("NarrowingPackerModel", "packs", "Z", false)
  | 15 => ("NarrowingPackerModel", "bad", "I", false)
  | 16 => ("NarrowingPackerModel", "chances", "[I", true)
  | 17 => ("NarrowingPackerModel", "range", "J", false)
  | 18 => ("NarrowingPackerModel", "places", "I", false)
  | 19 => ("NarrowingPackerModel", "digits", "[I", true)
  | 20 => ("NarrowingPackerModel", "code", "J", false)
  | 21 => ("NarrowingPackerModel", "next", "I", false)
  | 22 => ("NarrowingPackerModel", "n", "I", false)
  | 23 => ("NarrowingPackerModel", "state", "I", false)
  | 24 => ("NarrowingPackerModel", "bytes", "[I", true)
  | 25 => ("NarrowingPackerModel", "back", "[I", true)
  | 26 => ("NarrowingPackerModel", "count", "I", false)
  | 27 => ("NarrowingPackerModel", "kindOf", "[I", true)
  | 28 => ("NarrowingPackerModel", "lengthOf", "[I", true)
  | 29 => ("NarrowingPackerModel", "distanceOf", "[I", true)
  | 30 => ("NarrowingPackerModel", "chosen", "I", false)
  | 31 => ("NarrowingPackerModel", "long0", "I", false)
  | 32 => ("NarrowingPackerModel", "far", "I", false)
  | _ => ("NarrowingPackerModel", "which", "I", false)
def t_Mo : Nat → FieldType := fun k => match k with
  | 0 => .int
  | 1 => .int
  | 2 => .int
  | 3 => .array .int
  | 4 => .int
  | 5 => .array .int
  | 6 => .int
  | 7 => .array .int
  | 8 => .boolean
  | 9 => .int
  | 10 => .array .int
  | 11 => .array .int
  | 12 => .array .int
  | 13 => .array .int
  | 14 => .boolean
  | 15 => .int
  | 16 => .array .int
  | 17 => .long
  | 18 => .int
  | 19 => .array .int
  | 20 => .long
  | 21 => .int
  | 22 => .int
  | 23 => .int
  | 24 => .array .int
  | 25 => .array .int
  | 26 => .int
  | 27 => .array .int
  | 28 => .array .int
  | 29 => .array .int
  | 30 => .int
  | 31 => .int
  | 32 => .int
  | _ => .int
abbrev vwCl : List vw_C := [("NarrowingPacker$Bytes", F_By, 2), ("NarrowingPacker$Chances", F_Ch, 1), ("NarrowingPacker$Chooser", F_Co, 5), ("NarrowingPacker$Follower", F_Fo, 5), ("NarrowingPacker$History", F_Hi, 3), ("NarrowingPacker$Narrower", F_Na, 4), ("NarrowingPacker$Packet", F_Pa, 5), ("NarrowingPacker$PacketList", F_Pl, 4), ("NarrowingPacker$PacketReader", F_Re, 1), ("NarrowingPacker$PacketWriter", F_Wr, 1), ("NarrowingPacker", F_Np, 12), ("NarrowingPackerModel", F_Mo, 34)]
abbrev y_Np_init : MethodName := ⟨"NarrowingPacker", "<init>", "(I)V"⟩
abbrev y_Np_type : MethodName := ⟨"NarrowingPacker", "type", "(I)Z"⟩
abbrev y_Np_wipe : MethodName := ⟨"NarrowingPacker", "wipe", "()I"⟩
abbrev y_Np_pack : MethodName := ⟨"NarrowingPacker", "pack", "()I"⟩
abbrev y_Np_packets : MethodName := ⟨"NarrowingPacker", "packets", "()I"⟩
abbrev y_Np_packet : MethodName := ⟨"NarrowingPacker", "packet", "(II)I"⟩
abbrev y_Np_chance : MethodName := ⟨"NarrowingPacker", "chance", "(II)I"⟩
abbrev y_Np_size : MethodName := ⟨"NarrowingPacker", "size", "()I"⟩
abbrev y_Np_at : MethodName := ⟨"NarrowingPacker", "at", "(I)I"⟩
abbrev y_Np_add : MethodName := ⟨"NarrowingPacker", "add", "(I)Z"⟩
abbrev y_Np_put : MethodName := ⟨"NarrowingPacker", "put", "(II)I"⟩
abbrev y_Np_cut : MethodName := ⟨"NarrowingPacker", "cut", "(I)I"⟩
abbrev y_Np_unpack : MethodName := ⟨"NarrowingPacker", "unpack", "()I"⟩
abbrev y_Np_told : MethodName := ⟨"NarrowingPacker", "told", "()I"⟩
abbrev y_Np_byteAt : MethodName := ⟨"NarrowingPacker", "byteAt", "(I)I"⟩
abbrev y_Np_isByte : MethodName := ⟨"NarrowingPacker", "isByte", "(I)Z"⟩
abbrev y_Np_writeSource : MethodName := ⟨"NarrowingPacker", "writeSource", "()V"⟩
abbrev y_Np_keepPacking : MethodName := ⟨"NarrowingPacker", "keepPacking", "(LNarrowingPacker$Narrower;)V"⟩
abbrev y_Np_refuseWhatCannotBeTold : MethodName := ⟨"NarrowingPacker", "refuseWhatCannotBeTold", "()V"⟩
abbrev y_Mo_init : MethodName := ⟨"NarrowingPackerModel", "<init>", "(I)V"⟩
abbrev y_Mo_thrown : MethodName := ⟨"NarrowingPackerModel", "thrown", "()I"⟩
abbrev y_Mo_isByte : MethodName := ⟨"NarrowingPackerModel", "isByte", "(I)Z"⟩
abbrev y_Mo_type : MethodName := ⟨"NarrowingPackerModel", "type", "(I)Z"⟩
abbrev y_Mo_wipe : MethodName := ⟨"NarrowingPackerModel", "wipe", "()I"⟩
abbrev y_Mo_begin : MethodName := ⟨"NarrowingPackerModel", "begin", "(Z)V"⟩
abbrev y_Mo_grow : MethodName := ⟨"NarrowingPackerModel", "grow", "(J)V"⟩
abbrev y_Mo_read : MethodName := ⟨"NarrowingPackerModel", "read", "()V"⟩
abbrev y_Mo_widen : MethodName := ⟨"NarrowingPackerModel", "widen", "()V"⟩
abbrev y_Mo_bit : MethodName := ⟨"NarrowingPackerModel", "bit", "(II)I"⟩
abbrev y_Mo_tree : MethodName := ⟨"NarrowingPackerModel", "tree", "(III)I"⟩
abbrev y_Mo_row : MethodName := ⟨"NarrowingPackerModel", "row", "(III)I"⟩
abbrev y_Mo_literal : MethodName := ⟨"NarrowingPackerModel", "literal", "(I)I"⟩
abbrev y_Mo_length : MethodName := ⟨"NarrowingPackerModel", "length", "(II)I"⟩
abbrev y_Mo_below : MethodName := ⟨"NarrowingPackerModel", "below", "(I)I"⟩
abbrev y_Mo_distance : MethodName := ⟨"NarrowingPackerModel", "distance", "(II)I"⟩
abbrev y_Mo_echo : MethodName := ⟨"NarrowingPackerModel", "echo", "(I)I"⟩
abbrev y_Mo_tell : MethodName := ⟨"NarrowingPackerModel", "tell", "(I)V"⟩
abbrev y_Mo_note : MethodName := ⟨"NarrowingPackerModel", "note", "(III)V"⟩
abbrev y_Mo_tellLiteral : MethodName := ⟨"NarrowingPackerModel", "tellLiteral", "(I)V"⟩
abbrev y_Mo_tellFar : MethodName := ⟨"NarrowingPackerModel", "tellFar", "(IIII)V"⟩
abbrev y_Mo_packet0 : MethodName := ⟨"NarrowingPackerModel", "packet", "()Z"⟩
abbrev y_Mo_agree : MethodName := ⟨"NarrowingPackerModel", "agree", "(II)I"⟩
abbrev y_Mo_choose : MethodName := ⟨"NarrowingPackerModel", "choose", "()V"⟩
abbrev y_Mo_pack : MethodName := ⟨"NarrowingPackerModel", "pack", "()I"⟩
abbrev y_Mo_unpack : MethodName := ⟨"NarrowingPackerModel", "unpack", "()I"⟩
abbrev y_Mo_packets : MethodName := ⟨"NarrowingPackerModel", "packets", "()I"⟩
abbrev y_Mo_packet2 : MethodName := ⟨"NarrowingPackerModel", "packet", "(II)I"⟩
abbrev y_Mo_chance : MethodName := ⟨"NarrowingPackerModel", "chance", "(II)I"⟩
abbrev y_Mo_size : MethodName := ⟨"NarrowingPackerModel", "size", "()I"⟩
abbrev y_Mo_at : MethodName := ⟨"NarrowingPackerModel", "at", "(I)I"⟩
abbrev y_Mo_add : MethodName := ⟨"NarrowingPackerModel", "add", "(I)Z"⟩
abbrev y_Mo_put : MethodName := ⟨"NarrowingPackerModel", "put", "(II)I"⟩
abbrev y_Mo_cut : MethodName := ⟨"NarrowingPackerModel", "cut", "(I)I"⟩
abbrev y_Mo_told : MethodName := ⟨"NarrowingPackerModel", "told", "()I"⟩
abbrev y_Mo_byteAt : MethodName := ⟨"NarrowingPackerModel", "byteAt", "(I)I"⟩
abbrev y_By_init : MethodName := ⟨"NarrowingPacker$Bytes", "<init>", "(I)V"⟩
abbrev y_By_has : MethodName := ⟨"NarrowingPacker$Bytes", "has", "(I)Z"⟩
abbrev y_By_get : MethodName := ⟨"NarrowingPacker$Bytes", "get", "(I)I"⟩
abbrev y_By_append : MethodName := ⟨"NarrowingPacker$Bytes", "append", "(I)Z"⟩
abbrev y_By_shorten : MethodName := ⟨"NarrowingPacker$Bytes", "shorten", "(I)I"⟩
abbrev y_By_copy : MethodName := ⟨"NarrowingPacker$Bytes", "copy", "([II)V"⟩
abbrev y_Ch_init : MethodName := ⟨"NarrowingPacker$Chances", "<init>", "()V"⟩
abbrev y_Ch_forget : MethodName := ⟨"NarrowingPacker$Chances", "forget", "()V"⟩
abbrev y_Ch_boundIn : MethodName := ⟨"NarrowingPacker$Chances", "boundIn", "(JI)J"⟩
abbrev y_Ch_learn : MethodName := ⟨"NarrowingPacker$Chances", "learn", "(II)V"⟩
abbrev y_Co_init : MethodName := ⟨"NarrowingPacker$Chooser", "<init>", "(I)V"⟩
abbrev y_Co_choose : MethodName := ⟨"NarrowingPacker$Chooser", "choose", "(LNarrowingPacker$Packet;LNarrowingPacker$Bytes;LNarrowingPacker$History;)V"⟩
abbrev y_Co_findMatch : MethodName := ⟨"NarrowingPacker$Chooser", "findMatch", "(LNarrowingPacker$Bytes;I)V"⟩
abbrev y_Co_findEcho : MethodName := ⟨"NarrowingPacker$Chooser", "findEcho", "(LNarrowingPacker$Bytes;I[I)V"⟩
abbrev y_Co_agreeing : MethodName := ⟨"NarrowingPacker$Chooser", "agreeing", "(LNarrowingPacker$Bytes;II)I"⟩
abbrev y_Fo_init : MethodName := ⟨"NarrowingPacker$Follower", "<init>", "()V"⟩
abbrev y_Fo_restart : MethodName := ⟨"NarrowingPacker$Follower", "restart", "(LNarrowingPacker$Bytes;)V"⟩
abbrev y_Fo_readBit : MethodName := ⟨"NarrowingPacker$Follower", "readBit", "(I)I"⟩
abbrev y_Fo_readTree : MethodName := ⟨"NarrowingPacker$Follower", "readTree", "(II)I"⟩
abbrev y_Fo_readRow : MethodName := ⟨"NarrowingPacker$Follower", "readRow", "(II)I"⟩
abbrev y_Fo_refuseWhatIsLeft : MethodName := ⟨"NarrowingPacker$Follower", "refuseWhatIsLeft", "()V"⟩
abbrev y_Fo_takeByte : MethodName := ⟨"NarrowingPacker$Follower", "takeByte", "()V"⟩
abbrev y_Hi_init : MethodName := ⟨"NarrowingPacker$History", "<init>", "()V"⟩
abbrev y_Hi_restart : MethodName := ⟨"NarrowingPacker$History", "restart", "()V"⟩
abbrev y_Hi_tell : MethodName := ⟨"NarrowingPacker$History", "tell", "(LNarrowingPacker$Packet;)V"⟩
abbrev y_Hi_byteBefore : MethodName := ⟨"NarrowingPacker$History", "byteBefore", "(I)I"⟩
abbrev y_Hi_isBehindACopy : MethodName := ⟨"NarrowingPacker$History", "isBehindACopy", "()Z"⟩
abbrev y_Hi_placeOfLiterals : MethodName := ⟨"NarrowingPacker$History", "placeOfLiterals", "()I"⟩
abbrev y_Hi_repeat : MethodName := ⟨"NarrowingPacker$History", "repeat", "(II)V"⟩
abbrev y_Hi_bringToFront : MethodName := ⟨"NarrowingPacker$History", "bringToFront", "(II)V"⟩
abbrev y_Hi_stateBehind : MethodName := ⟨"NarrowingPacker$History", "stateBehind", "(I)I"⟩
abbrev y_Hi_stateBehindLiteral : MethodName := ⟨"NarrowingPacker$History", "stateBehindLiteral", "()I"⟩
abbrev y_Na_init : MethodName := ⟨"NarrowingPacker$Narrower", "<init>", "()V"⟩
abbrev y_Na_restart : MethodName := ⟨"NarrowingPacker$Narrower", "restart", "()V"⟩
abbrev y_Na_fits : MethodName := ⟨"NarrowingPacker$Narrower", "fits", "()Z"⟩
abbrev y_Na_writeBit : MethodName := ⟨"NarrowingPacker$Narrower", "writeBit", "(II)V"⟩
abbrev y_Na_writeTree : MethodName := ⟨"NarrowingPacker$Narrower", "writeTree", "(III)V"⟩
abbrev y_Na_writeRow : MethodName := ⟨"NarrowingPacker$Narrower", "writeRow", "(III)V"⟩
abbrev y_Na_raiseLow : MethodName := ⟨"NarrowingPacker$Narrower", "raiseLow", "(J)V"⟩
abbrev y_Pa_init : MethodName := ⟨"NarrowingPacker$Packet", "<init>", "()V"⟩
abbrev y_Pa_becomeLiteral : MethodName := ⟨"NarrowingPacker$Packet", "becomeLiteral", "(I)V"⟩
abbrev y_Pa_becomeMatch : MethodName := ⟨"NarrowingPacker$Packet", "becomeMatch", "(II)V"⟩
abbrev y_Pa_becomeEcho : MethodName := ⟨"NarrowingPacker$Packet", "becomeEcho", "(III)V"⟩
abbrev y_Pa_becomeShort : MethodName := ⟨"NarrowingPacker$Packet", "becomeShort", "(I)V"⟩
abbrev y_Pa_becomeEnd : MethodName := ⟨"NarrowingPacker$Packet", "becomeEnd", "()V"⟩
abbrev y_Pa_become : MethodName := ⟨"NarrowingPacker$Packet", "become", "(III)V"⟩
abbrev y_Pl_init : MethodName := ⟨"NarrowingPacker$PacketList", "<init>", "()V"⟩
abbrev y_Pl_clear : MethodName := ⟨"NarrowingPacker$PacketList", "clear", "()V"⟩
abbrev y_Pl_append : MethodName := ⟨"NarrowingPacker$PacketList", "append", "(LNarrowingPacker$Packet;)V"⟩
abbrev y_Pl_tellOf : MethodName := ⟨"NarrowingPacker$PacketList", "tellOf", "(II)I"⟩
abbrev y_Re_init : MethodName := ⟨"NarrowingPacker$PacketReader", "<init>", "()V"⟩
abbrev y_Re_readPacket : MethodName := ⟨"NarrowingPacker$PacketReader", "readPacket", "(LNarrowingPacker$Packet;LNarrowingPacker$History;)V"⟩
abbrev y_Re_readLiteral : MethodName := ⟨"NarrowingPacker$PacketReader", "readLiteral", "(LNarrowingPacker$History;)I"⟩
abbrev y_Re_readMatchOrEnd : MethodName := ⟨"NarrowingPacker$PacketReader", "readMatchOrEnd", "(LNarrowingPacker$Packet;)V"⟩
abbrev y_Re_readDistance : MethodName := ⟨"NarrowingPacker$PacketReader", "readDistance", "(I)I"⟩
abbrev y_Re_readRepeat : MethodName := ⟨"NarrowingPacker$PacketReader", "readRepeat", "(LNarrowingPacker$Packet;I[I)V"⟩
abbrev y_Re_readLength : MethodName := ⟨"NarrowingPacker$PacketReader", "readLength", "(I)I"⟩
abbrev y_Wr_init : MethodName := ⟨"NarrowingPacker$PacketWriter", "<init>", "()V"⟩
abbrev y_Wr_writePacket : MethodName := ⟨"NarrowingPacker$PacketWriter", "writePacket", "(LNarrowingPacker$Packet;LNarrowingPacker$History;)V"⟩
abbrev y_Wr_writeLiteral : MethodName := ⟨"NarrowingPacker$PacketWriter", "writeLiteral", "(ILNarrowingPacker$History;)V"⟩
abbrev y_Wr_writeMatch : MethodName := ⟨"NarrowingPacker$PacketWriter", "writeMatch", "(LNarrowingPacker$Packet;)V"⟩
abbrev y_Wr_writeEnd : MethodName := ⟨"NarrowingPacker$PacketWriter", "writeEnd", "()V"⟩
abbrev y_Wr_writeRepeat : MethodName := ⟨"NarrowingPacker$PacketWriter", "writeRepeat", "(LNarrowingPacker$Packet;I)V"⟩
abbrev y_Wr_writeLength : MethodName := ⟨"NarrowingPacker$PacketWriter", "writeLength", "(II)V"⟩
abbrev y_Wr_bitsBelowHighest : MethodName := ⟨"NarrowingPacker$PacketWriter", "bitsBelowHighest", "(I)I"⟩
abbrev y_La_cell : MethodName := ⟨"NarrowingPackerLaw", "cell", "([II)I"⟩
abbrev y_La_pack : MethodName := ⟨"NarrowingPackerLaw", "pack", "(LNarrowingPacker;[J)I"⟩
abbrev y_La_put : MethodName := ⟨"NarrowingPackerLaw", "put", "(LNarrowingPacker;II[J)I"⟩
abbrev y_La_cut : MethodName := ⟨"NarrowingPackerLaw", "cut", "(LNarrowingPacker;I[J)I"⟩
abbrev y_La_unpack : MethodName := ⟨"NarrowingPackerLaw", "unpack", "(LNarrowingPacker;[J)I"⟩
abbrev y_La_law : MethodName := ⟨"NarrowingPackerLaw", "law", "([I)Z"⟩
abbrev y_Ar_fill : MethodName := ⟨"java/util/Arrays", "fill", "([II)V"⟩
def a_Z (a0 : Array Value) (s0 : State) : Prop := ∀ w ∈ lw_tbl, w.before a0 s0 = true
end
section
/-! numbers: ints and longs by the integer behind them -/
def zI (z : Int) : Int32 := Int32.ofInt z
def zL (z : Int) : Int64 := Int64.ofInt z
theorem zI_t {z : Int} (h1 : -2147483648 ≤ z) (h2 : z < 2147483648) : (zI z).toInt = z := by
  have e : (2 : Int) ^ 31 = 2147483648 := by decide
  exact Int32.toInt_ofInt_of_le (by omega) (by omega)
theorem zL_t {z : Int} (h1 : -9223372036854775808 ≤ z) (h2 : z < 9223372036854775808) : (zL z).toInt = z := by
  have e : (2 : Int) ^ 63 = 9223372036854775808 := by decide
  exact Int64.toInt_ofInt_of_le (by omega) (by omega)
theorem zI_of (x : Int32) : ∃ z : Int, (-2147483648 ≤ z ∧ z < 2147483648) ∧ x = zI z := by
  refine ⟨x.toInt, ⟨?_, ?_⟩, (Int32.ofInt_toInt x).symm⟩
  · have := Int32.le_toInt x; omega
  · have := Int32.toInt_lt x; omega
theorem zI_lt {a b : Int} (a1 : -2147483648 ≤ a) (a2 : a < 2147483648) (b1 : -2147483648 ≤ b) (b2 : b < 2147483648) : zI a < zI b ↔ a < b := by
  rw [Int32.lt_iff_toInt_lt, zI_t a1 a2, zI_t b1 b2]
theorem zI_le {a b : Int} (a1 : -2147483648 ≤ a) (a2 : a < 2147483648) (b1 : -2147483648 ≤ b) (b2 : b < 2147483648) : zI a ≤ zI b ↔ a ≤ b := by
  rw [Int32.le_iff_toInt_le, zI_t a1 a2, zI_t b1 b2]
theorem zI_eq {a b : Int} (a1 : -2147483648 ≤ a) (a2 : a < 2147483648) (b1 : -2147483648 ≤ b) (b2 : b < 2147483648) : zI a = zI b ↔ a = b := by
  rw [← Int32.toInt_inj, zI_t a1 a2, zI_t b1 b2]
theorem zL_lt {a b : Int} (a1 : -9223372036854775808 ≤ a) (a2 : a < 9223372036854775808) (b1 : -9223372036854775808 ≤ b) (b2 : b < 9223372036854775808) : zL a < zL b ↔ a < b := by
  rw [Int64.lt_iff_toInt_lt, zL_t a1 a2, zL_t b1 b2]
theorem zL_le {a b : Int} (a1 : -9223372036854775808 ≤ a) (a2 : a < 9223372036854775808) (b1 : -9223372036854775808 ≤ b) (b2 : b < 9223372036854775808) : zL a ≤ zL b ↔ a ≤ b := by
  rw [Int64.le_iff_toInt_le, zL_t a1 a2, zL_t b1 b2]
theorem zL_eq {a b : Int} (a1 : -9223372036854775808 ≤ a) (a2 : a < 9223372036854775808) (b1 : -9223372036854775808 ≤ b) (b2 : b < 9223372036854775808) : zL a = zL b ↔ a = b := by
  rw [← Int64.toInt_inj, zL_t a1 a2, zL_t b1 b2]
theorem zI_0 : zI 0 = 0 := rfl
theorem zI_add (a b : Int) : zI a + zI b = zI (a + b) := (Int32.ofInt_add a b).symm
theorem zI_sub (a b : Int) : zI a - zI b = zI (a - b) := (Int32.ofInt_sub a b).symm
theorem zI_mul (a b : Int) : zI a * zI b = zI (a * b) := (Int32.ofInt_mul a b).symm
theorem zL_add (a b : Int) : zL a + zL b = zL (a + b) := (Int64.ofInt_add a b).symm
theorem zL_sub (a b : Int) : zL a - zL b = zL (a - b) := (Int64.ofInt_sub a b).symm
theorem zL_mul (a b : Int) : zL a * zL b = zL (a * b) := (Int64.ofInt_mul a b).symm
theorem zI_cl {z : Int} (h1 : 0 ≤ z) (h2 : z < 2147483648) : (zI z).toNatClampNeg = z.toNat := by
  show (zI z).toInt.toNat = _
  rw [zI_t (by omega) h2]
theorem zI_in {z : Int} {n : Nat} (h1 : 0 ≤ z) (h2 : z < (n : Int)) (hn : (n : Int) < 2147483648) : vp_in (zI z) n := by
  rw [vp_in_iff, zI_t (by omega) (by omega)]
  exact ⟨h1, h2⟩
theorem zI_l {z : Int} (h1 : -2147483648 ≤ z) (h2 : z < 2147483648) : (zI z).toInt64 = zL z := by
  apply Int64.toInt_inj.mp
  rw [zL_t (by omega) (by omega), Int32.toInt_toInt64, zI_t h1 h2]
theorem zL_i (z : Int) : (zL z).toInt32 = zI z := Int64.toInt32_ofInt
theorem zI_sm : ∀ n : Fin 32, ((zI (n.val : Int) &&& 31).toBitVec.smod 32).toNat = n.val := by decide
theorem zL_sm : ∀ n : Fin 64, (((zI (n.val : Int)).toInt64 &&& 63).toBitVec.smod 64).toNat = n.val := by decide
theorem zI_shr {z : Int} (k : Nat) (hk : k < 32) (h1 : -2147483648 ≤ z) (h2 : z < 2147483648) : zI z >>> (zI (k : Int) &&& 31) = zI (z / 2 ^ k) := by
  apply Int32.toInt_inj.mp
  have hp : (0 : Int) < 2 ^ k := Int.pow_pos (by decide)
  have e1 : z / 2 ^ k < 2147483648 := by
    by_cases hz : 0 ≤ z
    · have := Int.ediv_le_self (2 ^ k) hz; omega
    · have := Int.ediv_neg_of_neg_of_pos (by omega : z < 0) hp; omega
  have e2 : -2147483648 ≤ z / 2 ^ k := by
    have : -2147483648 * 2 ^ k ≤ z := by
      have h5 : (1 : Int) ≤ 2 ^ k := by omega
      have : -2147483648 * (2 ^ k : Int) ≤ -2147483648 * 1 := by
        have := Int.mul_le_mul_of_nonneg_left h5 (by decide : (0 : Int) ≤ 2147483648)
        omega
      omega
    exact (Int.le_ediv_iff_mul_le hp).mpr this
  rw [pk_shr _ _ k (zI_sm ⟨k, hk⟩), zI_t h1 h2, zI_t e2 e1, Int.shiftRight_eq_div_pow]
  norm_cast
theorem zI_and1 (z : Int) : zI z &&& 1 = zI (z % 2) := by
  rw [pk_and (zI z) 1 (by decide)]
  apply Int32.toInt_inj.mp
  have e : ((zI z).toBitVec.toNat : Int) % 2 = z % 2 := by
    show ((BitVec.ofInt 32 z).toNat : Int) % 2 = _
    rw [BitVec.toNat_ofInt]
    omega
  rw [nI_toInt (by omega), zI_t (by omega) (by omega)]
  omega
theorem zL_and255 (z : Int) : zL z &&& 255 = zL (z % 256) := by
  apply Int64.toBitVec_inj.mp
  apply BitVec.eq_of_toNat_eq
  have hm : (255 : Int64).toBitVec.toNat = 2 ^ 8 - 1 := by decide
  rw [Int64.toBitVec_and, BitVec.toNat_and, hm, Nat.and_two_pow_sub_one_eq_mod]
  show (BitVec.ofInt 64 z).toNat % 2 ^ 8 = (BitVec.ofInt 64 (z % 256)).toNat
  rw [BitVec.toNat_ofInt, BitVec.toNat_ofInt]
  omega
theorem zL_shr {z : Int} (k : Nat) (hk : k < 64) (h1 : 0 ≤ z) (h2 : z < 9223372036854775808) : zL z >>> ((zI (k : Int)).toInt64 &&& 63) = zL (z / 2 ^ k) := by
  apply Int64.toInt_inj.mp
  have hp : (0 : Int) < 2 ^ k := Int.pow_pos (by decide)
  have e0 := Int.ediv_le_self (2 ^ k) h1
  have e1 := Int.ediv_nonneg h1 (Int.le_of_lt hp)
  have e : (zL z >>> ((zI (k : Int)).toInt64 &&& 63)).toInt = (zL z).toInt >>> k := by
    show ((zL z).toBitVec.sshiftRight (((zI (k : Int)).toInt64 &&& 63).toBitVec.smod 64).toNat).toInt = _
    rw [zL_sm ⟨k, hk⟩, BitVec.toInt_sshiftRight]
    rfl
  rw [e, zL_t (by omega) h2, zL_t (by omega) (by omega), Int.shiftRight_eq_div_pow]
  norm_cast
theorem zL_shl (z : Int) (k : Nat) (hk : k < 64) : zL z <<< ((zI (k : Int)).toInt64 &&& 63) = zL (z * 2 ^ k) := by
  apply Int64.toBitVec_inj.mp
  show (zL z).toBitVec <<< (((zI (k : Int)).toInt64 &&& 63).toBitVec.smod 64).toNat = BitVec.ofInt 64 (z * 2 ^ k)
  rw [zL_sm ⟨k, hk⟩]
  show BitVec.ofInt 64 z <<< k = _
  rw [BitVec.shiftLeft_eq_mul_twoPow]
  rw [BitVec.ofInt_mul]
  congr 1
  apply BitVec.eq_of_toNat_eq
  rw [BitVec.toNat_twoPow, BitVec.toNat_ofInt]
  have : ((2 : Int) ^ k) % (2 ^ 64 : Nat) = ((2 ^ k % 2 ^ 64 : Nat) : Int) := by norm_cast
  rw [this]
  rfl
theorem zI_shl (z : Int) (k : Nat) (hk : k < 32) : zI z <<< (zI (k : Int) &&& 31) = zI (z * 2 ^ k) := by
  apply Int32.toBitVec_inj.mp
  show (zI z).toBitVec <<< ((zI (k : Int) &&& 31).toBitVec.smod 32).toNat = BitVec.ofInt 32 (z * 2 ^ k)
  rw [zI_sm ⟨k, hk⟩]
  show BitVec.ofInt 32 z <<< k = _
  rw [BitVec.shiftLeft_eq_mul_twoPow]
  rw [BitVec.ofInt_mul]
  congr 1
  apply BitVec.eq_of_toNat_eq
  rw [BitVec.toNat_twoPow, BitVec.toNat_ofInt]
  have : ((2 : Int) ^ k) % (2 ^ 32 : Nat) = ((2 ^ k % 2 ^ 32 : Nat) : Int) := by norm_cast
  rw [this]
  rfl
theorem zI_div {a b : Int} (a1 : 0 ≤ a) (a2 : a < 2147483648) (b1 : 0 < b) (b2 : b < 2147483648) : zI a / zI b = zI (a / b) := by
  apply Int32.toInt_inj.mp
  have h1 := Int.ediv_le_self b a1
  have h2 := Int.ediv_nonneg a1 (Int.le_of_lt b1)
  rw [lg_idiv_nonneg (by rw [zI_t (by omega) a2]; exact a1) (by rw [zI_t (by omega) b2]; omega), zI_t (by omega) a2, zI_t (by omega) b2, zI_t (by omega) (by omega)]
theorem zL_div {a b : Int} (a1 : 0 ≤ a) (a2 : a < 9223372036854775808) (b1 : 0 < b) (b2 : b < 9223372036854775808) : zL a / zL b = zL (a / b) := by
  apply Int64.toInt_inj.mp
  have h1 := Int.ediv_le_self b a1
  have h2 := Int.ediv_nonneg a1 (Int.le_of_lt b1)
  rw [lg_ldiv_nonneg (by rw [zL_t (by omega) a2]; exact a1) (by rw [zL_t (by omega) b2]; omega), zL_t (by omega) a2, zL_t (by omega) b2, zL_t (by omega) (by omega)]
theorem zI_rem {a b : Int} (a1 : 0 ≤ a) (a2 : a < 2147483648) (b1 : 0 < b) (b2 : b < 2147483648) : zI a - zI a / zI b * zI b = zI (a % b) := by
  rw [zI_div a1 a2 b1 b2, zI_mul, zI_sub]
  congr 1
  have := Int.mul_ediv_add_emod a b
  rw [Int.mul_comm] at this
  omega
theorem zL_rem {a b : Int} (a1 : 0 ≤ a) (a2 : a < 9223372036854775808) (b1 : 0 < b) (b2 : b < 9223372036854775808) : zL a - zL a / zL b * zL b = zL (a % b) := by
  rw [zL_div a1 a2 b1 b2, zL_mul, zL_sub]
  congr 1
  have := Int.mul_ediv_add_emod a b
  rw [Int.mul_comm] at this
  omega
/-- a row of numbers, one of them changed -/
def zup (f : Int → Int) (i x : Int) : Int → Int := fun j => if j = i then x else f j
theorem zup_s (f : Int → Int) (i x : Int) : zup f i x i = x := if_pos rfl
theorem zup_n {f : Int → Int} {i x j : Int} (h : j ≠ i) : zup f i x j = f j := if_neg h
/-- n numbers from place p of f on, laid to place q of g on -/
def zcpy (f g : Int → Int) (p q n : Int) : Int → Int := fun j => if q ≤ j ∧ j < q + n then f (p + (j - q)) else g j
theorem upd_z (f : Int → Int) {i : Int} (x : Int) (h : 0 ≤ i) : upd (fun j => zI (f (j : Int))) i.toNat (zI x) = fun j : Nat => zI (zup f i x (j : Int)) := by
  funext j
  unfold upd zup
  by_cases e : j = i.toNat
  · rw [if_pos e, if_pos (by omega)]
  · rw [if_neg e, if_neg (by omega)]
theorem updL_z (f : Int → Int) {i : Int} (x : Int) (h : 0 ≤ i) : vp_updL (fun j => zL (f (j : Int))) i.toNat (zL x) = fun j : Nat => zL (zup f i x (j : Int)) := by
  funext j
  unfold vp_updL zup
  by_cases e : j = i.toNat
  · rw [if_pos e, if_pos (by omega)]
  · rw [if_neg e, if_neg (by omega)]
theorem cpy_z (f g : Int → Int) {p q n : Int} (h1 : 0 ≤ p) (h2 : 0 ≤ q) (h3 : 0 ≤ n) : va_cpy (fun j => zI (f (j : Int))) (fun j => zI (g (j : Int))) p.toNat q.toNat n.toNat = fun j : Nat => zI (zcpy f g p q n (j : Int)) := by
  funext j
  unfold va_cpy zcpy
  by_cases e : q.toNat ≤ j ∧ j < q.toNat + n.toNat
  · rw [if_pos e, if_pos (by omega)]
    have e2 : ((p.toNat + (j - q.toNat) : Nat) : Int) = p + ((j : Int) - q) := by omega
    show zI (f ((p.toNat + (j - q.toNat) : Nat) : Int)) = _
    rw [e2]
  · rw [if_neg e, if_neg (by omega)]
end
section
/-! the walk: a method's frame over a heap whose cells from the start's size on are known by their places -/
abbrev AH : Type := Nat → Option va_E
def a_up (h : AH) (k : Nat) (x : va_E) : AH := fun j => bif Nat.beq j k then some x else h j
theorem a_up_s (h : AH) (k : Nat) (x : va_E) : a_up h k x k = some x := by unfold a_up; rw [Nat.beq_refl]; rfl
theorem a_up_n {h : AH} {k j : Nat} {x : va_E} (e : j ≠ k) : a_up h k x j = h j := by
  unfold a_up
  cases hb : Nat.beq j k with
  | false => rfl
  | true => exact absurd (Nat.eq_of_beq_eq_true hb) e
theorem a_up_up (h : AH) (k : Nat) (x y : va_E) : a_up (a_up h k x) k y = a_up h k y := by
  funext j
  by_cases e : j = k
  · subst e; rw [a_up_s, a_up_s]
  · rw [a_up_n e, a_up_n e, a_up_n e]
theorem a_up_cm (h : AH) {k j : Nat} (x y : va_E) (e : k ≠ j) : a_up (a_up h k x) j y = a_up (a_up h j y) k x := by
  funext i
  by_cases e1 : i = k
  · subst e1; rw [a_up_s, a_up_n e, a_up_s]
  · by_cases e2 : i = j
    · subst e2; rw [a_up_s, a_up_n e1, a_up_s]
    · rw [a_up_n e2, a_up_n e1, a_up_n e1, a_up_n e2]
theorem a_up_id {h : AH} {k : Nat} {x : va_E} (e : h k = some x) : a_up h k x = h := by
  funext j
  by_cases e1 : j = k
  · subst e1; rw [a_up_s, e]
  · rw [a_up_n e1]
def iA (cI : ClassId) (n : Nat) (f : Int → Int) : va_E := .inl (cI, n, .inl (fun j => zI (f (j : Int))))
def lA (cL : ClassId) (n : Nat) (f : Int → Int) : va_E := .inl (cL, n, .inr (.inl (fun j => zL (f (j : Int)))))
/-- what is known of the locals -/
def a_lk : List (Nat × Value) → Nat → Option Value
  | [], _ => none
  | (j, v) :: r, i => bif Nat.beq j i then some v else a_lk r i
theorem a_lk_mem {lv : List (Nat × Value)} {i : Nat} {v : Value} (h : a_lk lv i = some v) : (i, v) ∈ lv := by
  induction lv with
  | nil => cases h
  | cons q r ih =>
    obtain ⟨j, w⟩ := q
    unfold a_lk at h
    cases e : Nat.beq j i with
    | true =>
      rw [e] at h
      have e1 : j = i := Nat.eq_of_beq_eq_true e
      have e2 : w = v := Option.some.inj h
      subst e1; subst e2
      exact List.mem_cons_self
    | false =>
      rw [e] at h
      exact List.mem_cons_of_mem _ (ih h)
abbrev a_s1 (lv : List (Nat × Value)) (i : Nat) (v : Value) : List (Nat × Value) := (i, v) :: lv.filter (fun q => !(q.1 == i) && !(q.1 + 1 == i && q.2.category == 2))
abbrev a_s2 (lv : List (Nat × Value)) (i : Nat) (v : Value) : List (Nat × Value) := (i, v) :: lv.filter (fun q => !(q.1 == i) && (!(q.1 == i + 1) && !(q.1 + 1 == i && q.2.category == 2)))
def a_sub (lv : List (Nat × Value)) : List (Nat × Value) → Prop
  | [] => True
  | (i, v) :: r => a_lk lv i = some v ∧ a_sub lv r
theorem a_sub_has {ls : Array Slot} {nL : Nat} {lv lv' : List (Nat × Value)} (h : lv_has ls nL lv) (hs : a_sub lv lv') : lv_has ls nL lv' := by
  refine ⟨h.1, h.2.1, ?_⟩
  induction lv' with
  | nil => intro q hq; cases hq
  | cons x r ih =>
    obtain ⟨i, v⟩ := x
    intro q hq
    rcases List.mem_cons.mp hq with e | e
    · subst e; exact h.2.2 _ (a_lk_mem hs.1)
    · exact ih hs.2 q e
/-- the state: locals, heap -/
def XP (s0 : State) (D : va_G) (nL : Nat) (lv : List (Nat × Value)) (h : AH) (K : Nat) (ls : Array Slot) (H : Heap) (locs : List Loc) : Prop :=
  lv_has ls nL lv ∧ H.size = s0.heap.size + K ∧ (∀ q : Nat, q < s0.heap.size → H[q]? = s0.heap[q]?) ∧ (∀ (k : Nat) (x : va_E), h k = some x → va_at D vwCl (s0.heap.size + k, x) H) ∧ ∀ q ∈ locs, s0.heap.size ≤ q.base
def XW (s0 : State) (D : va_G) (p : Program) (l : Launch) (e : Env) (R : Room) (s : State) (m : MethodId) (args : Array Value) (below : List Frame) (meth : Method) (c : Code) (Q : State → Prop) (pc : Nat) (lv : List (Nat × Value)) (st : List Value) (h : AH) (K cells slots : Nat) : Prop :=
  ∀ (ls : Array Slot) (H : Heap) (locs : List Loc), XP s0 D c.maxLocals lv h K ls H locs → W p l e R s m args below meth c H locs cells slots Q (F0 m pc ls st)
/-- what stays the same through a method -/
def XC (s0 : State) (D : va_G) (cI cL : ClassId) (p : Program) (s : State) (m : MethodId) (meth : Method) (c : Code) (own : String) (cc : ByteArray) (nL : Nat) (ret : Option FieldType) (tb : List ExceptionTableEntry) : Prop :=
  p.tables.exec = Jvm.exec ∧ c.code = cc ∧ c.maxLocals = nL ∧ s.vm.findClass own = some m.cls ∧ s0.WarmedH s.vm ∧ meth.locks = false ∧ va_K D vwCl [(cI, .int), (cL, .long)] s ∧ meth.sig.returnType = ret ∧ c.exceptionTable.toList = tb
section Walk
variable {a0 : Array Value} {s0 : State} {D : va_G} {cI cL : ClassId} {p : Program} {l : Launch} {e : Env} {R : Room} {s : State} {m : MethodId} {args : Array Value} {below : List Frame} {meth : Method} {c : Code} {Q : State → Prop} {tb : List ExceptionTableEntry}
variable {own : String} {cc : ByteArray} {nL : Nat} {ret : Option FieldType} {pc : Nat} {lv : List (Nat × Value)} {st : List Value} {h : AH} {K cells slots : Nat}
theorem x_w (C : XC s0 D cI cL p s m meth c own cc nL ret tb) {w : Cond} (hg : goodWord w = true) (hw : w.before a0 s0 = true) : w.before args s = true := word_at C.2.2.2.2.1 (good_of_word hg) hw
theorem XW.loc {lv' : List (Nat × Value)} (hs : a_sub lv lv') (k : XW s0 D p l e R s m args below meth c Q pc lv' st h K cells slots) : XW s0 D p l e R s m args below meth c Q pc lv st h K cells slots :=
  fun ls H locs P => k ls H locs ⟨a_sub_has P.1 hs, P.2⟩
theorem XW.heap {h' : AH} (hs : ∀ (k : Nat) (x : va_E), h' k = some x → h k = some x) (k : XW s0 D p l e R s m args below meth c Q pc lv st h' K cells slots) : XW s0 D p l e R s m args below meth c Q pc lv st h K cells slots :=
  fun ls H locs P => k ls H locs ⟨P.1, P.2.1, P.2.2.1, fun i x hx => P.2.2.2.1 i x (hs i x hx), P.2.2.2.2⟩
theorem XW.heq {h' : AH} (hs : h = h') (k : XW s0 D p l e R s m args below meth c Q pc lv st h' K cells slots) : XW s0 D p l e R s m args below meth c Q pc lv st h K cells slots := by subst hs; exact k
theorem XW.steq {st' : List Value} (hs : st = st') (k : XW s0 D p l e R s m args below meth c Q pc lv st' h K cells slots) : XW s0 D p l e R s m args below meth c Q pc lv st h K cells slots := by subst hs; exact k
theorem XW.widen {cells' slots' : Nat} (h1 : cells ≤ cells') (h2 : slots ≤ slots') (k : XW s0 D p l e R s m args below meth c Q pc lv st h K cells' slots') : XW s0 D p l e R s m args below meth c Q pc lv st h K cells slots :=
  fun ls H locs P => W.widen h1 h2 (k ls H locs P)
theorem x_iconst (C : XC s0 D cI cL p s m meth c own cc nL ret tb) {n : Int} (hd : decode cc pc = .ok (.iconst n, 1)) (k : XW s0 D p l e R s m args below meth c Q (pc + 1) lv (.int (zI n) :: st) h K cells slots) : XW s0 D p l e R s m args below meth c Q pc lv st h K cells slots :=
  fun ls H locs P => lv_iconst C.1 C.2.1 hd rfl (k ls H locs P)
theorem x_bipush (C : XC s0 D cI cL p s m meth c own cc nL ret tb) {n : Int} (hd : decode cc pc = .ok (.bipush n, 2)) (hv : (Int8.ofInt n).toInt32 = zI n) (k : XW s0 D p l e R s m args below meth c Q (pc + 2) lv (.int (zI n) :: st) h K cells slots) : XW s0 D p l e R s m args below meth c Q pc lv st h K cells slots :=
  fun ls H locs P => lv_bipush C.1 C.2.1 hd hv (k ls H locs P)
theorem x_sipush (C : XC s0 D cI cL p s m meth c own cc nL ret tb) {n : Int} (hd : decode cc pc = .ok (.sipush n, 3)) (hv : (Int16.ofInt n).toInt32 = zI n) (k : XW s0 D p l e R s m args below meth c Q (pc + 3) lv (.int (zI n) :: st) h K cells slots) : XW s0 D p l e R s m args below meth c Q pc lv st h K cells slots :=
  fun ls H locs P => lv_sipush C.1 C.2.1 hd hv (k ls H locs P)
theorem x_lconst (C : XC s0 D cI cL p s m meth c own cc nL ret tb) {n : Fin 2} (hd : decode cc pc = .ok (.lconst n, 1)) (hv : Int64.ofNat (n : Nat) = zL (n : Nat)) (k : XW s0 D p l e R s m args below meth c Q (pc + 1) lv (.long (zL (n : Nat)) :: st) h K cells slots) : XW s0 D p l e R s m args below meth c Q pc lv st h K cells slots :=
  fun ls H locs P => lv_lconst C.1 C.2.1 hd hv (k ls H locs P)
theorem x_ldc (C : XC s0 D cI cL p s m meth c own cc nL ret tb) {index : Nat} {v : Int} (hw : (Cond.constant own index (zI v)).before a0 s0 = true) (hd : decode cc pc = .ok (.ldc index, 2)) (k : XW s0 D p l e R s m args below meth c Q (pc + 2) lv (.int (zI v) :: st) h K cells slots) : XW s0 D p l e R s m args below meth c Q pc lv st h K cells slots :=
  fun ls H locs P => lv_ldc C.1 C.2.1 C.2.2.2.1 (x_w C rfl hw) hd (k ls H locs P)
theorem x_ldc2 (C : XC s0 D cI cL p s m meth c own cc nL ret tb) {index : Nat} {v : Int} (hw : (Cond.constantLong own index (zL v)).before a0 s0 = true) (hd : decode cc pc = .ok (.ldc2_w index, 3)) (k : XW s0 D p l e R s m args below meth c Q (pc + 3) lv (.long (zL v) :: st) h K cells slots) : XW s0 D p l e R s m args below meth c Q pc lv st h K cells slots :=
  fun ls H locs P => lv_ldc2 C.1 C.2.1 C.2.2.2.1 (x_w C rfl hw) hd (k ls H locs P)
theorem x_iload_n (C : XC s0 D cI cL p s m meth c own cc nL ret tb) {i : Fin 4} {x : Int32} (hd : decode cc pc = .ok (.iload_n i, 1)) (hl : a_lk lv i.val = some (.int x)) (k : XW s0 D p l e R s m args below meth c Q (pc + 1) lv (.int x :: st) h K cells slots) : XW s0 D p l e R s m args below meth c Q pc lv st h K cells slots :=
  fun ls H locs P => lv_iload_n C.1 C.2.1 hd rfl (P.1.2.2 _ (a_lk_mem hl)) (k ls H locs P)
theorem x_iload (C : XC s0 D cI cL p s m meth c own cc nL ret tb) {i : Nat} {x : Int32} (hd : decode cc pc = .ok (.iload i, 2)) (hl : a_lk lv i = some (.int x)) (k : XW s0 D p l e R s m args below meth c Q (pc + 2) lv (.int x :: st) h K cells slots) : XW s0 D p l e R s m args below meth c Q pc lv st h K cells slots :=
  fun ls H locs P => lv_iload C.1 C.2.1 hd (P.1.2.2 _ (a_lk_mem hl)) (k ls H locs P)
theorem x_lload_n (C : XC s0 D cI cL p s m meth c own cc nL ret tb) {i : Fin 4} {x : Int64} (hd : decode cc pc = .ok (.lload_n i, 1)) (hl : a_lk lv i.val = some (.long x)) (k : XW s0 D p l e R s m args below meth c Q (pc + 1) lv (.long x :: st) h K cells slots) : XW s0 D p l e R s m args below meth c Q pc lv st h K cells slots :=
  fun ls H locs P => lv_lload_n C.1 C.2.1 hd rfl (P.1.2.2 _ (a_lk_mem hl)) (k ls H locs P)
theorem x_lload (C : XC s0 D cI cL p s m meth c own cc nL ret tb) {i : Nat} {x : Int64} (hd : decode cc pc = .ok (.lload i, 2)) (hl : a_lk lv i = some (.long x)) (k : XW s0 D p l e R s m args below meth c Q (pc + 2) lv (.long x :: st) h K cells slots) : XW s0 D p l e R s m args below meth c Q pc lv st h K cells slots :=
  fun ls H locs P => lv_lload C.1 C.2.1 hd (P.1.2.2 _ (a_lk_mem hl)) (k ls H locs P)
theorem x_aload_n (C : XC s0 D cI cL p s m meth c own cc nL ret tb) {i : Fin 4} {x : Nat} (hd : decode cc pc = .ok (.aload_n i, 1)) (hl : a_lk lv i.val = some (.ref x)) (k : XW s0 D p l e R s m args below meth c Q (pc + 1) lv (.ref x :: st) h K cells slots) : XW s0 D p l e R s m args below meth c Q pc lv st h K cells slots :=
  fun ls H locs P => lv_aload_n C.1 C.2.1 hd rfl (P.1.2.2 _ (a_lk_mem hl)) (k ls H locs P)
theorem x_aload (C : XC s0 D cI cL p s m meth c own cc nL ret tb) {i : Nat} {x : Nat} (hd : decode cc pc = .ok (.aload i, 2)) (hl : a_lk lv i = some (.ref x)) (k : XW s0 D p l e R s m args below meth c Q (pc + 2) lv (.ref x :: st) h K cells slots) : XW s0 D p l e R s m args below meth c Q pc lv st h K cells slots :=
  fun ls H locs P => lv_aload C.1 C.2.1 hd (P.1.2.2 _ (a_lk_mem hl)) (k ls H locs P)
theorem x_istore_n (C : XC s0 D cI cL p s m meth c own cc nL ret tb) {i : Fin 4} {x : Int32} (hd : decode cc pc = .ok (.istore_n i, 1)) (hn : i.val < nL) (k : XW s0 D p l e R s m args below meth c Q (pc + 1) (a_s1 lv i.val (.int x)) st h K cells slots) : XW s0 D p l e R s m args below meth c Q pc lv (.int x :: st) h K cells slots :=
  fun _ H locs P => lv_istore_n C.1 C.2.1 hd rfl P.1 (by rw [C.2.2.1]; exact hn) rfl (fun ls' hl' => k ls' H locs ⟨hl', P.2⟩)
theorem x_istore (C : XC s0 D cI cL p s m meth c own cc nL ret tb) {i : Nat} {x : Int32} (hd : decode cc pc = .ok (.istore i, 2)) (hn : i < nL) (k : XW s0 D p l e R s m args below meth c Q (pc + 2) (a_s1 lv i (.int x)) st h K cells slots) : XW s0 D p l e R s m args below meth c Q pc lv (.int x :: st) h K cells slots :=
  fun _ H locs P => lv_istore C.1 C.2.1 hd P.1 (by rw [C.2.2.1]; exact hn) rfl (fun ls' hl' => k ls' H locs ⟨hl', P.2⟩)
theorem x_astore_n (C : XC s0 D cI cL p s m meth c own cc nL ret tb) {i : Fin 4} {x : Nat} (hd : decode cc pc = .ok (.astore_n i, 1)) (hn : i.val < nL) (k : XW s0 D p l e R s m args below meth c Q (pc + 1) (a_s1 lv i.val (.ref x)) st h K cells slots) : XW s0 D p l e R s m args below meth c Q pc lv (.ref x :: st) h K cells slots :=
  fun _ H locs P => lv_astore_n C.1 C.2.1 hd rfl P.1 (by rw [C.2.2.1]; exact hn) rfl (fun ls' hl' => k ls' H locs ⟨hl', P.2⟩)
theorem x_astore (C : XC s0 D cI cL p s m meth c own cc nL ret tb) {i : Nat} {x : Nat} (hd : decode cc pc = .ok (.astore i, 2)) (hn : i < nL) (k : XW s0 D p l e R s m args below meth c Q (pc + 2) (a_s1 lv i (.ref x)) st h K cells slots) : XW s0 D p l e R s m args below meth c Q pc lv (.ref x :: st) h K cells slots :=
  fun _ H locs P => lv_astore C.1 C.2.1 hd P.1 (by rw [C.2.2.1]; exact hn) rfl (fun ls' hl' => k ls' H locs ⟨hl', P.2⟩)
theorem x_lstore_n (C : XC s0 D cI cL p s m meth c own cc nL ret tb) {i : Fin 4} {x : Int64} (hd : decode cc pc = .ok (.lstore_n i, 1)) (hn : i.val + 1 < nL) (k : XW s0 D p l e R s m args below meth c Q (pc + 1) (a_s2 lv i.val (.long x)) st h K cells slots) : XW s0 D p l e R s m args below meth c Q pc lv (.long x :: st) h K cells slots :=
  fun _ H locs P => lv_lstore_n C.1 C.2.1 hd rfl P.1 (by rw [C.2.2.1]; exact hn) rfl (fun ls' hl' => k ls' H locs ⟨hl', P.2⟩)
theorem x_lstore (C : XC s0 D cI cL p s m meth c own cc nL ret tb) {i : Nat} {x : Int64} (hd : decode cc pc = .ok (.lstore i, 2)) (hn : i + 1 < nL) (k : XW s0 D p l e R s m args below meth c Q (pc + 2) (a_s2 lv i (.long x)) st h K cells slots) : XW s0 D p l e R s m args below meth c Q pc lv (.long x :: st) h K cells slots :=
  fun _ H locs P => lv_lstore C.1 C.2.1 hd P.1 (by rw [C.2.2.1]; exact hn) rfl (fun ls' hl' => k ls' H locs ⟨hl', P.2⟩)
theorem x_iinc (C : XC s0 D cI cL p s m meth c own cc nL ret tb) {i : Nat} {n z : Int} (hd : decode cc pc = .ok (.iinc i n, 3)) (hn : i < nL) (hl : a_lk lv i = some (.int (zI z))) (k : XW s0 D p l e R s m args below meth c Q (pc + 3) (a_s1 lv i (.int (zI (z + n)))) st h K cells slots) : XW s0 D p l e R s m args below meth c Q pc lv st h K cells slots := by
  intro ls H locs P
  obtain ⟨j, hj⟩ := List.getElem?_of_mem (a_lk_mem hl)
  exact lv_iinc C.1 C.2.1 hd P.1 hj (zI_add z n) (by rw [C.2.2.1]; exact hn) rfl (fun ls' hl' => k ls' H locs ⟨hl', P.2⟩)
theorem x_iadd (C : XC s0 D cI cL p s m meth c own cc nL ret tb) {x y : Int} (hd : decode cc pc = .ok (.iadd, 1)) (k : XW s0 D p l e R s m args below meth c Q (pc + 1) lv (.int (zI (x + y)) :: st) h K cells slots) : XW s0 D p l e R s m args below meth c Q pc lv (.int (zI y) :: .int (zI x) :: st) h K cells slots :=
  fun ls H locs P => lv_iadd C.1 C.2.1 hd (by rw [zI_add]; exact k ls H locs P)
theorem x_isub (C : XC s0 D cI cL p s m meth c own cc nL ret tb) {x y : Int} (hd : decode cc pc = .ok (.isub, 1)) (k : XW s0 D p l e R s m args below meth c Q (pc + 1) lv (.int (zI (x - y)) :: st) h K cells slots) : XW s0 D p l e R s m args below meth c Q pc lv (.int (zI y) :: .int (zI x) :: st) h K cells slots :=
  fun ls H locs P => lv_isub C.1 C.2.1 hd (by rw [zI_sub]; exact k ls H locs P)
theorem x_imul (C : XC s0 D cI cL p s m meth c own cc nL ret tb) {x y : Int} (hd : decode cc pc = .ok (.imul, 1)) (k : XW s0 D p l e R s m args below meth c Q (pc + 1) lv (.int (zI (x * y)) :: st) h K cells slots) : XW s0 D p l e R s m args below meth c Q pc lv (.int (zI y) :: .int (zI x) :: st) h K cells slots :=
  fun ls H locs P => lv_imul C.1 C.2.1 hd (by rw [zI_mul]; exact k ls H locs P)
theorem x_idiv (C : XC s0 D cI cL p s m meth c own cc nL ret tb) {x y : Int} (hd : decode cc pc = .ok (.idiv, 1)) (x1 : 0 ≤ x) (x2 : x < 2147483648) (y1 : 0 < y) (y2 : y < 2147483648) (k : XW s0 D p l e R s m args below meth c Q (pc + 1) lv (.int (zI (x / y)) :: st) h K cells slots) : XW s0 D p l e R s m args below meth c Q pc lv (.int (zI y) :: .int (zI x) :: st) h K cells slots :=
  fun ls H locs P => lv_idiv C.1 C.2.1 hd (fun q => by rw [← zI_0, zI_eq (by omega) y2 (by omega) (by omega)] at q; omega) (by rw [zI_div x1 x2 y1 y2]; exact k ls H locs P)
theorem x_irem (C : XC s0 D cI cL p s m meth c own cc nL ret tb) {x y : Int} (hd : decode cc pc = .ok (.irem, 1)) (x1 : 0 ≤ x) (x2 : x < 2147483648) (y1 : 0 < y) (y2 : y < 2147483648) (k : XW s0 D p l e R s m args below meth c Q (pc + 1) lv (.int (zI (x % y)) :: st) h K cells slots) : XW s0 D p l e R s m args below meth c Q pc lv (.int (zI y) :: .int (zI x) :: st) h K cells slots :=
  fun ls H locs P => lv_irem C.1 C.2.1 hd (fun q => by rw [← zI_0, zI_eq (by omega) y2 (by omega) (by omega)] at q; omega) (by rw [zI_rem x1 x2 y1 y2]; exact k ls H locs P)
theorem x_ishr (C : XC s0 D cI cL p s m meth c own cc nL ret tb) {x y q : Int} (n : Nat) (hd : decode cc pc = .ok (.ishr, 1)) (hy : y = (n : Int)) (hq : 2 ^ n = q) (hn : n < 32) (x1 : -2147483648 ≤ x) (x2 : x < 2147483648) (k : XW s0 D p l e R s m args below meth c Q (pc + 1) lv (.int (zI (x / q)) :: st) h K cells slots) : XW s0 D p l e R s m args below meth c Q pc lv (.int (zI y) :: .int (zI x) :: st) h K cells slots := by
  subst hy
  subst hq
  exact fun ls H locs P => lv_ishr C.1 C.2.1 hd (by rw [zI_shr n hn x1 x2]; exact k ls H locs P)
theorem x_ishl (C : XC s0 D cI cL p s m meth c own cc nL ret tb) {x y q : Int} (n : Nat) (hd : decode cc pc = .ok (.ishl, 1)) (hy : y = (n : Int)) (hq : 2 ^ n = q) (hn : n < 32) (k : XW s0 D p l e R s m args below meth c Q (pc + 1) lv (.int (zI (x * q)) :: st) h K cells slots) : XW s0 D p l e R s m args below meth c Q pc lv (.int (zI y) :: .int (zI x) :: st) h K cells slots := by
  subst hy
  subst hq
  exact fun ls H locs P => lv_ishl C.1 C.2.1 hd (by rw [zI_shl x n hn]; exact k ls H locs P)
theorem x_iand (C : XC s0 D cI cL p s m meth c own cc nL ret tb) {x y z : Int} (hd : decode cc pc = .ok (.iand, 1)) (he : zI x &&& zI y = zI z) (k : XW s0 D p l e R s m args below meth c Q (pc + 1) lv (.int (zI z) :: st) h K cells slots) : XW s0 D p l e R s m args below meth c Q pc lv (.int (zI y) :: .int (zI x) :: st) h K cells slots :=
  fun ls H locs P => lv_iand C.1 C.2.1 hd (by rw [he]; exact k ls H locs P)
theorem x_ladd (C : XC s0 D cI cL p s m meth c own cc nL ret tb) {x y : Int} (hd : decode cc pc = .ok (.ladd, 1)) (k : XW s0 D p l e R s m args below meth c Q (pc + 1) lv (.long (zL (x + y)) :: st) h K cells slots) : XW s0 D p l e R s m args below meth c Q pc lv (.long (zL y) :: .long (zL x) :: st) h K cells slots :=
  fun ls H locs P => lv_ladd C.1 C.2.1 hd (by rw [zL_add]; exact k ls H locs P)
theorem x_lsub (C : XC s0 D cI cL p s m meth c own cc nL ret tb) {x y : Int} (hd : decode cc pc = .ok (.lsub, 1)) (k : XW s0 D p l e R s m args below meth c Q (pc + 1) lv (.long (zL (x - y)) :: st) h K cells slots) : XW s0 D p l e R s m args below meth c Q pc lv (.long (zL y) :: .long (zL x) :: st) h K cells slots :=
  fun ls H locs P => lv_lsub C.1 C.2.1 hd (by rw [zL_sub]; exact k ls H locs P)
theorem x_lmul (C : XC s0 D cI cL p s m meth c own cc nL ret tb) {x y : Int} (hd : decode cc pc = .ok (.lmul, 1)) (k : XW s0 D p l e R s m args below meth c Q (pc + 1) lv (.long (zL (x * y)) :: st) h K cells slots) : XW s0 D p l e R s m args below meth c Q pc lv (.long (zL y) :: .long (zL x) :: st) h K cells slots :=
  fun ls H locs P => lv_lmul C.1 C.2.1 hd (by rw [zL_mul]; exact k ls H locs P)
theorem x_ldiv (C : XC s0 D cI cL p s m meth c own cc nL ret tb) {x y : Int} (hd : decode cc pc = .ok (.ldiv, 1)) (x1 : 0 ≤ x) (x2 : x < 9223372036854775808) (y1 : 0 < y) (y2 : y < 9223372036854775808) (k : XW s0 D p l e R s m args below meth c Q (pc + 1) lv (.long (zL (x / y)) :: st) h K cells slots) : XW s0 D p l e R s m args below meth c Q pc lv (.long (zL y) :: .long (zL x) :: st) h K cells slots :=
  fun ls H locs P => lv_ldiv C.1 C.2.1 hd (fun q => by rw [show (0 : Int64) = zL 0 from rfl, zL_eq (by omega) y2 (by omega) (by omega)] at q; omega) (by rw [zL_div x1 x2 y1 y2]; exact k ls H locs P)
theorem x_lrem (C : XC s0 D cI cL p s m meth c own cc nL ret tb) {x y : Int} (hd : decode cc pc = .ok (.lrem, 1)) (x1 : 0 ≤ x) (x2 : x < 9223372036854775808) (y1 : 0 < y) (y2 : y < 9223372036854775808) (k : XW s0 D p l e R s m args below meth c Q (pc + 1) lv (.long (zL (x % y)) :: st) h K cells slots) : XW s0 D p l e R s m args below meth c Q pc lv (.long (zL y) :: .long (zL x) :: st) h K cells slots :=
  fun ls H locs P => lv_lrem C.1 C.2.1 hd (fun q => by rw [show (0 : Int64) = zL 0 from rfl, zL_eq (by omega) y2 (by omega) (by omega)] at q; omega) (by rw [zL_rem x1 x2 y1 y2]; exact k ls H locs P)
theorem x_land255 (C : XC s0 D cI cL p s m meth c own cc nL ret tb) {x : Int} (hd : decode cc pc = .ok (.land, 1)) (k : XW s0 D p l e R s m args below meth c Q (pc + 1) lv (.long (zL (x % 256)) :: st) h K cells slots) : XW s0 D p l e R s m args below meth c Q pc lv (.long (zL 255) :: .long (zL x) :: st) h K cells slots :=
  fun ls H locs P => lv_land C.1 C.2.1 hd (by rw [show zL 255 = 255 from rfl, zL_and255]; exact k ls H locs P)
theorem x_lshr (C : XC s0 D cI cL p s m meth c own cc nL ret tb) {x y q : Int} (n : Nat) (hd : decode cc pc = .ok (.lshr, 1)) (hy : y = (n : Int)) (hq : 2 ^ n = q) (hn : n < 64) (x1 : 0 ≤ x) (x2 : x < 9223372036854775808) (k : XW s0 D p l e R s m args below meth c Q (pc + 1) lv (.long (zL (x / q)) :: st) h K cells slots) : XW s0 D p l e R s m args below meth c Q pc lv (.int (zI y) :: .long (zL x) :: st) h K cells slots := by
  subst hy
  subst hq
  exact fun ls H locs P => lv_lshr C.1 C.2.1 hd (zL_shr n hn x1 x2) (k ls H locs P)
theorem x_lshl (C : XC s0 D cI cL p s m meth c own cc nL ret tb) {x y q : Int} (n : Nat) (hd : decode cc pc = .ok (.lshl, 1)) (hy : y = (n : Int)) (hq : 2 ^ n = q) (hn : n < 64) (k : XW s0 D p l e R s m args below meth c Q (pc + 1) lv (.long (zL (x * q)) :: st) h K cells slots) : XW s0 D p l e R s m args below meth c Q pc lv (.int (zI y) :: .long (zL x) :: st) h K cells slots := by
  subst hy
  subst hq
  exact fun ls H locs P => lv_lshl C.1 C.2.1 hd (zL_shl x n hn) (k ls H locs P)
theorem x_i2l (C : XC s0 D cI cL p s m meth c own cc nL ret tb) {x : Int} (hd : decode cc pc = .ok (.i2l, 1)) (x1 : -2147483648 ≤ x) (x2 : x < 2147483648) (k : XW s0 D p l e R s m args below meth c Q (pc + 1) lv (.long (zL x) :: st) h K cells slots) : XW s0 D p l e R s m args below meth c Q pc lv (.int (zI x) :: st) h K cells slots :=
  fun ls H locs P => lv_i2l C.1 C.2.1 hd (zI_l x1 x2) (k ls H locs P)
theorem x_l2i (C : XC s0 D cI cL p s m meth c own cc nL ret tb) {x : Int} (hd : decode cc pc = .ok (.l2i, 1)) (k : XW s0 D p l e R s m args below meth c Q (pc + 1) lv (.int (zI x) :: st) h K cells slots) : XW s0 D p l e R s m args below meth c Q pc lv (.long (zL x) :: st) h K cells slots :=
  fun ls H locs P => lv_l2i C.1 C.2.1 hd (zL_i x) (k ls H locs P)
theorem x_dup (C : XC s0 D cI cL p s m meth c own cc nL ret tb) {v : Value} (hd : decode cc pc = .ok (.dup, 1)) (hv : v.category = 1) (k : XW s0 D p l e R s m args below meth c Q (pc + 1) lv (v :: v :: st) h K cells slots) : XW s0 D p l e R s m args below meth c Q pc lv (v :: st) h K cells slots :=
  fun ls H locs P => lv_dup C.1 C.2.1 hd hv (k ls H locs P)
theorem x_pop (C : XC s0 D cI cL p s m meth c own cc nL ret tb) {v : Value} (hd : decode cc pc = .ok (.pop, 1)) (hv : v.category = 1) (k : XW s0 D p l e R s m args below meth c Q (pc + 1) lv st h K cells slots) : XW s0 D p l e R s m args below meth c Q pc lv (v :: st) h K cells slots :=
  fun ls H locs P => lv_pop C.1 C.2.1 hd hv (k ls H locs P)
theorem x_dup_x1 (C : XC s0 D cI cL p s m meth c own cc nL ret tb) {v w : Value} (hd : decode cc pc = .ok (.dup_x1, 1)) (hv : v.category = 1) (hw : w.category = 1) (k : XW s0 D p l e R s m args below meth c Q (pc + 1) lv (v :: w :: v :: st) h K cells slots) : XW s0 D p l e R s m args below meth c Q pc lv (v :: w :: st) h K cells slots :=
  fun ls H locs P => lv_dup_x1 C.1 C.2.1 hd hv hw (k ls H locs P)
theorem x_dup2 (C : XC s0 D cI cL p s m meth c own cc nL ret tb) {v w : Value} (hd : decode cc pc = .ok (.dup2, 1)) (hv : v.category = 1) (hw : w.category = 1) (k : XW s0 D p l e R s m args below meth c Q (pc + 1) lv (v :: w :: v :: w :: st) h K cells slots) : XW s0 D p l e R s m args below meth c Q pc lv (v :: w :: st) h K cells slots :=
  fun ls H locs P => lv_dup2_11 C.1 C.2.1 hd hv hw (k ls H locs P)
theorem x_goto (C : XC s0 D cI cL p s m meth c own cc nL ret tb) {off : Int} {tgt : Nat} (hd : decode cc pc = .ok (.goto off, 3)) (ht : (pc : Int) + off = (tgt : Int)) (k : XW s0 D p l e R s m args below meth c Q tgt lv st h K cells slots) : XW s0 D p l e R s m args below meth c Q pc lv st h K cells slots :=
  fun ls H locs P => lv_goto C.1 C.2.1 hd ht (k ls H locs P)
end Walk
/-! two heaps are one: place by place -/
theorem a_eq1 {h1 h2 : AH} (i : Nat) (e1 : h1 i = h2 i) (o : ∀ q, q ≠ i → h1 q = h2 q) : h1 = h2 := by
  funext q
  by_cases a : q = i
  · subst a; exact e1
  · exact o q a
theorem a_eq2 {h1 h2 : AH} (i j : Nat) (e1 : h1 i = h2 i) (e2 : h1 j = h2 j) (o : ∀ q, q ≠ i → q ≠ j → h1 q = h2 q) : h1 = h2 := by
  funext q
  by_cases a : q = i
  · subst a; exact e1
  · by_cases b : q = j
    · subst b; exact e2
    · exact o q a b
theorem a_eq3 {h1 h2 : AH} (i j k : Nat) (e1 : h1 i = h2 i) (e2 : h1 j = h2 j) (e3 : h1 k = h2 k) (o : ∀ q, q ≠ i → q ≠ j → q ≠ k → h1 q = h2 q) : h1 = h2 := by
  funext q
  by_cases a : q = i
  · subst a; exact e1
  · by_cases b : q = j
    · subst b; exact e2
    · by_cases c : q = k
      · subst c; exact e3
      · exact o q a b c
end
section
/-! branches -/
section Branch
variable {a0 : Array Value} {s0 : State} {D : va_G} {cI cL : ClassId} {p : Program} {l : Launch} {e : Env} {R : Room} {s : State} {m : MethodId} {args : Array Value} {below : List Frame} {meth : Method} {c : Code} {Q : State → Prop} {tb : List ExceptionTableEntry}
variable {own : String} {cc : ByteArray} {nL : Nat} {ret : Option FieldType} {pc : Nat} {lv : List (Nat × Value)} {st : List Value} {h : AH} {K cells slots : Nat}
theorem x_if_eq (C : XC s0 D cI cL p s m meth c own cc nL ret tb) {x : Int} {off : Int} {tgt : Nat} (hd : decode cc pc = .ok (.ifCond .eq off, 3)) (ht : (pc : Int) + off = (tgt : Int)) (x1 : -2147483648 ≤ x) (x2 : x < 2147483648) (kt : x = 0 → XW s0 D p l e R s m args below meth c Q tgt lv st h K cells slots) (kf : x ≠ 0 → XW s0 D p l e R s m args below meth c Q (pc + 3) lv st h K cells slots) : XW s0 D p l e R s m args below meth c Q pc lv (.int (zI x) :: st) h K cells slots := by
  intro ls H locs P
  refine lv_if_eq C.1 C.2.1 hd ht (fun q => kt ?_ ls H locs P) (fun q => kf ?_ ls H locs P) <;> (rw [← zI_0, zI_eq x1 x2 (by omega) (by omega)] at q; omega)
theorem x_icmp_eq (C : XC s0 D cI cL p s m meth c own cc nL ret tb) {x y : Int} {off : Int} {tgt : Nat} (hd : decode cc pc = .ok (.if_icmp .eq off, 3)) (ht : (pc : Int) + off = (tgt : Int)) (x1 : -2147483648 ≤ x) (x2 : x < 2147483648) (y1 : -2147483648 ≤ y) (y2 : y < 2147483648) (kt : x = y → XW s0 D p l e R s m args below meth c Q tgt lv st h K cells slots) (kf : x ≠ y → XW s0 D p l e R s m args below meth c Q (pc + 3) lv st h K cells slots) : XW s0 D p l e R s m args below meth c Q pc lv (.int (zI y) :: .int (zI x) :: st) h K cells slots := by
  intro ls H locs P
  refine lv_icmp_eq C.1 C.2.1 hd ht (fun q => kt ?_ ls H locs P) (fun q => kf ?_ ls H locs P) <;> (rw [zI_eq x1 x2 y1 y2] at q; omega)
theorem x_if_ne (C : XC s0 D cI cL p s m meth c own cc nL ret tb) {x : Int} {off : Int} {tgt : Nat} (hd : decode cc pc = .ok (.ifCond .ne off, 3)) (ht : (pc : Int) + off = (tgt : Int)) (x1 : -2147483648 ≤ x) (x2 : x < 2147483648) (kt : x ≠ 0 → XW s0 D p l e R s m args below meth c Q tgt lv st h K cells slots) (kf : x = 0 → XW s0 D p l e R s m args below meth c Q (pc + 3) lv st h K cells slots) : XW s0 D p l e R s m args below meth c Q pc lv (.int (zI x) :: st) h K cells slots := by
  intro ls H locs P
  refine lv_if_ne C.1 C.2.1 hd ht (fun q => kt ?_ ls H locs P) (fun q => kf ?_ ls H locs P) <;> (rw [← zI_0, zI_eq x1 x2 (by omega) (by omega)] at q; omega)
theorem x_icmp_ne (C : XC s0 D cI cL p s m meth c own cc nL ret tb) {x y : Int} {off : Int} {tgt : Nat} (hd : decode cc pc = .ok (.if_icmp .ne off, 3)) (ht : (pc : Int) + off = (tgt : Int)) (x1 : -2147483648 ≤ x) (x2 : x < 2147483648) (y1 : -2147483648 ≤ y) (y2 : y < 2147483648) (kt : x ≠ y → XW s0 D p l e R s m args below meth c Q tgt lv st h K cells slots) (kf : x = y → XW s0 D p l e R s m args below meth c Q (pc + 3) lv st h K cells slots) : XW s0 D p l e R s m args below meth c Q pc lv (.int (zI y) :: .int (zI x) :: st) h K cells slots := by
  intro ls H locs P
  refine lv_icmp_ne C.1 C.2.1 hd ht (fun q => kt ?_ ls H locs P) (fun q => kf ?_ ls H locs P) <;> (rw [zI_eq x1 x2 y1 y2] at q; omega)
theorem x_if_lt (C : XC s0 D cI cL p s m meth c own cc nL ret tb) {x : Int} {off : Int} {tgt : Nat} (hd : decode cc pc = .ok (.ifCond .lt off, 3)) (ht : (pc : Int) + off = (tgt : Int)) (x1 : -2147483648 ≤ x) (x2 : x < 2147483648) (kt : x < 0 → XW s0 D p l e R s m args below meth c Q tgt lv st h K cells slots) (kf : 0 ≤ x → XW s0 D p l e R s m args below meth c Q (pc + 3) lv st h K cells slots) : XW s0 D p l e R s m args below meth c Q pc lv (.int (zI x) :: st) h K cells slots := by
  intro ls H locs P
  refine lv_if_lt C.1 C.2.1 hd ht (fun q => kt ?_ ls H locs P) (fun q => kf ?_ ls H locs P) <;> (rw [← zI_0, zI_lt x1 x2 (by omega) (by omega)] at q; omega)
theorem x_icmp_lt (C : XC s0 D cI cL p s m meth c own cc nL ret tb) {x y : Int} {off : Int} {tgt : Nat} (hd : decode cc pc = .ok (.if_icmp .lt off, 3)) (ht : (pc : Int) + off = (tgt : Int)) (x1 : -2147483648 ≤ x) (x2 : x < 2147483648) (y1 : -2147483648 ≤ y) (y2 : y < 2147483648) (kt : x < y → XW s0 D p l e R s m args below meth c Q tgt lv st h K cells slots) (kf : y ≤ x → XW s0 D p l e R s m args below meth c Q (pc + 3) lv st h K cells slots) : XW s0 D p l e R s m args below meth c Q pc lv (.int (zI y) :: .int (zI x) :: st) h K cells slots := by
  intro ls H locs P
  refine lv_icmp_lt C.1 C.2.1 hd ht (fun q => kt ?_ ls H locs P) (fun q => kf ?_ ls H locs P) <;> (rw [zI_lt x1 x2 y1 y2] at q; omega)
theorem x_if_ge (C : XC s0 D cI cL p s m meth c own cc nL ret tb) {x : Int} {off : Int} {tgt : Nat} (hd : decode cc pc = .ok (.ifCond .ge off, 3)) (ht : (pc : Int) + off = (tgt : Int)) (x1 : -2147483648 ≤ x) (x2 : x < 2147483648) (kt : 0 ≤ x → XW s0 D p l e R s m args below meth c Q tgt lv st h K cells slots) (kf : x < 0 → XW s0 D p l e R s m args below meth c Q (pc + 3) lv st h K cells slots) : XW s0 D p l e R s m args below meth c Q pc lv (.int (zI x) :: st) h K cells slots := by
  intro ls H locs P
  refine lv_if_ge C.1 C.2.1 hd ht (fun q => kt ?_ ls H locs P) (fun q => kf ?_ ls H locs P) <;> (rw [← zI_0, zI_le (by omega) (by omega) x1 x2] at q; omega)
theorem x_icmp_ge (C : XC s0 D cI cL p s m meth c own cc nL ret tb) {x y : Int} {off : Int} {tgt : Nat} (hd : decode cc pc = .ok (.if_icmp .ge off, 3)) (ht : (pc : Int) + off = (tgt : Int)) (x1 : -2147483648 ≤ x) (x2 : x < 2147483648) (y1 : -2147483648 ≤ y) (y2 : y < 2147483648) (kt : y ≤ x → XW s0 D p l e R s m args below meth c Q tgt lv st h K cells slots) (kf : x < y → XW s0 D p l e R s m args below meth c Q (pc + 3) lv st h K cells slots) : XW s0 D p l e R s m args below meth c Q pc lv (.int (zI y) :: .int (zI x) :: st) h K cells slots := by
  intro ls H locs P
  refine lv_icmp_ge C.1 C.2.1 hd ht (fun q => kt ?_ ls H locs P) (fun q => kf ?_ ls H locs P) <;> (rw [zI_le y1 y2 x1 x2] at q; omega)
theorem x_if_gt (C : XC s0 D cI cL p s m meth c own cc nL ret tb) {x : Int} {off : Int} {tgt : Nat} (hd : decode cc pc = .ok (.ifCond .gt off, 3)) (ht : (pc : Int) + off = (tgt : Int)) (x1 : -2147483648 ≤ x) (x2 : x < 2147483648) (kt : 0 < x → XW s0 D p l e R s m args below meth c Q tgt lv st h K cells slots) (kf : x ≤ 0 → XW s0 D p l e R s m args below meth c Q (pc + 3) lv st h K cells slots) : XW s0 D p l e R s m args below meth c Q pc lv (.int (zI x) :: st) h K cells slots := by
  intro ls H locs P
  refine lv_if_gt C.1 C.2.1 hd ht (fun q => kt ?_ ls H locs P) (fun q => kf ?_ ls H locs P) <;> (rw [← zI_0, zI_lt (by omega) (by omega) x1 x2] at q; omega)
theorem x_icmp_gt (C : XC s0 D cI cL p s m meth c own cc nL ret tb) {x y : Int} {off : Int} {tgt : Nat} (hd : decode cc pc = .ok (.if_icmp .gt off, 3)) (ht : (pc : Int) + off = (tgt : Int)) (x1 : -2147483648 ≤ x) (x2 : x < 2147483648) (y1 : -2147483648 ≤ y) (y2 : y < 2147483648) (kt : y < x → XW s0 D p l e R s m args below meth c Q tgt lv st h K cells slots) (kf : x ≤ y → XW s0 D p l e R s m args below meth c Q (pc + 3) lv st h K cells slots) : XW s0 D p l e R s m args below meth c Q pc lv (.int (zI y) :: .int (zI x) :: st) h K cells slots := by
  intro ls H locs P
  refine lv_icmp_gt C.1 C.2.1 hd ht (fun q => kt ?_ ls H locs P) (fun q => kf ?_ ls H locs P) <;> (rw [zI_lt y1 y2 x1 x2] at q; omega)
theorem x_if_le (C : XC s0 D cI cL p s m meth c own cc nL ret tb) {x : Int} {off : Int} {tgt : Nat} (hd : decode cc pc = .ok (.ifCond .le off, 3)) (ht : (pc : Int) + off = (tgt : Int)) (x1 : -2147483648 ≤ x) (x2 : x < 2147483648) (kt : x ≤ 0 → XW s0 D p l e R s m args below meth c Q tgt lv st h K cells slots) (kf : 0 < x → XW s0 D p l e R s m args below meth c Q (pc + 3) lv st h K cells slots) : XW s0 D p l e R s m args below meth c Q pc lv (.int (zI x) :: st) h K cells slots := by
  intro ls H locs P
  refine lv_if_le C.1 C.2.1 hd ht (fun q => kt ?_ ls H locs P) (fun q => kf ?_ ls H locs P) <;> (rw [← zI_0, zI_le x1 x2 (by omega) (by omega)] at q; omega)
theorem x_icmp_le (C : XC s0 D cI cL p s m meth c own cc nL ret tb) {x y : Int} {off : Int} {tgt : Nat} (hd : decode cc pc = .ok (.if_icmp .le off, 3)) (ht : (pc : Int) + off = (tgt : Int)) (x1 : -2147483648 ≤ x) (x2 : x < 2147483648) (y1 : -2147483648 ≤ y) (y2 : y < 2147483648) (kt : x ≤ y → XW s0 D p l e R s m args below meth c Q tgt lv st h K cells slots) (kf : y < x → XW s0 D p l e R s m args below meth c Q (pc + 3) lv st h K cells slots) : XW s0 D p l e R s m args below meth c Q pc lv (.int (zI y) :: .int (zI x) :: st) h K cells slots := by
  intro ls H locs P
  refine lv_icmp_le C.1 C.2.1 hd ht (fun q => kt ?_ ls H locs P) (fun q => kf ?_ ls H locs P) <;> (rw [zI_le x1 x2 y1 y2] at q; omega)
theorem x_lcmp (C : XC s0 D cI cL p s m meth c own cc nL ret tb) {x y : Int} (hd : decode cc pc = .ok (.lcmp, 1)) (k : XW s0 D p l e R s m args below meth c Q (pc + 1) lv (.int (lg_cmp (zL x) (zL y)) :: st) h K cells slots) : XW s0 D p l e R s m args below meth c Q pc lv (.long (zL y) :: .long (zL x) :: st) h K cells slots :=
  fun ls H locs P => W.lcmp C.1 C.2.1 hd (k ls H locs P)
theorem x_lif_eq (C : XC s0 D cI cL p s m meth c own cc nL ret tb) {x y : Int} {off : Int} {tgt : Nat} (hd : decode cc pc = .ok (.ifCond .eq off, 3)) (ht : (pc : Int) + off = (tgt : Int)) (x1 : -9223372036854775808 ≤ x) (x2 : x < 9223372036854775808) (y1 : -9223372036854775808 ≤ y) (y2 : y < 9223372036854775808) (kt : x = y → XW s0 D p l e R s m args below meth c Q tgt lv st h K cells slots) (kf : x ≠ y → XW s0 D p l e R s m args below meth c Q (pc + 3) lv st h K cells slots) : XW s0 D p l e R s m args below meth c Q pc lv (.int (lg_cmp (zL x) (zL y)) :: st) h K cells slots := by
  intro ls H locs P
  refine lv_if_eq C.1 C.2.1 hd ht (fun q => kt ?_ ls H locs P) (fun q => kf ?_ ls H locs P) <;> (rw [lg_cmp_eq, zL_eq x1 x2 y1 y2] at q; omega)
theorem x_lif_ne (C : XC s0 D cI cL p s m meth c own cc nL ret tb) {x y : Int} {off : Int} {tgt : Nat} (hd : decode cc pc = .ok (.ifCond .ne off, 3)) (ht : (pc : Int) + off = (tgt : Int)) (x1 : -9223372036854775808 ≤ x) (x2 : x < 9223372036854775808) (y1 : -9223372036854775808 ≤ y) (y2 : y < 9223372036854775808) (kt : x ≠ y → XW s0 D p l e R s m args below meth c Q tgt lv st h K cells slots) (kf : x = y → XW s0 D p l e R s m args below meth c Q (pc + 3) lv st h K cells slots) : XW s0 D p l e R s m args below meth c Q pc lv (.int (lg_cmp (zL x) (zL y)) :: st) h K cells slots := by
  intro ls H locs P
  refine lv_if_ne C.1 C.2.1 hd ht (fun q => kt ?_ ls H locs P) (fun q => kf ?_ ls H locs P) <;> (rw [lg_cmp_eq, zL_eq x1 x2 y1 y2] at q; omega)
theorem x_lif_lt (C : XC s0 D cI cL p s m meth c own cc nL ret tb) {x y : Int} {off : Int} {tgt : Nat} (hd : decode cc pc = .ok (.ifCond .lt off, 3)) (ht : (pc : Int) + off = (tgt : Int)) (x1 : -9223372036854775808 ≤ x) (x2 : x < 9223372036854775808) (y1 : -9223372036854775808 ≤ y) (y2 : y < 9223372036854775808) (kt : x < y → XW s0 D p l e R s m args below meth c Q tgt lv st h K cells slots) (kf : y ≤ x → XW s0 D p l e R s m args below meth c Q (pc + 3) lv st h K cells slots) : XW s0 D p l e R s m args below meth c Q pc lv (.int (lg_cmp (zL x) (zL y)) :: st) h K cells slots := by
  intro ls H locs P
  refine lv_if_lt C.1 C.2.1 hd ht (fun q => kt ?_ ls H locs P) (fun q => kf ?_ ls H locs P) <;> (rw [lg_cmp_lt, zL_lt x1 x2 y1 y2] at q; omega)
theorem x_lif_ge (C : XC s0 D cI cL p s m meth c own cc nL ret tb) {x y : Int} {off : Int} {tgt : Nat} (hd : decode cc pc = .ok (.ifCond .ge off, 3)) (ht : (pc : Int) + off = (tgt : Int)) (x1 : -9223372036854775808 ≤ x) (x2 : x < 9223372036854775808) (y1 : -9223372036854775808 ≤ y) (y2 : y < 9223372036854775808) (kt : y ≤ x → XW s0 D p l e R s m args below meth c Q tgt lv st h K cells slots) (kf : x < y → XW s0 D p l e R s m args below meth c Q (pc + 3) lv st h K cells slots) : XW s0 D p l e R s m args below meth c Q pc lv (.int (lg_cmp (zL x) (zL y)) :: st) h K cells slots := by
  intro ls H locs P
  refine lv_if_ge C.1 C.2.1 hd ht (fun q => kt ?_ ls H locs P) (fun q => kf ?_ ls H locs P) <;> (rw [lg_cmp_ge, zL_le y1 y2 x1 x2] at q; omega)
theorem x_lif_gt (C : XC s0 D cI cL p s m meth c own cc nL ret tb) {x y : Int} {off : Int} {tgt : Nat} (hd : decode cc pc = .ok (.ifCond .gt off, 3)) (ht : (pc : Int) + off = (tgt : Int)) (x1 : -9223372036854775808 ≤ x) (x2 : x < 9223372036854775808) (y1 : -9223372036854775808 ≤ y) (y2 : y < 9223372036854775808) (kt : y < x → XW s0 D p l e R s m args below meth c Q tgt lv st h K cells slots) (kf : x ≤ y → XW s0 D p l e R s m args below meth c Q (pc + 3) lv st h K cells slots) : XW s0 D p l e R s m args below meth c Q pc lv (.int (lg_cmp (zL x) (zL y)) :: st) h K cells slots := by
  intro ls H locs P
  refine lv_if_gt C.1 C.2.1 hd ht (fun q => kt ?_ ls H locs P) (fun q => kf ?_ ls H locs P) <;> (rw [lg_cmp_gt, zL_lt y1 y2 x1 x2] at q; omega)
theorem x_lif_le (C : XC s0 D cI cL p s m meth c own cc nL ret tb) {x y : Int} {off : Int} {tgt : Nat} (hd : decode cc pc = .ok (.ifCond .le off, 3)) (ht : (pc : Int) + off = (tgt : Int)) (x1 : -9223372036854775808 ≤ x) (x2 : x < 9223372036854775808) (y1 : -9223372036854775808 ≤ y) (y2 : y < 9223372036854775808) (kt : x ≤ y → XW s0 D p l e R s m args below meth c Q tgt lv st h K cells slots) (kf : y < x → XW s0 D p l e R s m args below meth c Q (pc + 3) lv st h K cells slots) : XW s0 D p l e R s m args below meth c Q pc lv (.int (lg_cmp (zL x) (zL y)) :: st) h K cells slots := by
  intro ls H locs P
  refine lv_if_le C.1 C.2.1 hd ht (fun q => kt ?_ ls H locs P) (fun q => kf ?_ ls H locs P) <;> (rw [lg_cmp_le, zL_le x1 x2 y1 y2] at q; omega)
end Branch
end
section
/-! fields, rows, new cells -/
def a_cl (a0 : Array Value) (s0 : State) (ci : Nat) (Cn : String) (T : u_T) (N : Nat) (ty : Nat → FieldType) : Prop :=
  vwCl[ci]? = some (Cn, T, N) ∧ (∀ w ∈ u_ws Cn T N, w.before a0 s0 = true) ∧ (∀ k, k < N → parseFieldDescriptor (T k).2.2.1 = some (ty k)) ∧ (∀ a, a < N → ∀ b, b < N → a ≠ b → (T a).2.1 ≠ (T b).2.1)
theorem u_ws_good {Cn : String} {T : u_T} {N : Nat} (w : Cond) (hw : w ∈ u_ws Cn T N) : goodWord w = true := by
  obtain ⟨k, -, e⟩ := List.mem_map.mp hw
  subst e
  unfold u_lay
  split <;> rfl
theorem XP.put {s0 : State} {D : va_G} {nL : Nat} {lv : List (Nat × Value)} {h : AH} {K : Nat} {ls : Array Slot} {H H' : Heap} {locs : List Loc} (P : XP s0 D nL lv h K ls H locs) {a k0 : Nat} {x : va_E} (z : H'.size = H.size) (oq : ∀ q : Nat, q ≠ s0.heap.size + a → H'[q]? = H[q]?) (hx : va_at D vwCl (s0.heap.size + a, x) H') : XP s0 D nL lv (a_up h a x) K ls H' (locs ++ [⟨s0.heap.size + a, k0⟩]) := by
  refine ⟨P.1, by rw [z]; exact P.2.1, fun q hq => ?_, fun k y hy => ?_, fun q hq => ?_⟩
  · rw [oq q (by omega)]; exact P.2.2.1 q hq
  · by_cases e : k = a
    · subst e
      rw [a_up_s] at hy
      cases hy
      exact hx
    · rw [a_up_n e] at hy
      exact (P.2.2.2.1 k y hy).kept (oq _ (by show s0.heap.size + k ≠ _; omega))
  · rcases List.mem_append.mp hq with h1 | h1
    · exact P.2.2.2.2 q h1
    · rw [List.mem_singleton.mp h1]; exact Nat.le_add_right _ _
theorem XP.push {s0 : State} {D : va_G} {nL : Nat} {lv : List (Nat × Value)} {h : AH} {K : Nat} {ls : Array Slot} {H H' : Heap} {locs : List Loc} (P : XP s0 D nL lv h K ls H locs) {x : va_E} (z : H'.size = H.size + 1) (oq : ∀ q : Nat, q < H.size → H'[q]? = H[q]?) (hx : va_at D vwCl (s0.heap.size + K, x) H') : XP s0 D nL lv (a_up h K x) (K + 1) ls H' locs := by
  have hz := P.2.1
  refine ⟨P.1, by omega, fun q hq => ?_, fun k y hy => ?_, P.2.2.2.2⟩
  · rw [oq q (by omega)]; exact P.2.2.1 q hq
  · by_cases e : k = K
    · subst e
      rw [a_up_s] at hy
      cases hy
      exact hx
    · rw [a_up_n e] at hy
      have h1 := P.2.2.2.1 k y hy
      exact h1.kept (oq _ h1.lt)
section HeapRows
variable {a0 : Array Value} {s0 : State} {D : va_G} {cI cL : ClassId} {p : Program} {l : Launch} {e : Env} {R : Room} {s : State} {m : MethodId} {args : Array Value} {below : List Frame} {meth : Method} {c : Code} {Q : State → Prop} {tb : List ExceptionTableEntry}
variable {own : String} {cc : ByteArray} {nL : Nat} {ret : Option FieldType} {pc : Nat} {lv : List (Nat × Value)} {st : List Value} {h : AH} {K cells slots : Nat}
variable {ci : Nat} {Cn : String} {T : u_T} {N : Nat} {ty : Nat → FieldType} {a : Nat} {fs : List Value} {index : Nat}
theorem x_get (C : XC s0 D cI cL p s m meth c own cc nL ret tb) (G : a_cl a0 s0 ci Cn T N ty) (k : Nat) (hw : (Cond.fieldLink own index (T k).1 (T k).2.1 (T k).2.2.1).before a0 s0 = true) (hd : decode cc pc = .ok (.getfield index, 3)) (hk : k < N) (hh : h a = some (.inr (ci, fs))) {v : Value} (hv : fs[k]? = some v)
    (kk : XW s0 D p l e R s m args below meth c Q (pc + 3) lv (v :: st) h K cells slots) : XW s0 D p l e R s m args below meth c Q pc lv (.ref (s0.heap.size + a) :: st) h K cells slots := by
  intro ls H locs P
  have hP : va_P D vwCl [(s0.heap.size + a, .inr (ci, fs))] H := by
    intro j q hj
    cases j with
    | zero => cases hj; exact P.2.2.2.1 a _ hh
    | succ j => cases hj
  exact va_get C.1 C.2.1 (fun w hw => x_w C (u_ws_good w hw) (G.2.1 w hw)) (fun _ h => h) C.2.2.2.1 C.2.2.2.2.2.2.1 hP 0 rfl G.1 k hk (x_w C rfl hw) (fun _ h => h) hv hd (kk ls H locs P)
theorem x_getN (C : XC s0 D cI cL p s m meth c own cc nL ret tb) (G : a_cl a0 s0 ci Cn T N ty) (k : Nat) {host : String} (hw : (Cond.fieldLinkNest own index (T k).1 (T k).2.1 (T k).2.2.1 host).before a0 s0 = true) (hd : decode cc pc = .ok (.getfield index, 3)) (hk : k < N) (hh : h a = some (.inr (ci, fs))) {v : Value} (hv : fs[k]? = some v)
    (kk : XW s0 D p l e R s m args below meth c Q (pc + 3) lv (v :: st) h K cells slots) : XW s0 D p l e R s m args below meth c Q pc lv (.ref (s0.heap.size + a) :: st) h K cells slots := by
  intro ls H locs P
  have hP : va_P D vwCl [(s0.heap.size + a, .inr (ci, fs))] H := by
    intro j q hj
    cases j with
    | zero => cases hj; exact P.2.2.2.1 a _ hh
    | succ j => cases hj
  exact va_getN C.1 C.2.1 (fun w hw => x_w C (u_ws_good w hw) (G.2.1 w hw)) (fun _ h => h) C.2.2.2.1 C.2.2.2.2.2.2.1 hP 0 rfl G.1 k hk (va_Nw.use rfl (va_Nw.warmF C.2.2.2.2.1 (va_Nw.of rfl hw))) (fun _ h => h) hv hd (kk ls H locs P)
theorem x_put (C : XC s0 D cI cL p s m meth c own cc nL ret tb) (G : a_cl a0 s0 ci Cn T N ty) (k : Nat) (hw : (Cond.fieldLink own index (T k).1 (T k).2.1 (T k).2.2.1).before a0 s0 = true) (hd : decode cc pc = .ok (.putfield index, 3)) (hk : k < N) (hfin : (T k).2.2.2 = false) (hh : h a = some (.inr (ci, fs))) {v : Value} (hn : narrow (ty k) v = v) (hfit : fits (ty k) v = true) (hl : k < fs.length)
    (kk : XW s0 D p l e R s m args below meth c Q (pc + 3) lv st (a_up h a (.inr (ci, fs.set k v))) K cells slots) : XW s0 D p l e R s m args below meth c Q pc lv (v :: .ref (s0.heap.size + a) :: st) h K cells slots := by
  intro ls H locs P
  have hts : ∀ w ∈ u_ws Cn T N, w.before args s = true := fun w hw => x_w C (u_ws_good w hw) (G.2.1 w hw)
  have hin : ∀ w ∈ u_ws Cn T N, w ∈ u_ws Cn T N := fun _ h => h
  have hK := C.2.2.2.2.2.2.1
  have hap := va_apart (own := own) hts hin ty G.2.2.1 G.2.2.2 hK G.1
  obtain ⟨r, h1, cell, q1, q2, q3, q4⟩ := P.2.2.2.1 a _ hh
  have hr : r = (Cn, T, N) := Option.some.inj (h1.symm.trans G.1)
  subst hr
  obtain ⟨hS, hfc, kC, hkC, hkind⟩ := hK.1 ci _ G.1
  obtain ⟨cf, kf, fi, f, hi, hsl⟩ := hS k hk
  have hlay := hts _ (hin _ (u_in_lay hk))
  unfold u_lay at hlay
  rw [if_neg (by rw [hfin]; decide)] at hlay
  have hst := (u_facts hfc hkC (u_lays hts hin hk) hi).1
  have h6 := u_store hfc hkC hkind hlay hi (G.2.2.1 k hk) hn hfit
  refine W.putK C.1 C.2.1 (f := f) ⟨C.2.2.2.1, x_w C rfl hw, ⟨_, _, _, hi⟩, hst⟩ (by rw [q2]; exact h6) q1 q3 (by rw [hsl]; exact k2_hasslot (q4 k hk)) rfl rfl hd fun H' e1 e2 e3 => ?_
  rw [hsl] at e1 ⊢
  exact kk ls H' _ (P.put e2 e3 ⟨_, G.1, t_OB.to (V := updV (vp_V fs) k v) ⟨_, e1, q2, q3, t_set q4 hap hk v⟩ (fun j _ => vp_updV_set hl v j)⟩)
theorem x_putN (C : XC s0 D cI cL p s m meth c own cc nL ret tb) (G : a_cl a0 s0 ci Cn T N ty) (k : Nat) {host : String} (hw : (Cond.fieldLinkNest own index (T k).1 (T k).2.1 (T k).2.2.1 host).before a0 s0 = true) (hd : decode cc pc = .ok (.putfield index, 3)) (hk : k < N) (hfin : (T k).2.2.2 = false) (hh : h a = some (.inr (ci, fs))) {v : Value} (hn : narrow (ty k) v = v) (hfit : fits (ty k) v = true) (hl : k < fs.length)
    (kk : XW s0 D p l e R s m args below meth c Q (pc + 3) lv st (a_up h a (.inr (ci, fs.set k v))) K cells slots) : XW s0 D p l e R s m args below meth c Q pc lv (v :: .ref (s0.heap.size + a) :: st) h K cells slots := by
  intro ls H locs P
  have hts : ∀ w ∈ u_ws Cn T N, w.before args s = true := fun w hw => x_w C (u_ws_good w hw) (G.2.1 w hw)
  have hin : ∀ w ∈ u_ws Cn T N, w ∈ u_ws Cn T N := fun _ h => h
  have hK := C.2.2.2.2.2.2.1
  have hap := va_apart (own := own) hts hin ty G.2.2.1 G.2.2.2 hK G.1
  obtain ⟨r, h1, cell, q1, q2, q3, q4⟩ := P.2.2.2.1 a _ hh
  have hr : r = (Cn, T, N) := Option.some.inj (h1.symm.trans G.1)
  subst hr
  obtain ⟨hS, hfc, kC, hkC, hkind⟩ := hK.1 ci _ G.1
  obtain ⟨cf, kf, fi, f, hi, hsl⟩ := hS k hk
  have hlay := hts _ (hin _ (u_in_lay hk))
  unfold u_lay at hlay
  rw [if_neg (by rw [hfin]; decide)] at hlay
  have hst := (u_facts hfc hkC (u_lays hts hin hk) hi).1
  have h6 := u_store hfc hkC hkind hlay hi (G.2.2.1 k hk) hn hfit
  refine va_WputK C.1 C.2.1 (f := f) C.2.2.2.1 (va_Nw.use rfl (va_Nw.warmF C.2.2.2.2.1 (va_Nw.of rfl hw))) hi hst (by rw [q2]; exact h6) q1 q3 (by rw [hsl]; exact k2_hasslot (q4 k hk)) rfl rfl hd fun H' e1 e2 e3 => ?_
  rw [hsl] at e1 ⊢
  exact kk ls H' _ (P.put e2 e3 ⟨_, G.1, t_OB.to (V := updV (vp_V fs) k v) ⟨_, e1, q2, q3, t_set q4 hap hk v⟩ (fun j _ => vp_updV_set hl v j)⟩)
theorem x_putF (C : XC s0 D cI cL p s m meth c own cc nL ret tb) (hin2 : meth.name = "<init>") (G : a_cl a0 s0 ci Cn T N ty) (k : Nat) (hw : (Cond.fieldLink own index (T k).1 (T k).2.1 (T k).2.2.1).before a0 s0 = true) (hd : decode cc pc = .ok (.putfield index, 3)) (hk : k < N) (hfin : (T k).2.2.2 = true) (hdecl : (T k).1 = own) (hh : h a = some (.inr (ci, fs))) {v : Value} (hn : narrow (ty k) v = v) (hfit : fits (ty k) v = true) (hl : k < fs.length)
    (kk : XW s0 D p l e R s m args below meth c Q (pc + 3) lv st (a_up h a (.inr (ci, fs.set k v))) K cells slots) : XW s0 D p l e R s m args below meth c Q pc lv (v :: .ref (s0.heap.size + a) :: st) h K cells slots := by
  intro ls H locs P
  have hts : ∀ w ∈ u_ws Cn T N, w.before args s = true := fun w hw => x_w C (u_ws_good w hw) (G.2.1 w hw)
  have hin : ∀ w ∈ u_ws Cn T N, w ∈ u_ws Cn T N := fun _ h => h
  have hK := C.2.2.2.2.2.2.1
  have hap := va_apart (own := own) hts hin ty G.2.2.1 G.2.2.2 hK G.1
  obtain ⟨r, h1, cell, q1, q2, q3, q4⟩ := P.2.2.2.1 a _ hh
  have hr : r = (Cn, T, N) := Option.some.inj (h1.symm.trans G.1)
  subst hr
  obtain ⟨hS, hfc, kC, hkC, hkind⟩ := hK.1 ci _ G.1
  obtain ⟨cf, kf, fi, f, hi, hsl⟩ := hS k hk
  have hlay := hts _ (hin _ (u_in_lay hk))
  unfold u_lay at hlay
  rw [if_pos hfin] at hlay
  have hst := (u_facts hfc hkC (u_lays hts hin hk) hi).1
  have hcf : m.cls = cf := by
    obtain ⟨_, _, c', _, _, _, -, -, hf', -, -, -, hown2, -⟩ := Cond.laysFinal_spec hlay
    have e1 : c' = cf := by have := hi.symm.trans hf'; simp at this; exact this.1.symm
    rw [hdecl] at hown2
    rw [← e1]; exact Option.some.inj (C.2.2.2.1.symm.trans hown2)
  have h6 := u_fits hfc hkC hkind (Or.inr hlay) hi (G.2.2.1 k hk) hn hfit
  refine W.putFinK C.1 C.2.1 C.2.2.2.1 (x_w C rfl hw) hi hst hcf hin2 (by rw [q2]; exact h6) q1 q3 (by rw [hsl]; exact k2_hasslot (q4 k hk)) rfl rfl hd fun H' e1 e2 e3 => ?_
  rw [hsl] at e1 ⊢
  exact kk ls H' _ (P.put e2 e3 ⟨_, G.1, t_OB.to (V := updV (vp_V fs) k v) ⟨_, e1, q2, q3, t_set q4 hap hk v⟩ (fun j _ => vp_updV_set hl v j)⟩)
theorem x_iald (C : XC s0 D cI cL p s m meth c own cc nL ret tb) {n : Nat} {f : Int → Int} {i : Int} (hd : decode cc pc = .ok (.iaload, 1)) (hh : h a = some (iA cI n f)) (i1 : 0 ≤ i) (i2 : i < (n : Int)) (hn : (n : Int) < 2147483648)
    (kk : XW s0 D p l e R s m args below meth c Q (pc + 1) lv (.int (zI (f i)) :: st) h K cells slots) : XW s0 D p l e R s m args below meth c Q pc lv (.int (zI i) :: .ref (s0.heap.size + a) :: st) h K cells slots := by
  intro ls H locs P
  have hP : va_P D vwCl [(s0.heap.size + a, .inl (cI, n, .inl (fun j => zI (f (j : Int)))))] H := by
    intro j q hj
    cases j with
    | zero => cases hj; exact P.2.2.2.1 a _ hh
    | succ j => cases hj
  refine va_iald C.1 C.2.1 C.2.2.2.2.2.2.1 hP 0 0 rfl rfl (zI_in i1 i2 hn) hd ?_
  rw [zI_cl i1 (by omega), show ((i.toNat : Nat) : Int) = i by omega]
  exact kk ls H locs P
theorem x_lald (C : XC s0 D cI cL p s m meth c own cc nL ret tb) {n : Nat} {f : Int → Int} {i : Int} (hd : decode cc pc = .ok (.laload, 1)) (hh : h a = some (lA cL n f)) (i1 : 0 ≤ i) (i2 : i < (n : Int)) (hn : (n : Int) < 2147483648)
    (kk : XW s0 D p l e R s m args below meth c Q (pc + 1) lv (.long (zL (f i)) :: st) h K cells slots) : XW s0 D p l e R s m args below meth c Q pc lv (.int (zI i) :: .ref (s0.heap.size + a) :: st) h K cells slots := by
  intro ls H locs P
  have hP : va_P D vwCl [(s0.heap.size + a, .inl (cL, n, .inr (.inl (fun j => zL (f (j : Int))))))] H := by
    intro j q hj
    cases j with
    | zero => cases hj; exact P.2.2.2.1 a _ hh
    | succ j => cases hj
  refine va_lald C.1 C.2.1 C.2.2.2.2.2.2.1 hP 0 1 rfl rfl (zI_in i1 i2 hn) hd ?_
  rw [zI_cl i1 (by omega), show ((i.toNat : Nat) : Int) = i by omega]
  exact kk ls H locs P
theorem x_alen (C : XC s0 D cI cL p s m meth c own cc nL ret tb) {n : Nat} {f : Int → Int} (hd : decode cc pc = .ok (.arraylength, 1)) (hh : h a = some (iA cI n f))
    (kk : XW s0 D p l e R s m args below meth c Q (pc + 1) lv (.int (zI (n : Int)) :: st) h K cells slots) : XW s0 D p l e R s m args below meth c Q pc lv (.ref (s0.heap.size + a) :: st) h K cells slots := by
  intro ls H locs P
  have hP : va_P D vwCl [(s0.heap.size + a, .inl (cI, n, .inl (fun j => zI (f (j : Int)))))] H := by
    intro j q hj
    cases j with
    | zero => cases hj; exact P.2.2.2.1 a _ hh
    | succ j => cases hj
  exact va_alen C.1 C.2.1 C.2.2.2.2.2.2.1 hP 0 0 rfl rfl (Int32.ofInt_eq_ofNat (n := n)).symm hd (kk ls H locs P)
theorem x_iast (C : XC s0 D cI cL p s m meth c own cc nL ret tb) {n : Nat} {f : Int → Int} {i x : Int} (hd : decode cc pc = .ok (.iastore, 1)) (hh : h a = some (iA cI n f)) (i1 : 0 ≤ i) (i2 : i < (n : Int)) (hn : (n : Int) < 2147483648)
    (kk : XW s0 D p l e R s m args below meth c Q (pc + 1) lv st (a_up h a (iA cI n (zup f i x))) K cells slots) : XW s0 D p l e R s m args below meth c Q pc lv (.int (zI x) :: .int (zI i) :: .ref (s0.heap.size + a) :: st) h K cells slots := by
  intro ls H locs P
  have hc : H[s0.heap.size + a]? = some (vp_cell cI (n, .inl (fun j => zI (f (j : Int))))) := P.2.2.2.1 a _ hh
  refine W.iast C.1 C.2.1 hc ((C.2.2.2.2.2.2.1.2 0 _ rfl).1 n (fun j => .int (zI (f (j : Int))))) (fun q => by cases q) (by show ¬ (_ < 0 ∨ (arrV _ _ _).slots.size ≤ _); rw [arrV_size]; exact zI_in i1 i2 hn) rfl rfl hd fun H1 e1 z oq => ?_
  refine kk ls H1 _ (P.put z oq ?_)
  show H1[s0.heap.size + a]? = some (vp_cell cI (n, .inl (fun j => zI (zup f i x (j : Int)))))
  rw [e1, ← upd_z f x i1, zI_cl i1 (by omega)]
  rw [vp_cell_i, vp_cell_i, arrV_store]
  congr 2
  funext q
  by_cases hq : q = i.toNat
  · subst hq
    simp [updV, upd]
  · simp [updV, upd, hq]
theorem x_last (C : XC s0 D cI cL p s m meth c own cc nL ret tb) {n : Nat} {f : Int → Int} {i x : Int} (hd : decode cc pc = .ok (.lastore, 1)) (hh : h a = some (lA cL n f)) (i1 : 0 ≤ i) (i2 : i < (n : Int)) (hn : (n : Int) < 2147483648)
    (kk : XW s0 D p l e R s m args below meth c Q (pc + 1) lv st (a_up h a (lA cL n (zup f i x))) K cells slots) : XW s0 D p l e R s m args below meth c Q pc lv (.long (zL x) :: .int (zI i) :: .ref (s0.heap.size + a) :: st) h K cells slots := by
  intro ls H locs P
  have hc : H[s0.heap.size + a]? = some (vp_cell cL (n, .inr (.inl (fun j => zL (f (j : Int)))))) := P.2.2.2.1 a _ hh
  refine W.last C.1 C.2.1 hc ((C.2.2.2.2.2.2.1.2 1 _ rfl).1 n (fun j => .long (zL (f (j : Int))))) (fun q => by cases q) (by show ¬ (_ < 0 ∨ (arrV _ _ _).slots.size ≤ _); rw [arrV_size]; exact zI_in i1 i2 hn) rfl rfl hd fun H1 e1 z oq => ?_
  refine kk ls H1 _ (P.put z oq ?_)
  show H1[s0.heap.size + a]? = some (vp_cell cL (n, .inr (.inl (fun j => zL (zup f i x (j : Int))))))
  rw [e1, ← updL_z f x i1, zI_cl i1 (by omega)]
  rw [vp_cell_l, vp_cell_l, arrV_store]
  congr 2
  funext q
  by_cases hq : q = i.toNat
  · subst hq
    simp [updV, vp_updL]
  · simp [updV, vp_updL, hq]
theorem x_new (C : XC s0 D cI cL p s m meth c own cc nL ret tb) (G : a_cl a0 s0 ci Cn T N ty) (w1 : (Cond.classLink own index Cn).before a0 s0 = true) (w2 : (Cond.instantiable Cn N).before a0 s0 = true) (w3 : (Cond.initialized Cn).before a0 s0 = true) (hd : decode cc pc = .ok (.new index, 3)) (hfs : ∀ j, j < N → defaultValue (ty j) = vp_V fs j) (h1 : cells + 1 ≤ R.cells) (h2 : slots + N ≤ R.slots)
    (kk : XW s0 D p l e R s m args below meth c Q (pc + 3) lv (.ref (s0.heap.size + K) :: st) (a_up h K (.inr (ci, fs))) (K + 1) (cells + 1) (slots + N)) : XW s0 D p l e R s m args below meth c Q pc lv st h K cells slots := by
  intro ls H locs P
  have hts : ∀ w ∈ u_ws Cn T N, w.before args s = true := fun w hw => x_w C (u_ws_good w hw) (G.2.1 w hw)
  have hKn := C.2.2.2.2.2.2.1.1 ci _ G.1
  refine W.newcK C.1 C.2.1 C.2.2.2.1 (x_w C rfl w1) (x_w C rfl w2) (x_w C rfl w3) rfl hd h1 h2 hKn.2.1 P.2.1 fun H1 kC hkC e1 z1 o1 => ?_
  refine kk ls H1 locs (P.push (by rw [z1, P.2.1]) (fun q hq => o1 q (by rw [← P.2.1]; exact hq)) ?_)
  exact ⟨_, G.1, (u_born ty hts (fun _ h => h) hKn hkC e1 G.2.2.1).to hfs⟩
theorem x_newa (C : XC s0 D cI cL p s m meth c own cc nL ret tb) (w1 : (Cond.arrayClass .int).before a0 s0 = true) {n : Int} (N : Nat) (hd : decode cc pc = .ok (.newarray .int, 2)) (hn : n = (N : Int)) (hN : N < 100000) (h1 : cells + 1 ≤ R.cells) (h2 : slots + N ≤ R.slots)
    (kk : XW s0 D p l e R s m args below meth c Q (pc + 2) lv (.ref (s0.heap.size + K) :: st) (a_up h K (iA cI N (fun _ => 0))) (K + 1) (cells + 1) (slots + N)) : XW s0 D p l e R s m args below meth c Q pc lv (.int (zI n) :: st) h K cells slots := by
  subst hn
  intro ls H locs P
  have w1' : (Cond.arrayClass (newarray.typeOf .int)).before args s = true := x_w C rfl w1
  have hneg : ¬ zI (N : Int) < 0 := fun q => by
    rw [← zI_0, zI_lt (by omega) (by omega) (by omega) (by omega)] at q
    omega
  have hcl : (zI (N : Int)).toNatClampNeg = N := by
    rw [zI_cl (by omega) (by omega)]
    exact Int.toNat_natCast N
  have hby : N * componentBytes (newarray.typeOf .int) ≤ 536870912 := by
    have e4 : componentBytes (newarray.typeOf .int) = 4 := rfl
    rw [e4]
    omega
  refine va_newaK C.1 C.2.1 w1' rfl hd rfl hneg hcl hby h1 h2 P.2.1 fun H1 cA e1 z1 o1 hAr hNm => ?_
  have hcA : cA = cI := by
    have h5 := (C.2.2.2.2.2.2.1.2 0 _ rfl).2
    exact Option.some.inj (hNm.symm.trans h5)
  subst hcA
  refine kk ls H1 locs (P.push (by rw [z1, P.2.1]) (fun q hq => o1 q (by rw [← P.2.1]; exact hq)) ?_)
  show H1[s0.heap.size + K]? = some (vp_cell cA (N, .inl (fun j => zI 0)))
  rw [e1, vp_cell_i]
  simp only [zI_0]
  rfl
theorem x_newaL (C : XC s0 D cI cL p s m meth c own cc nL ret tb) (w1 : (Cond.arrayClass .long).before a0 s0 = true) {n : Int} (N : Nat) (hd : decode cc pc = .ok (.newarray .long, 2)) (hn : n = (N : Int)) (hN : N < 100000) (h1 : cells + 1 ≤ R.cells) (h2 : slots + N ≤ R.slots)
    (kk : XW s0 D p l e R s m args below meth c Q (pc + 2) lv (.ref (s0.heap.size + K) :: st) (a_up h K (lA cL N (fun _ => 0))) (K + 1) (cells + 1) (slots + N)) : XW s0 D p l e R s m args below meth c Q pc lv (.int (zI n) :: st) h K cells slots := by
  subst hn
  intro ls H locs P
  have w1' : (Cond.arrayClass (newarray.typeOf .long)).before args s = true := x_w C rfl w1
  have hneg : ¬ zI (N : Int) < 0 := fun q => by
    rw [← zI_0, zI_lt (by omega) (by omega) (by omega) (by omega)] at q
    omega
  have hcl : (zI (N : Int)).toNatClampNeg = N := by
    rw [zI_cl (by omega) (by omega)]
    exact Int.toNat_natCast N
  have hby : N * componentBytes (newarray.typeOf .long) ≤ 536870912 := by
    have e4 : componentBytes (newarray.typeOf .long) = 8 := rfl
    rw [e4]
    omega
  refine va_newaK C.1 C.2.1 w1' rfl hd rfl hneg hcl hby h1 h2 P.2.1 fun H1 cA e1 z1 o1 hAr hNm => ?_
  have hcA : cA = cL := by
    have h5 := (C.2.2.2.2.2.2.1.2 1 _ rfl).2
    exact Option.some.inj (hNm.symm.trans h5)
  subst hcA
  refine kk ls H1 locs (P.push (by rw [z1, P.2.1]) (fun q hq => o1 q (by rw [← P.2.1]; exact hq)) ?_)
  show H1[s0.heap.size + K]? = some (vp_cell cA (N, .inr (.inl (fun j => zL 0))))
  rw [e1, vp_cell_l]
  simp only [show zL 0 = 0 from rfl]
  rfl
theorem x_objInit (C : XC s0 D cI cL p s m meth c own cc nL ret tb) (w1 : (Cond.methodLink own index Lib.objectInit).before a0 s0 = true) (w2 : (Cond.instanceMethod Lib.objectInit).before a0 s0 = true) (w3 : (Cond.code Lib.objectInit ⟨#[0xb1]⟩ 1 none).before a0 s0 = true) (hd : decode cc pc = .ok (.invokespecial index, 3)) (h1 : 1 ≤ R.frames) (h2 : (st.map fun v => v.category).sum + 12 ≤ R.locals)
    (kk : XW s0 D p l e R s m args below meth c Q (pc + 3) lv st h K cells slots) : XW s0 D p l e R s m args below meth c Q pc lv (.ref a :: st) h K cells slots := by
  intro ls H locs P
  exact W.objInit C.1 C.2.1 C.2.2.2.1 (x_w C rfl w1) (x_w C rfl w2) (x_w C rfl w3) rfl P.1.1 rfl hd h1 (by show 2 * 0 + _ + 12 ≤ _; omega) (kk ls H locs P)
theorem x_max (C : XC s0 D cI cL p s m meth c own cc nL ret tb) (w1 : (Cond.methodLink own index Lib.Math.max.name).before a0 s0 = true) (w2 : (Cond.static Lib.Math.max.name).before a0 s0 = true) (w3 : (Cond.initialized "java/lang/Math").before a0 s0 = true) (w4 : (Cond.code Lib.Math.max.name Lib.Math.max.code 2 (some .int)).before a0 s0 = true) {x y : Int} (hd : decode cc pc = .ok (.invokestatic index, 3)) (h1 : 1 ≤ R.frames) (h2 : (st.map fun v => v.category).sum + 13 ≤ R.locals) (h3 : cells ≤ R.cells) (h4 : slots ≤ R.slots) (x1 : -2147483648 ≤ x) (x2 : x < 2147483648) (y1 : -2147483648 ≤ y) (y2 : y < 2147483648)
    (kk : XW s0 D p l e R s m args below meth c Q (pc + 3) lv (.int (zI (max x y)) :: st) h K cells slots) : XW s0 D p l e R s m args below meth c Q pc lv (.int (zI y) :: .int (zI x) :: st) h K cells slots := by
  intro ls H locs P
  refine va_mmax C.1 C.2.1 P.1.1.symm C.2.2.2.1 (x_w C rfl w1) (x_w C rfl w2) (x_w C rfl w3) (x_w C rfl w4) h1 h2 h3 h4 hd ?_
  have e1 : (if zI x < zI y then zI y else zI x) = zI (max x y) := by
    by_cases q : x < y
    · rw [if_pos ((zI_lt x1 x2 y1 y2).mpr q), show max x y = y by omega]
    · rw [if_neg (fun z => q ((zI_lt x1 x2 y1 y2).mp z)), show max x y = x by omega]
  rw [e1]
  exact kk ls H locs P
theorem x_min (C : XC s0 D cI cL p s m meth c own cc nL ret tb) (w1 : (Cond.methodLink own index Lib.Math.min.name).before a0 s0 = true) (w2 : (Cond.static Lib.Math.min.name).before a0 s0 = true) (w3 : (Cond.initialized "java/lang/Math").before a0 s0 = true) (w4 : (Cond.code Lib.Math.min.name Lib.Math.min.code 2 (some .int)).before a0 s0 = true) {x y : Int} (hd : decode cc pc = .ok (.invokestatic index, 3)) (h1 : 1 ≤ R.frames) (h2 : (st.map fun v => v.category).sum + 13 ≤ R.locals) (h3 : cells ≤ R.cells) (h4 : slots ≤ R.slots) (x1 : -2147483648 ≤ x) (x2 : x < 2147483648) (y1 : -2147483648 ≤ y) (y2 : y < 2147483648)
    (kk : XW s0 D p l e R s m args below meth c Q (pc + 3) lv (.int (zI (min x y)) :: st) h K cells slots) : XW s0 D p l e R s m args below meth c Q pc lv (.int (zI y) :: .int (zI x) :: st) h K cells slots := by
  intro ls H locs P
  refine va_mmin C.1 C.2.1 P.1.1.symm C.2.2.2.1 (x_w C rfl w1) (x_w C rfl w2) (x_w C rfl w3) (x_w C rfl w4) h1 h2 h3 h4 hd ?_
  have e1 : (if zI y < zI x then zI y else zI x) = zI (min x y) := by
    by_cases q : y < x
    · rw [if_pos ((zI_lt y1 y2 x1 x2).mpr q), show min x y = y by omega]
    · rw [if_neg (fun z => q ((zI_lt y1 y2 x1 x2).mp z)), show min x y = x by omega]
  rw [e1]
  exact kk ls H locs P
end HeapRows
end
section
/-! contracts over places: a method's start and end, returned or thrown; calls -/
abbrev AO : Type := Option Value ⊕ String
/-- the heap's cells from the start's size on are h (K of them), the others are the start's -/
def a_W (s0 : State) (D : va_G) (h : AH) (K : Nat) (U : State) : Prop :=
  s0.WarmedH U.vm ∧ U.heap.size = s0.heap.size + K ∧ (∀ q : Nat, q < s0.heap.size → U.heap[q]? = s0.heap[q]?) ∧ ∀ (k : Nat) (x : va_E), h k = some x → va_at D vwCl (s0.heap.size + k, x) U.heap
/-- the thrown object is one of the class Cn -/
def a_thr (Cn : String) (a : Nat) (t : State) : Prop := ∃ (cell : Cell) (k : Class), t.heap[a]? = some cell ∧ cell.vm = .none ∧ t.vm.findClass Cn = some cell.cls ∧ t.vm.classes[cell.cls]? = some k
def XO (s0 : State) (D : va_G) (mc ms : Nat) (Post : AO → AH → Nat → Prop) (s : State) (o : Outcome) (t : State) : Prop :=
  ∃ (h' : AH) (K' : Nat), a_W s0 D h' K' t ∧ (match o with | .returned v => Post (.inl v) h' K' | .threw a => ∃ Cn, Post (.inr Cn) h' K' ∧ a_thr Cn a t) ∧
    ∃ L : List Loc, s.WarmedH t.vm ∧ s.sameButNew ({ t with vm := s.vm } : State) L mc ms ∧ ∀ q ∈ L, s0.heap.size ≤ q.base
def XQ (s0 : State) (D : va_G) (mc ms : Nat) (Post : AO → AH → Nat → Prop) (below : List Frame) (s : State) : State → Prop := fun t => ∃ o, t.status = .running ∧ Ended t below o ∧ XO s0 D mc ms Post s o t
def a_rm (d mc ms : Nat) : Room := { frames := d, cells := mc, slots := ms, locals := 38 * d }
def XM (l : Launch) (s0 : State) (D : va_G) (y : MethodName) (cc : ByteArray) (nL : Nat) (ret : Option FieldType) (d mc ms : Nat) (av : List Value) (h : AH) (K : Nat) (Post : AO → AH → Nat → Prop) : Prop :=
  MetFree l y (headSpec [.code y cc nL ret] (a_rm d mc ms)) (fun a U => a = av.toArray ∧ a_W s0 D h K U) (fun _ _ _ _ _ => True) (fun _ st o t => XO s0 D mc ms Post st o t)
theorem W_mono {p : Program} {l : Launch} {e : Env} {R : Room} {s : State} {m : MethodId} {args : Array Value} {below : List Frame} {meth : Method} {c : Code} {H : Heap} {locs : List Loc} {cells slots : Nat} {Q Q' : State → Prop} {g : JFrame} (h : ∀ t, Q t → Q' t) (k : W p l e R s m args below meth c H locs cells slots Q g) : W p l e R s m args below meth c H locs cells slots Q' g := by
  intro T hT X
  obtain ⟨t, a, b⟩ := k T hT X
  exact ⟨t, a, h t b⟩
theorem x_notab {p : Program} {l : Launch} {y : MethodName} {cc : ByteArray} {nL : Nat} {ret : Option FieldType} {rm : Room} {e : Env} {s : State} {m : MethodId} {args : Array Value} {below : List Frame} {meth : Method} {c : Code} {s₁ : State} (B : BodyLoose p l y (headSpec [.code y cc nL ret] rm) cc nL ret e s m args below meth c s₁) : c.exceptionTable.toList = [] := by
  have h1 := B.noHandlers (atoms_spec (ws := [.code y cc nL ret]) B.pre _ List.mem_cons_self)
  have h2 : c.exceptionTable = #[] := Array.isEmpty_iff.mp h1
  rw [h2]
theorem XM.of {l : Launch} {s0 : State} {D : va_G} {cI cL : ClassId} {y : MethodName} {cc : ByteArray} {nL : Nat} {ret : Option FieldType} {d mc ms : Nat} {av : List Value} {h : AH} {K : Nat} {Post : AO → AH → Nat → Prop} {own : String}
    (hy : plainName y.cls = true) (ho : y.cls = own) (hK : va_K D vwCl [(cI, .int), (cL, .long)] s0) (hav : (lg_sl av).length ≤ nL)
    (body : ∀ (p : Program) (e : Env) (s : State) (m : MethodId) (below : List Frame) (meth : Method) (c : Code), XC s0 D cI cL p s m meth c own cc nL ret [] → meth.name = y.name → XW s0 D p l e (a_rm d mc ms) s m av.toArray below meth c (XQ s0 D mc ms Post below s) 0 (lv_args 0 av) [] h K 0 0) :
    XM l s0 D y cc nL ret d mc ms av h K Post := by
  refine MetFree.of_bodyS (code := cc) (maxLocals := nL) (ret := ret) hy ?_ ?_
  · intro args s m h hn
    obtain ⟨meth, c, h1, h2, h3, h4, h5, h6, -, -⟩ := Cond.code_spec hn (atoms_spec (ws := [.code y cc nL ret]) h _ List.mem_cons_self)
    exact ⟨meth, c, h1, h2, h3, h4, h5, h6⟩
  · intro p e s m args below meth c s₁ B hml hP _
    obtain ⟨ha, hw⟩ := hP
    subst ha
    have hh0 : s₁.heap = s.heap := by rw [B.state]; rfl
    have X := body p e s m below meth c ⟨B.exec, B.bytes, hml, by rw [← ho]; exact findClass_of_methodNamed B.named, hw.1, B.notSynchronized, va_K.moved hw.1.alike hK, B.returns, x_notab B⟩ (name_of_methodNamed B.named B.method).1
    have hl := lv_entry av (n := nL) hav
    have hw2 := X _ s.heap [] ⟨by rw [hml]; exact hl, hw.2.1, hw.2.2.1, hw.2.2.2, fun q hq => by cases hq⟩
    rw [lg_entry_eq]
    obtain ⟨t, a1, o, b1, b2, b3⟩ := hw2 s₁ hh0 (Stand.of_body B)
    exact ⟨t, o, a1, b1, b2, b3⟩
section Rets
variable {a0 : Array Value} {s0 : State} {D : va_G} {cI cL : ClassId} {p : Program} {l : Launch} {e : Env} {R : Room} {s : State} {m : MethodId} {args : Array Value} {below : List Frame} {meth : Method} {c : Code} {tb : List ExceptionTableEntry}
variable {own : String} {cc : ByteArray} {nL : Nat} {ret : Option FieldType} {pc : Nat} {lv : List (Nat × Value)} {h : AH} {K cells slots mc ms : Nat} {Post : AO → AH → Nat → Prop}
theorem x_end {v : Option Value} {H : Heap} {locs : List Loc} {ls : Array Slot} {g : JFrame} (P : XP s0 D c.maxLocals lv h K ls H locs) (hW : s0.WarmedH s.vm) (h1 : cells ≤ mc) (h2 : slots ≤ ms) (hp : Post (.inl v) h K)
    (k : W p l e R s m args below meth c H locs mc ms (MQ below (fun _ _ o t => o = .returned v ∧ t.heap = H ∧ s.WarmedH t.vm) args s mc ms (fun q => s0.heap.size ≤ q)) g) : W p l e R s m args below meth c H locs cells slots (XQ s0 D mc ms Post below s) g := by
  refine W.widen h1 h2 (W_mono ?_ k)
  rintro t ⟨o, r1, r2, ⟨rfl, r3, r4⟩, L, ⟨-, r5, r6⟩, r7⟩
  refine ⟨_, r1, r2, h, K, ⟨State.WarmedH.trans hW r4, by rw [r3]; exact P.2.1, fun q hq => by rw [r3]; exact P.2.2.1 q hq, fun k x hx => by rw [r3]; exact P.2.2.2.1 k x hx⟩, hp, L, r5, r6, r7⟩
theorem x_iret (C : XC s0 D cI cL p s m meth c own cc nL (some .int) tb) {v : Int32} (hd : decode cc pc = .ok (.ireturn, 1)) (h1 : cells ≤ mc) (h2 : slots ≤ ms) (hp : Post (.inl (some (.int v))) h K) : XW s0 D p l e R s m args below meth c (XQ s0 D mc ms Post below s) pc lv [.int v] h K cells slots :=
  fun _ _ _ P => x_end P C.2.2.2.2.1 h1 h2 hp (W.iret C.1 C.2.1 C.2.2.2.2.2.2.2.1 (fun _ ht hw => ⟨rfl, ht, hw⟩) P.2.2.2.2 hd (hlocks := C.2.2.2.2.2.1))
theorem x_zret (C : XC s0 D cI cL p s m meth c own cc nL (some .boolean) tb) {v : Int} (hd : decode cc pc = .ok (.ireturn, 1)) (hv : v = 0 ∨ v = 1) (h1 : cells ≤ mc) (h2 : slots ≤ ms) (hp : Post (.inl (some (.int (zI v)))) h K) : XW s0 D p l e R s m args below meth c (XQ s0 D mc ms Post below s) pc lv [.int (zI v)] h K cells slots :=
  fun _ _ _ P => x_end P C.2.2.2.2.1 h1 h2 hp (W.zret C.1 C.2.1 C.2.2.2.2.2.2.2.1 (by rcases hv with e | e <;> subst e <;> rfl) (fun _ ht hw => ⟨rfl, ht, hw⟩) P.2.2.2.2 hd (hlocks := C.2.2.2.2.2.1))
theorem x_lret (C : XC s0 D cI cL p s m meth c own cc nL (some .long) tb) {v : Int64} (hd : decode cc pc = .ok (.lreturn, 1)) (h1 : cells ≤ mc) (h2 : slots ≤ ms) (hp : Post (.inl (some (.long v))) h K) : XW s0 D p l e R s m args below meth c (XQ s0 D mc ms Post below s) pc lv [.long v] h K cells slots :=
  fun _ _ _ P => x_end P C.2.2.2.2.1 h1 h2 hp (W.lret C.1 C.2.1 C.2.2.2.2.2.2.2.1 (fun _ ht hw => ⟨rfl, ht, hw⟩) P.2.2.2.2 hd (hlocks := C.2.2.2.2.2.1))
theorem x_vret (C : XC s0 D cI cL p s m meth c own cc nL none tb) (hd : decode cc pc = .ok (.return_, 1)) (h1 : cells ≤ mc) (h2 : slots ≤ ms) (hp : Post (.inl none) h K) : XW s0 D p l e R s m args below meth c (XQ s0 D mc ms Post below s) pc lv [] h K cells slots :=
  fun _ _ _ P => x_end P C.2.2.2.2.1 h1 h2 hp (W.vret C.1 C.2.1 C.2.2.2.2.2.2.2.1 (fun _ ht hw => ⟨rfl, ht, hw⟩) P.2.2.2.2 hd (hlocks := C.2.2.2.2.2.1))
end Rets
/-- an instruction that invokes y -/
def XI (p : Program) (l : Launch) (e : Env) (R : Room) (s : State) (m : MethodId) (args : Array Value) (below : List Frame) (meth : Method) (c : Code) (H : Heap) (locs : List Loc) (cells slots : Nat) (y : MethodName) (g : JFrame) (rest : List Value) (a : Array Value) : Prop :=
  ∀ T : State, T.heap = H → Stand p l e R s m args below meth c T locs cells slots → ∃ (vm₁ : Vm) (mk : MethodId), s.WarmedH vm₁ ∧ Stand p l e R s m args below meth c (T.setVm vm₁) locs cells slots ∧ (T.setVm vm₁).methodNamed? y = some mk ∧
    ∀ target, Steps p.tables e below (doInvoke e ((T.setVm vm₁).setTop { g with stack := rest }) [] mk a).1 target → Steps p.tables e below (T.setTop g) target
section Inv
variable {p : Program} {l : Launch} {e : Env} {R : Room} {s : State} {m : MethodId} {args : Array Value} {below : List Frame} {meth : Method} {c : Code} {H : Heap} {locs : List Loc} {cells slots : Nat}
variable {own : String} {index : Nat} {y : MethodName} {bytes : ByteArray} {maxL : Nat} {ret : Option FieldType} {g : JFrame} {argsL rest : List Value}
theorem i_V {Cn : String} (hexec : p.tables.exec = Jvm.exec) (hown : s.vm.findClass own = some m.cls) (hlink : (Cond.methodLink own index y).before args s = true) (hinst : (Cond.instanceMethod y).before args s = true) (hsel : (Cond.selects Cn y y).before args s = true)
    (hcode : (Cond.code y bytes maxL ret).before args s = true) (hy : y.cls ≠ "java/lang/invoke/MethodHandle" ∧ y.cls ≠ "java/lang/invoke/VarHandle") {b : Addr} {cellB : Cell} (hcell : H[b]? = some cellB) (hobj : cellB.vm.isStatics = false) (hcls : s.vm.findClass Cn = some cellB.cls)
    (hg : g.method = m) (hlen : (parseMethodDescriptor y.desc).map (fun d => d.parameters.length) = some argsL.length) (hstack : g.stack = argsL.reverse ++ .ref b :: rest) (hdg : decode c.code g.pc = .ok (.invokevirtual index, 3)) :
    XI p l e R s m args below meth c H locs cells slots y g rest (Value.ref b :: argsL).toArray := by
  intro T hT X
  obtain ⟨mk, methM, hnamed, hmethM, hstM, habM⟩ := Cond.instanceMethod_spec hinst
  obtain ⟨methM', cM, hmethM', -, -, -, -, -, -, hsigM⟩ := Cond.code_spec hnamed hcode
  cases hmethM.symm.trans hmethM'
  obtain ⟨c2, r2, m2, q1, q2, q3, q4, kP, hkP, hkPi⟩ := Cond.selects_spec hsel
  cases hcls.symm.trans q1
  cases (State.methodFound?_of_named hnamed hy).symm.trans q2
  cases hnamed.symm.trans q3
  have hselP : selectMethod e.platform s.vm cellB.cls mk = .method mk := by rw [Launch.admits_selectMethod X.admits]; exact q4
  obtain ⟨vm₁, X₁, hstep₁⟩ := X.invokevirtual hexec hown hlink hnamed hmethM hstM hkP hkPi hy (a := b) (cell := cellB) (by rw [hT]; exact hcell)
    (fun z h => by rw [h] at hobj; cases hobj) hselP hmethM habM hkP hkPi (g := g) hg (argsL := argsL) (rest := rest) (by rw [hsigM] at hlen; exact (Option.some.inj hlen).symm) hstack hdg
  exact ⟨vm₁, mk, X₁.warmed, X₁, X₁.named hnamed, fun target h => hstep₁ _ fun acts => by rw [doInvoke_state]; exact h⟩
theorem i_VN {Cn host : String} (hexec : p.tables.exec = Jvm.exec) (hown : s.vm.findClass own = some m.cls) (hlink : (Cond.methodLinkNest own index y host).before args s = true) (hinst : (Cond.instanceMethod y).before args s = true) (hsel : (Cond.selects Cn y y).before args s = true)
    (hcode : (Cond.code y bytes maxL ret).before args s = true) (hy : y.cls ≠ "java/lang/invoke/MethodHandle" ∧ y.cls ≠ "java/lang/invoke/VarHandle") {b : Addr} {cellB : Cell} (hcell : H[b]? = some cellB) (hobj : cellB.vm.isStatics = false) (hcls : s.vm.findClass Cn = some cellB.cls)
    (hg : g.method = m) (hlen : (parseMethodDescriptor y.desc).map (fun d => d.parameters.length) = some argsL.length) (hstack : g.stack = argsL.reverse ++ .ref b :: rest) (hdg : decode c.code g.pc = .ok (.invokevirtual index, 3)) :
    XI p l e R s m args below meth c H locs cells slots y g rest (Value.ref b :: argsL).toArray := by
  intro T hT X
  obtain ⟨mk, methM, hnamed, hmethM, hstM, habM⟩ := Cond.instanceMethod_spec hinst
  obtain ⟨methM', cM, hmethM', -, -, -, -, -, -, hsigM⟩ := Cond.code_spec hnamed hcode
  cases hmethM.symm.trans hmethM'
  obtain ⟨c2, r2, m2, q1, q2, q3, q4, kP, hkP, hkPi⟩ := Cond.selects_spec hsel
  cases hcls.symm.trans q1
  cases (State.methodFound?_of_named hnamed hy).symm.trans q2
  cases hnamed.symm.trans q3
  have hselP : selectMethod e.platform s.vm cellB.cls mk = .method mk := by rw [Launch.admits_selectMethod X.admits]; exact q4
  obtain ⟨vm₁, X₁, hstep₁⟩ := X.invokevirtualNest hexec hown hlink hnamed hmethM hstM hkP hkPi hy (a := b) (cell := cellB) (by rw [hT]; exact hcell)
    (fun z h => by rw [h] at hobj; cases hobj) hselP hmethM habM hkP hkPi (g := g) hg (argsL := argsL) (rest := rest) (by rw [hsigM] at hlen; exact (Option.some.inj hlen).symm) hstack hdg
  exact ⟨vm₁, mk, X₁.warmed, X₁, X₁.named hnamed, fun target h => hstep₁ _ fun acts => by rw [doInvoke_state]; exact h⟩
theorem i_S (hexec : p.tables.exec = Jvm.exec) (hown : s.vm.findClass own = some m.cls) (hlink : (Cond.methodLink own index y).before args s = true) (hstat : (Cond.static y).before args s = true) (hinit : (Cond.initialized y.cls).before args s = true)
    (hcode : (Cond.code y bytes maxL ret).before args s = true) (hy : y.cls ≠ "java/lang/invoke/MethodHandle" ∧ y.cls ≠ "java/lang/invoke/VarHandle")
    (hg : g.method = m) (hlen : (parseMethodDescriptor y.desc).map (fun d => d.parameters.length) = some argsL.length) (hstack : g.stack = argsL.reverse ++ rest) (hdg : decode c.code g.pc = .ok (.invokestatic index, 3)) :
    XI p l e R s m args below meth c H locs cells slots y g rest argsL.toArray := by
  intro T hT X
  obtain ⟨mk, hnamed⟩ := Cond.code_named hcode
  obtain ⟨methM, cM, hmethM, -, -, -, -, -, -, hsigM⟩ := Cond.code_spec hnamed hcode
  have hstatic : methM.isStatic = true := Cond.static_spec hnamed hmethM hstat
  obtain ⟨kP, hkP, -⟩ := className_of_methodNamed hnamed
  have hinitP : kP.init = .initialized := Cond.initialized_spec (findClass_of_methodNamed hnamed) hkP hinit
  obtain ⟨vm₁, X₁, hstep₁⟩ := X.invokestatic hexec hown hlink hnamed hmethM hstatic hkP hinitP hy (g := g) hg (argsL := argsL) (rest := rest) (by rw [hsigM] at hlen; exact (Option.some.inj hlen).symm) hstack hdg
  exact ⟨vm₁, mk, X₁.warmed, X₁, X₁.named hnamed, fun target h => hstep₁ _ fun acts => by rw [doInvoke_state]; exact h⟩
theorem i_SN {host : String} (hexec : p.tables.exec = Jvm.exec) (hown : s.vm.findClass own = some m.cls) (hlink : (Cond.methodLinkNest own index y host).before args s = true) (hstat : (Cond.static y).before args s = true) (hinit : (Cond.initialized y.cls).before args s = true)
    (hcode : (Cond.code y bytes maxL ret).before args s = true) (hy : y.cls ≠ "java/lang/invoke/MethodHandle" ∧ y.cls ≠ "java/lang/invoke/VarHandle")
    (hg : g.method = m) (hlen : (parseMethodDescriptor y.desc).map (fun d => d.parameters.length) = some argsL.length) (hstack : g.stack = argsL.reverse ++ rest) (hdg : decode c.code g.pc = .ok (.invokestatic index, 3)) :
    XI p l e R s m args below meth c H locs cells slots y g rest argsL.toArray := by
  intro T hT X
  obtain ⟨mk, hnamed⟩ := Cond.code_named hcode
  obtain ⟨methM, cM, hmethM, -, -, -, -, -, -, hsigM⟩ := Cond.code_spec hnamed hcode
  have hstatic : methM.isStatic = true := Cond.static_spec hnamed hmethM hstat
  obtain ⟨kP, hkP, -⟩ := className_of_methodNamed hnamed
  have hinitP : kP.init = .initialized := Cond.initialized_spec (findClass_of_methodNamed hnamed) hkP hinit
  obtain ⟨vm₁, X₁, hstep₁⟩ := X.invokestaticNest hexec hown hlink hnamed hmethM hstatic hkP hinitP hy (g := g) hg (argsL := argsL) (rest := rest) (by rw [hsigM] at hlen; exact (Option.some.inj hlen).symm) hstack hdg
  exact ⟨vm₁, mk, X₁.warmed, X₁, X₁.named hnamed, fun target h => hstep₁ _ fun acts => by rw [doInvoke_state]; exact h⟩
theorem i_I (hexec : p.tables.exec = Jvm.exec) (hown : s.vm.findClass own = some m.cls) (hy1 : y.name = "<init>") (hlink : (Cond.methodLink own index y).before args s = true) (hinst : (Cond.instanceMethod y).before args s = true)
    (hcode : (Cond.code y bytes maxL none).before args s = true) (hy : y.cls ≠ "java/lang/invoke/MethodHandle" ∧ y.cls ≠ "java/lang/invoke/VarHandle") {a : Addr}
    (hg : g.method = m) (hlen : (parseMethodDescriptor y.desc).map (fun d => d.parameters.length) = some argsL.length) (hstack : g.stack = argsL.reverse ++ .ref a :: rest) (hdg : decode c.code g.pc = .ok (.invokespecial index, 3)) :
    XI p l e R s m args below meth c H locs cells slots y g rest (Value.ref a :: argsL).toArray := by
  intro T hT X
  subst hg
  have hpl : e.platform.magicAccessors = ({} : Platform).magicAccessors := by rw [X.admits.platform]
  obtain ⟨mk, methM, cM, kP, vm₁, hnamed, hmethM, hcodeM, -, hlocalsM, -, hkP, -, hW₁, hstep₁⟩ := Steps.initColdArgs (e := e) X.here hexec X.warmed hpl hown hy1 hy hlink hinst hcode (f := g) rfl (argsL := argsL) (fun sig h => by rw [h] at hlen; exact (Option.some.inj hlen).symm) hstack hdg
  have X₁ := X.noted hW₁
  exact ⟨vm₁, mk, X₁.warmed, X₁, X₁.named hnamed, fun target h => hstep₁ _ fun acts => by rw [doInvoke_state]; exact h⟩
theorem i_IN {host : String} (hexec : p.tables.exec = Jvm.exec) (hown : s.vm.findClass own = some m.cls) (hy1 : y.name = "<init>") (hlink : (Cond.methodLinkNest own index y host).before args s = true) (hinst : (Cond.instanceMethod y).before args s = true)
    (hcode : (Cond.code y bytes maxL none).before args s = true) (hy : y.cls ≠ "java/lang/invoke/MethodHandle" ∧ y.cls ≠ "java/lang/invoke/VarHandle") {a : Addr}
    (hg : g.method = m) (hlen : (parseMethodDescriptor y.desc).map (fun d => d.parameters.length) = some argsL.length) (hstack : g.stack = argsL.reverse ++ .ref a :: rest) (hdg : decode c.code g.pc = .ok (.invokespecial index, 3)) :
    XI p l e R s m args below meth c H locs cells slots y g rest (Value.ref a :: argsL).toArray := by
  intro T hT X
  subst hg
  have hpl : e.platform.magicAccessors = ({} : Platform).magicAccessors := by rw [X.admits.platform]
  obtain ⟨mk, methM, cM, kP, vm₁, hnamed, hmethM, hcodeM, -, hlocalsM, -, hkP, -, hW₁, hstep₁⟩ := Steps.initColdArgsNest (e := e) X.here hexec X.warmed hpl hown hy1 hy hlink hinst hcode (f := g) rfl (argsL := argsL) (fun sig h => by rw [h] at hlen; exact (Option.some.inj hlen).symm) hstack hdg
  have X₁ := X.noted hW₁
  exact ⟨vm₁, mk, X₁.warmed, X₁, X₁.named hnamed, fun target h => hstep₁ _ fun acts => by rw [doInvoke_state]; exact h⟩
end Inv
section Back2
variable {a0 : Array Value} {s0 : State} {D : va_G} {p : Program} {l : Launch} {e : Env} {R : Room} {s : State} {m : MethodId} {args : Array Value} {below : List Frame} {meth : Method} {c : Code} {T : State} {locs : List Loc} {cells slots : Nat}
variable {y : MethodName} {cc' : ByteArray} {nL' : Nat} {ret' : Option FieldType} {d mc ms : Nat} {av : List Value} {h : AH} {K : Nat} {Post : AO → AH → Nat → Prop}
/-- the callee comes back, or throws -/
theorem x_back (hM : XM l s0 D y cc' nL' ret' d mc ms av h K Post) (X : Stand p l e R s m args below meth c T locs cells slots) {g : JFrame} (hg : g.method = m) (hsize : g.locals.size = c.maxLocals) {ig : Instr} (hdg : decode c.code g.pc = .ok (ig, 3)) (hW : 2 * g.monitorRoom + (g.stack.map fun v => v.category).sum ≤ 8)
    {mk : MethodId} (hn : T.methodNamed? y = some mk) (hw : a_W s0 D h K T) (hcode : (Cond.code y cc' nL' ret').before av.toArray T = true) (hini : (Cond.initialized y.cls).before av.toArray T = true)
    (hfr : d + 1 ≤ R.frames) (hlo : 8 + (nL' + 11) + 38 * d ≤ R.locals) (hc : cells + mc ≤ R.cells) (hs : slots + ms ≤ R.slots) :
    ∃ (h' : AH) (K' : Nat) (T' : State) (L : List Loc), a_W s0 D h' K' T' ∧ Stand p l e R s m args below meth c T' (locs ++ L) (cells + mc) (slots + ms) ∧ (∀ q ∈ L, s0.heap.size ≤ q.base) ∧
      ((∃ v, Post (.inl v) h' K' ∧ Steps p.tables e below (doInvoke e (T.setTop g) [] mk av.toArray).1 (T'.setTop { g with pc := g.pc + 3, stack := v.toList ++ g.stack })) ∨
       (∃ Cn x, Post (.inr Cn) h' K' ∧ a_thr Cn x T' ∧ Steps p.tables e below (doInvoke e (T.setTop g) [] mk av.toArray).1 ((T'.setTop g).pushFrame (.throwing x)))) := by
  obtain ⟨methY, cY, hmY, hcY, -, hlY, -, -, -, -⟩ := Cond.code_spec hn hcode
  obtain ⟨kY, hkY, -⟩ := className_of_methodNamed hn
  have hinitY : kY.init = .initialized := Cond.initialized_spec (findClass_of_methodNamed hn) hkY hini
  have hA : At T g.method c below := by rw [hg]; exact X.here
  have happ : (headSpec [.code y cc' nL' ret'] (a_rm d mc ms)).appliesLoose y e.platform (T.calling g mk av.toArray) = true :=
    Spec.appliesLoose_calling (g := g) hA hdg hn hkY hinitY
      (X.room_calling (g := g) (R' := a_rm d mc ms) hsize hmY hcY (by show d + 1 ≤ _; exact hfr) (by rw [hlY]; show _ + 38 * d ≤ _; omega) hc hs) (atoms_intro (fun w hw => by rw [List.mem_singleton.mp hw]; exact hcode))
  obtain ⟨mid, hmid⟩ := hA.above
  have hfr2 : (T.setTop g).frames = (.java g :: mid) ++ below := by rw [State.frames_setTop' g hA.top, hmid]; rfl
  obtain ⟨o, s₂, hsteps, hrun, hend, hq⟩ := Steps.callFree hM p X.admits X.cas X.clock (acts := []) hfr2 happ ⟨rfl, hw.1, hw.2.1, hw.2.2.1, hw.2.2.2⟩ trivial
  have hq' : XO s0 D mc ms Post (T.calling g mk av.toArray) o s₂ := hq
  rw [State.frames_setTop' g hA.top] at hend
  obtain ⟨h', K', hw', hpo, L, hW₂, hsame, hL⟩ := hq'
  cases o with
  | threw x =>
    have htl : T.frames.tail = below := X.tail
    rw [htl] at hend
    obtain ⟨T', X', r1, r2, r3⟩ := X.outOfThrown hg hend hW₂ hsame
    obtain ⟨Cn, hp1, hp2⟩ := hpo
    subst r3
    have eh : ((T'.setTop g).pushFrame (.throwing x)).heap = T'.heap := Stand.throwing_heap T' g x
    have ev : ((T'.setTop g).pushFrame (.throwing x)).vm = T'.vm := Stand.throwing_vm T' g x
    refine ⟨h', K', T', L, ?_, X', hL, Or.inr ⟨Cn, x, hp1, ?_, hsteps⟩⟩
    · unfold a_W at hw' ⊢
      rw [eh, ev] at hw'
      exact hw'
    · unfold a_thr at hp2 ⊢
      rw [eh, ev] at hp2
      exact hp2
  | returned v =>
    obtain ⟨e2, q2, q3, q4, q5, q6⟩ := hsame
    have e3 : s₂ = ({ (T.calling g mk av.toArray).setFrames s₂.frames with heap := s₂.heap, slotsUsed := s₂.slotsUsed } : State).setVm s₂.vm := by
      have : s₂ = ({ s₂ with vm := (T.calling g mk av.toArray).vm } : State).setVm s₂.vm := rfl
      rw [e2] at this
      exact this
    obtain ⟨c₂, i₂, len₂, hc₂, hd₂, hf₂⟩ := hend
    have hW' : T.WarmedH s₂.vm := hW₂
    have hcc : c₂ = c := by
      have h1 : s₂.code? g.method = T.code? g.method := by
        rw [State.code?_eq, State.code?_eq, hW'.alike.method?]
      exact Option.some.inj (hc₂.symm.trans (h1.trans hA.code))
    subst hcc
    have hlen : len₂ = 3 := by rw [hdg] at hd₂; cases hd₂; rfl
    subst hlen
    obtain ⟨g₀, hg0⟩ := Option.isSome_iff_exists.mp hA.top
    obtain ⟨r, hr⟩ := State.topJava?_eq_some.mp hg0
    have hs₂ : s₂ = (({ T with heap := s₂.heap, slotsUsed := s₂.slotsUsed } : State).setVm s₂.vm).setTop { g with pc := g.pc + 3, stack := v.toList ++ g.stack } := by
      have hr' : (({ T with heap := s₂.heap, slotsUsed := s₂.slotsUsed } : State).setVm s₂.vm).frames = .java g₀ :: r := hr
      refine e3.trans ?_
      rw [hf₂, State.calling_eq hA.top, State.setFrames_setFrames, State.setTop_of_frames _ hr', hr]
      rfl
    have hsame2 : T.sameButNew ({ T with heap := s₂.heap, slotsUsed := s₂.slotsUsed } : State) L mc ms := by
      refine ⟨?_, q2, q3, q4, q5, q6⟩
      obtain ⟨t, ht, -⟩ := State.frames_cons hr
      show ({ T with heap := s₂.heap, slotsUsed := s₂.slotsUsed } : State) = { T.setFrames T.frames with heap := s₂.heap, slotsUsed := s₂.slotsUsed }
      rw [State.setFrames_self ht]
    subst hg
    refine ⟨h', K', (({ T with heap := s₂.heap, slotsUsed := s₂.slotsUsed } : State).setVm s₂.vm), L, hw',
      ⟨X.admits, X.cas, X.clock, X.frames, X.room, X.hears, X.method, X.code, (X.here.setHeapUsed s₂.heap s₂.slotsUsed).setVm hW'.alike, X.tail, State.WarmedH.trans X.warmed hW', X.limits, X.bytes, X.same.trans (hsame2.setVm s.vm)⟩, hL, Or.inl ⟨v, hpo, ?_⟩⟩
    rw [← hs₂]
    exact hsteps
end Back2
end
section
/-! calls in the walk -/
abbrev PR (v : Option Value) (h1 : AH) (K1 : Nat) : AO → AH → Nat → Prop := fun o h' K' => o = .inl v ∧ h' = h1 ∧ K' = K1
section CallRows
variable {a0 : Array Value} {s0 : State} {D : va_G} {cI cL : ClassId} {p : Program} {l : Launch} {e : Env} {R : Room} {s : State} {m : MethodId} {args : Array Value} {below : List Frame} {meth : Method} {c : Code} {Q : State → Prop} {tb : List ExceptionTableEntry}
variable {own : String} {cc : ByteArray} {nL : Nat} {ret : Option FieldType} {pc : Nat} {lv : List (Nat × Value)} {st rest : List Value} {h : AH} {K cells slots : Nat}
variable {y : MethodName} {cc' : ByteArray} {nL' : Nat} {ret' : Option FieldType} {d mc ms : Nat} {av : List Value} {Post : AO → AH → Nat → Prop}
theorem x_go (C : XC s0 D cI cL p s m meth c own cc nL ret tb) (hI : ∀ (ls : Array Slot) (H : Heap) (locs : List Loc), XP s0 D c.maxLocals lv h K ls H locs → XI p l e R s m args below meth c H locs cells slots y (F0 m pc ls st) rest av.toArray) {ig : Instr} (hd : decode cc pc = .ok (ig, 3)) (hM : XM l s0 D y cc' nL' ret' d mc ms av h K Post) (wc : (Cond.code y cc' nL' ret').before a0 s0 = true) (wi : (Cond.initialized y.cls).before a0 s0 = true) (hr : (rest.map fun v => v.category).sum ≤ 8) (hf : d + 1 ≤ R.frames) (hl : 8 + (nL' + 11) + 38 * d ≤ R.locals) (hc : cells + mc ≤ R.cells) (hs : slots + ms ≤ R.slots)
    (kk : ∀ (v : Option Value) (h' : AH) (K' : Nat), Post (.inl v) h' K' → XW s0 D p l e R s m args below meth c Q (pc + 3) lv (v.toList ++ rest) h' K' (cells + mc) (slots + ms))
    (kt : ∀ (Cn : String) (h' : AH) (K' : Nat), Post (.inr Cn) h' K' → ∀ (ls : Array Slot) (locs : List Loc) (x : Nat) (T' : State), ls.size = c.maxLocals → a_W s0 D h' K' T' → a_thr Cn x T' → Stand p l e R s m args below meth c T' locs (cells + mc) (slots + ms) → lv_has ls c.maxLocals lv → (∀ q ∈ locs, s0.heap.size ≤ q.base) → ∃ t, Steps p.tables e below ((T'.setTop (F0 m pc ls rest)).pushFrame (.throwing x)) t ∧ Q t) : XW s0 D p l e R s m args below meth c Q pc lv st h K cells slots := by
  intro ls H locs P T hT X
  obtain ⟨vm₁, mk, hW₁, X₁, hn, hst⟩ := hI ls H locs P T hT X
  have hwarm : s0.WarmedH vm₁ := State.WarmedH.trans C.2.2.2.2.1 hW₁
  have hw : a_W s0 D h K (T.setVm vm₁) := ⟨hwarm, by show T.heap.size = _; rw [hT]; exact P.2.1, fun q hq => by show T.heap[q]? = _; rw [hT]; exact P.2.2.1 q hq, fun k x hx => by show va_at D vwCl _ T.heap; rw [hT]; exact P.2.2.2.1 k x hx⟩
  obtain ⟨h', K', T', L, w', X', hL, r⟩ := x_back hM X₁ (g := F0 m pc ls rest) rfl P.1.1 (by rw [C.2.1]; exact hd) (by show 2 * 0 + (rest.map fun v => v.category).sum ≤ 8; omega) hn hw (word_at (U := T.setVm vm₁) hwarm (good_of_word rfl) wc) (word_at (U := T.setVm vm₁) hwarm (good_of_word rfl) wi) hf hl hc hs
  have hL2 : ∀ q ∈ locs ++ L, s0.heap.size ≤ q.base := fun q hq => by
    rcases List.mem_append.mp hq with h1 | h1
    · exact P.2.2.2.2 q h1
    · exact hL q h1
  rcases r with ⟨v, hp, hs2⟩ | ⟨Cn, x, hp, hthr, hs2⟩
  · obtain ⟨t, a1, b1⟩ := kk v h' K' hp ls T'.heap (locs ++ L) ⟨P.1, w'.2.1, w'.2.2.1, w'.2.2.2, hL2⟩ T' rfl X'
    exact ⟨t, hst t (hs2.trans a1), b1⟩
  · obtain ⟨t, a1, b1⟩ := kt Cn h' K' hp ls (locs ++ L) x T' P.1.1 w' hthr X' P.1 hL2
    exact ⟨t, hst t (hs2.trans a1), b1⟩
theorem x_goR {v : Option Value} {h1 : AH} {K1 : Nat} (C : XC s0 D cI cL p s m meth c own cc nL ret tb) (hI : ∀ (ls : Array Slot) (H : Heap) (locs : List Loc), XP s0 D c.maxLocals lv h K ls H locs → XI p l e R s m args below meth c H locs cells slots y (F0 m pc ls st) rest av.toArray) {ig : Instr} (hd : decode cc pc = .ok (ig, 3)) (hM : XM l s0 D y cc' nL' ret' d mc ms av h K (PR v h1 K1)) (wc : (Cond.code y cc' nL' ret').before a0 s0 = true) (wi : (Cond.initialized y.cls).before a0 s0 = true) (hr : (rest.map fun v => v.category).sum ≤ 8) (hf : d + 1 ≤ R.frames) (hl : 8 + (nL' + 11) + 38 * d ≤ R.locals) (hc : cells + mc ≤ R.cells) (hs : slots + ms ≤ R.slots)
    (kk : XW s0 D p l e R s m args below meth c Q (pc + 3) lv (v.toList ++ rest) h1 K1 (cells + mc) (slots + ms)) : XW s0 D p l e R s m args below meth c Q pc lv st h K cells slots := by
  refine x_go C hI hd hM wc wi hr hf hl hc hs (fun v' h' K' q => ?_) (fun Cn h' K' q => ?_)
  · obtain ⟨q1, q2, q3⟩ := q
    cases q1
    subst q2
    subst q3
    exact kk
  · obtain ⟨q1, -⟩ := q
    cases q1
theorem x_goT {mc' ms' : Nat} {Post' : AO → AH → Nat → Prop} (C : XC s0 D cI cL p s m meth c own cc nL ret []) (hI : ∀ (ls : Array Slot) (H : Heap) (locs : List Loc), XP s0 D c.maxLocals lv h K ls H locs → XI p l e R s m args below meth c H locs cells slots y (F0 m pc ls st) rest av.toArray) {ig : Instr} (hd : decode cc pc = .ok (ig, 3)) (hM : XM l s0 D y cc' nL' ret' d mc ms av h K Post) (wc : (Cond.code y cc' nL' ret').before a0 s0 = true) (wi : (Cond.initialized y.cls).before a0 s0 = true) (hr : (rest.map fun v => v.category).sum ≤ 8) (hf : d + 1 ≤ R.frames) (hl : 8 + (nL' + 11) + 38 * d ≤ R.locals) (hc : cells + mc ≤ R.cells) (hs : slots + ms ≤ R.slots) (hc2 : cells + mc ≤ mc') (hs2 : slots + ms ≤ ms')
    (kk : ∀ (v : Option Value) (h' : AH) (K' : Nat), Post (.inl v) h' K' → XW s0 D p l e R s m args below meth c (XQ s0 D mc' ms' Post' below s) (pc + 3) lv (v.toList ++ rest) h' K' (cells + mc) (slots + ms))
    (kt : ∀ (Cn : String) (h' : AH) (K' : Nat), Post (.inr Cn) h' K' → Post' (.inr Cn) h' K') : XW s0 D p l e R s m args below meth c (XQ s0 D mc' ms' Post' below s) pc lv st h K cells slots := by
  refine x_go C hI hd hM wc wi hr hf hl hc hs kk (fun Cn h' K' q ls locs x T' hz w' ht X' hlv hL => ?_)
  obtain ⟨q1, q2, q3, q4, q5⟩ := (stand_widen X' hc2 hs2).leaveThrown x (g := F0 m pc ls rest) rfl rfl rfl (fun z hz => by rw [C.2.2.2.2.2.2.2.2] at hz; cases hz) (hlocks := C.2.2.2.2.2.1)
  exact ⟨_, q1, .threw x, q2, q3, h', K', w', ⟨Cn, kt Cn h' K' q, ht⟩, locs, q4, q5, hL⟩
variable {ci : Nat} {T : u_T} {N : Nat} {ty : Nat → FieldType} {a : Nat} {fs argsL : List Value} {index : Nat}
theorem x_callVR {v : Option Value} {h1 : AH} {K1 : Nat} (C : XC s0 D cI cL p s m meth c own cc nL ret tb) (G : a_cl a0 s0 ci y.cls T N ty) (w1 : (Cond.methodLink own index y).before a0 s0 = true) (w2 : (Cond.instanceMethod y).before a0 s0 = true) (w3 : (Cond.selects y.cls y y).before a0 s0 = true) (wc : (Cond.code y cc' nL' ret').before a0 s0 = true) (wi : (Cond.initialized y.cls).before a0 s0 = true) (hd : decode cc pc = .ok (.invokevirtual index, 3)) (hM : XM l s0 D y cc' nL' ret' d mc ms (.ref (s0.heap.size + a) :: argsL) h K (PR v h1 K1)) (hy : y.cls ≠ "java/lang/invoke/MethodHandle" ∧ y.cls ≠ "java/lang/invoke/VarHandle") (hlen : (parseMethodDescriptor y.desc).map (fun d => d.parameters.length) = some argsL.length) (hst : st = argsL.reverse ++ .ref (s0.heap.size + a) :: rest) (hh : h a = some (.inr (ci, fs))) (hr : (rest.map fun v => v.category).sum ≤ 8) (hf : d + 1 ≤ R.frames) (hl : 8 + (nL' + 11) + 38 * d ≤ R.locals) (hc : cells + mc ≤ R.cells) (hs : slots + ms ≤ R.slots) (kk : XW s0 D p l e R s m args below meth c Q (pc + 3) lv (v.toList ++ rest) h1 K1 (cells + mc) (slots + ms)) : XW s0 D p l e R s m args below meth c Q pc lv st h K cells slots := by
  refine x_goR C (fun ls H locs P => ?_) hd hM wc wi hr hf hl hc hs kk
  have hP : va_P D vwCl [(s0.heap.size + a, .inr (ci, fs))] H := by
    intro j q hj
    cases j with
    | zero => cases hj; exact P.2.2.2.1 a _ hh
    | succ j => cases hj
  obtain ⟨cell, g1, g2, g3⟩ := va_recv C.2.2.2.2.2.2.1 hP G.1 (q0 := 0) rfl
  exact i_V C.1 C.2.2.2.1 (x_w C rfl w1) (x_w C rfl w2) (x_w C rfl w3) (x_w C rfl wc) hy g1 g2 g3 rfl hlen hst (by rw [C.2.1]; exact hd)
theorem x_callVT {mc' ms' : Nat} {Post' : AO → AH → Nat → Prop} (C : XC s0 D cI cL p s m meth c own cc nL ret []) (G : a_cl a0 s0 ci y.cls T N ty) (w1 : (Cond.methodLink own index y).before a0 s0 = true) (w2 : (Cond.instanceMethod y).before a0 s0 = true) (w3 : (Cond.selects y.cls y y).before a0 s0 = true) (wc : (Cond.code y cc' nL' ret').before a0 s0 = true) (wi : (Cond.initialized y.cls).before a0 s0 = true) (hd : decode cc pc = .ok (.invokevirtual index, 3)) (hM : XM l s0 D y cc' nL' ret' d mc ms (.ref (s0.heap.size + a) :: argsL) h K Post) (hy : y.cls ≠ "java/lang/invoke/MethodHandle" ∧ y.cls ≠ "java/lang/invoke/VarHandle") (hlen : (parseMethodDescriptor y.desc).map (fun d => d.parameters.length) = some argsL.length) (hst : st = argsL.reverse ++ .ref (s0.heap.size + a) :: rest) (hh : h a = some (.inr (ci, fs))) (hr : (rest.map fun v => v.category).sum ≤ 8) (hf : d + 1 ≤ R.frames) (hl : 8 + (nL' + 11) + 38 * d ≤ R.locals) (hc : cells + mc ≤ R.cells) (hs : slots + ms ≤ R.slots) (hc2 : cells + mc ≤ mc') (hs2 : slots + ms ≤ ms') (kk : ∀ (v : Option Value) (h' : AH) (K' : Nat), Post (.inl v) h' K' → XW s0 D p l e R s m args below meth c (XQ s0 D mc' ms' Post' below s) (pc + 3) lv (v.toList ++ rest) h' K' (cells + mc) (slots + ms)) (kt : ∀ (Cn : String) (h' : AH) (K' : Nat), Post (.inr Cn) h' K' → Post' (.inr Cn) h' K') : XW s0 D p l e R s m args below meth c (XQ s0 D mc' ms' Post' below s) pc lv st h K cells slots := by
  refine x_goT C (fun ls H locs P => ?_) hd hM wc wi hr hf hl hc hs hc2 hs2 kk kt
  have hP : va_P D vwCl [(s0.heap.size + a, .inr (ci, fs))] H := by
    intro j q hj
    cases j with
    | zero => cases hj; exact P.2.2.2.1 a _ hh
    | succ j => cases hj
  obtain ⟨cell, g1, g2, g3⟩ := va_recv C.2.2.2.2.2.2.1 hP G.1 (q0 := 0) rfl
  exact i_V C.1 C.2.2.2.1 (x_w C rfl w1) (x_w C rfl w2) (x_w C rfl w3) (x_w C rfl wc) hy g1 g2 g3 rfl hlen hst (by rw [C.2.1]; exact hd)
theorem x_callVNR {v : Option Value} {h1 : AH} {K1 : Nat} (C : XC s0 D cI cL p s m meth c own cc nL ret tb) (G : a_cl a0 s0 ci y.cls T N ty) {host : String} (w1 : (Cond.methodLinkNest own index y host).before a0 s0 = true) (w2 : (Cond.instanceMethod y).before a0 s0 = true) (w3 : (Cond.selects y.cls y y).before a0 s0 = true) (wc : (Cond.code y cc' nL' ret').before a0 s0 = true) (wi : (Cond.initialized y.cls).before a0 s0 = true) (hd : decode cc pc = .ok (.invokevirtual index, 3)) (hM : XM l s0 D y cc' nL' ret' d mc ms (.ref (s0.heap.size + a) :: argsL) h K (PR v h1 K1)) (hy : y.cls ≠ "java/lang/invoke/MethodHandle" ∧ y.cls ≠ "java/lang/invoke/VarHandle") (hlen : (parseMethodDescriptor y.desc).map (fun d => d.parameters.length) = some argsL.length) (hst : st = argsL.reverse ++ .ref (s0.heap.size + a) :: rest) (hh : h a = some (.inr (ci, fs))) (hr : (rest.map fun v => v.category).sum ≤ 8) (hf : d + 1 ≤ R.frames) (hl : 8 + (nL' + 11) + 38 * d ≤ R.locals) (hc : cells + mc ≤ R.cells) (hs : slots + ms ≤ R.slots) (kk : XW s0 D p l e R s m args below meth c Q (pc + 3) lv (v.toList ++ rest) h1 K1 (cells + mc) (slots + ms)) : XW s0 D p l e R s m args below meth c Q pc lv st h K cells slots := by
  refine x_goR C (fun ls H locs P => ?_) hd hM wc wi hr hf hl hc hs kk
  have hP : va_P D vwCl [(s0.heap.size + a, .inr (ci, fs))] H := by
    intro j q hj
    cases j with
    | zero => cases hj; exact P.2.2.2.1 a _ hh
    | succ j => cases hj
  obtain ⟨cell, g1, g2, g3⟩ := va_recv C.2.2.2.2.2.2.1 hP G.1 (q0 := 0) rfl
  exact i_VN C.1 C.2.2.2.1 (va_Nw.use rfl (va_Nw.warmM C.2.2.2.2.1 (va_Nw.of rfl w1))) (x_w C rfl w2) (x_w C rfl w3) (x_w C rfl wc) hy g1 g2 g3 rfl hlen hst (by rw [C.2.1]; exact hd)
theorem x_callVNT {mc' ms' : Nat} {Post' : AO → AH → Nat → Prop} (C : XC s0 D cI cL p s m meth c own cc nL ret []) (G : a_cl a0 s0 ci y.cls T N ty) {host : String} (w1 : (Cond.methodLinkNest own index y host).before a0 s0 = true) (w2 : (Cond.instanceMethod y).before a0 s0 = true) (w3 : (Cond.selects y.cls y y).before a0 s0 = true) (wc : (Cond.code y cc' nL' ret').before a0 s0 = true) (wi : (Cond.initialized y.cls).before a0 s0 = true) (hd : decode cc pc = .ok (.invokevirtual index, 3)) (hM : XM l s0 D y cc' nL' ret' d mc ms (.ref (s0.heap.size + a) :: argsL) h K Post) (hy : y.cls ≠ "java/lang/invoke/MethodHandle" ∧ y.cls ≠ "java/lang/invoke/VarHandle") (hlen : (parseMethodDescriptor y.desc).map (fun d => d.parameters.length) = some argsL.length) (hst : st = argsL.reverse ++ .ref (s0.heap.size + a) :: rest) (hh : h a = some (.inr (ci, fs))) (hr : (rest.map fun v => v.category).sum ≤ 8) (hf : d + 1 ≤ R.frames) (hl : 8 + (nL' + 11) + 38 * d ≤ R.locals) (hc : cells + mc ≤ R.cells) (hs : slots + ms ≤ R.slots) (hc2 : cells + mc ≤ mc') (hs2 : slots + ms ≤ ms') (kk : ∀ (v : Option Value) (h' : AH) (K' : Nat), Post (.inl v) h' K' → XW s0 D p l e R s m args below meth c (XQ s0 D mc' ms' Post' below s) (pc + 3) lv (v.toList ++ rest) h' K' (cells + mc) (slots + ms)) (kt : ∀ (Cn : String) (h' : AH) (K' : Nat), Post (.inr Cn) h' K' → Post' (.inr Cn) h' K') : XW s0 D p l e R s m args below meth c (XQ s0 D mc' ms' Post' below s) pc lv st h K cells slots := by
  refine x_goT C (fun ls H locs P => ?_) hd hM wc wi hr hf hl hc hs hc2 hs2 kk kt
  have hP : va_P D vwCl [(s0.heap.size + a, .inr (ci, fs))] H := by
    intro j q hj
    cases j with
    | zero => cases hj; exact P.2.2.2.1 a _ hh
    | succ j => cases hj
  obtain ⟨cell, g1, g2, g3⟩ := va_recv C.2.2.2.2.2.2.1 hP G.1 (q0 := 0) rfl
  exact i_VN C.1 C.2.2.2.1 (va_Nw.use rfl (va_Nw.warmM C.2.2.2.2.1 (va_Nw.of rfl w1))) (x_w C rfl w2) (x_w C rfl w3) (x_w C rfl wc) hy g1 g2 g3 rfl hlen hst (by rw [C.2.1]; exact hd)
theorem x_callSR {v : Option Value} {h1 : AH} {K1 : Nat} (C : XC s0 D cI cL p s m meth c own cc nL ret tb)  (w1 : (Cond.methodLink own index y).before a0 s0 = true) (w2 : (Cond.static y).before a0 s0 = true) (wc : (Cond.code y cc' nL' ret').before a0 s0 = true) (wi : (Cond.initialized y.cls).before a0 s0 = true) (hd : decode cc pc = .ok (.invokestatic index, 3)) (hM : XM l s0 D y cc' nL' ret' d mc ms argsL h K (PR v h1 K1)) (hy : y.cls ≠ "java/lang/invoke/MethodHandle" ∧ y.cls ≠ "java/lang/invoke/VarHandle") (hlen : (parseMethodDescriptor y.desc).map (fun d => d.parameters.length) = some argsL.length) (hst : st = argsL.reverse ++ rest)  (hr : (rest.map fun v => v.category).sum ≤ 8) (hf : d + 1 ≤ R.frames) (hl : 8 + (nL' + 11) + 38 * d ≤ R.locals) (hc : cells + mc ≤ R.cells) (hs : slots + ms ≤ R.slots) (kk : XW s0 D p l e R s m args below meth c Q (pc + 3) lv (v.toList ++ rest) h1 K1 (cells + mc) (slots + ms)) : XW s0 D p l e R s m args below meth c Q pc lv st h K cells slots := by
  refine x_goR C (fun ls H locs P => ?_) hd hM wc wi hr hf hl hc hs kk
  exact i_S C.1 C.2.2.2.1 (x_w C rfl w1) (x_w C rfl w2) (x_w C rfl wi) (x_w C rfl wc) hy rfl hlen hst (by rw [C.2.1]; exact hd)
theorem x_callST {mc' ms' : Nat} {Post' : AO → AH → Nat → Prop} (C : XC s0 D cI cL p s m meth c own cc nL ret [])  (w1 : (Cond.methodLink own index y).before a0 s0 = true) (w2 : (Cond.static y).before a0 s0 = true) (wc : (Cond.code y cc' nL' ret').before a0 s0 = true) (wi : (Cond.initialized y.cls).before a0 s0 = true) (hd : decode cc pc = .ok (.invokestatic index, 3)) (hM : XM l s0 D y cc' nL' ret' d mc ms argsL h K Post) (hy : y.cls ≠ "java/lang/invoke/MethodHandle" ∧ y.cls ≠ "java/lang/invoke/VarHandle") (hlen : (parseMethodDescriptor y.desc).map (fun d => d.parameters.length) = some argsL.length) (hst : st = argsL.reverse ++ rest)  (hr : (rest.map fun v => v.category).sum ≤ 8) (hf : d + 1 ≤ R.frames) (hl : 8 + (nL' + 11) + 38 * d ≤ R.locals) (hc : cells + mc ≤ R.cells) (hs : slots + ms ≤ R.slots) (hc2 : cells + mc ≤ mc') (hs2 : slots + ms ≤ ms') (kk : ∀ (v : Option Value) (h' : AH) (K' : Nat), Post (.inl v) h' K' → XW s0 D p l e R s m args below meth c (XQ s0 D mc' ms' Post' below s) (pc + 3) lv (v.toList ++ rest) h' K' (cells + mc) (slots + ms)) (kt : ∀ (Cn : String) (h' : AH) (K' : Nat), Post (.inr Cn) h' K' → Post' (.inr Cn) h' K') : XW s0 D p l e R s m args below meth c (XQ s0 D mc' ms' Post' below s) pc lv st h K cells slots := by
  refine x_goT C (fun ls H locs P => ?_) hd hM wc wi hr hf hl hc hs hc2 hs2 kk kt
  exact i_S C.1 C.2.2.2.1 (x_w C rfl w1) (x_w C rfl w2) (x_w C rfl wi) (x_w C rfl wc) hy rfl hlen hst (by rw [C.2.1]; exact hd)
theorem x_callSNR {v : Option Value} {h1 : AH} {K1 : Nat} (C : XC s0 D cI cL p s m meth c own cc nL ret tb)  {host : String} (w1 : (Cond.methodLinkNest own index y host).before a0 s0 = true) (w2 : (Cond.static y).before a0 s0 = true) (wc : (Cond.code y cc' nL' ret').before a0 s0 = true) (wi : (Cond.initialized y.cls).before a0 s0 = true) (hd : decode cc pc = .ok (.invokestatic index, 3)) (hM : XM l s0 D y cc' nL' ret' d mc ms argsL h K (PR v h1 K1)) (hy : y.cls ≠ "java/lang/invoke/MethodHandle" ∧ y.cls ≠ "java/lang/invoke/VarHandle") (hlen : (parseMethodDescriptor y.desc).map (fun d => d.parameters.length) = some argsL.length) (hst : st = argsL.reverse ++ rest)  (hr : (rest.map fun v => v.category).sum ≤ 8) (hf : d + 1 ≤ R.frames) (hl : 8 + (nL' + 11) + 38 * d ≤ R.locals) (hc : cells + mc ≤ R.cells) (hs : slots + ms ≤ R.slots) (kk : XW s0 D p l e R s m args below meth c Q (pc + 3) lv (v.toList ++ rest) h1 K1 (cells + mc) (slots + ms)) : XW s0 D p l e R s m args below meth c Q pc lv st h K cells slots := by
  refine x_goR C (fun ls H locs P => ?_) hd hM wc wi hr hf hl hc hs kk
  exact i_SN C.1 C.2.2.2.1 (va_Nw.use rfl (va_Nw.warmM C.2.2.2.2.1 (va_Nw.of rfl w1))) (x_w C rfl w2) (x_w C rfl wi) (x_w C rfl wc) hy rfl hlen hst (by rw [C.2.1]; exact hd)
theorem x_callSNT {mc' ms' : Nat} {Post' : AO → AH → Nat → Prop} (C : XC s0 D cI cL p s m meth c own cc nL ret [])  {host : String} (w1 : (Cond.methodLinkNest own index y host).before a0 s0 = true) (w2 : (Cond.static y).before a0 s0 = true) (wc : (Cond.code y cc' nL' ret').before a0 s0 = true) (wi : (Cond.initialized y.cls).before a0 s0 = true) (hd : decode cc pc = .ok (.invokestatic index, 3)) (hM : XM l s0 D y cc' nL' ret' d mc ms argsL h K Post) (hy : y.cls ≠ "java/lang/invoke/MethodHandle" ∧ y.cls ≠ "java/lang/invoke/VarHandle") (hlen : (parseMethodDescriptor y.desc).map (fun d => d.parameters.length) = some argsL.length) (hst : st = argsL.reverse ++ rest)  (hr : (rest.map fun v => v.category).sum ≤ 8) (hf : d + 1 ≤ R.frames) (hl : 8 + (nL' + 11) + 38 * d ≤ R.locals) (hc : cells + mc ≤ R.cells) (hs : slots + ms ≤ R.slots) (hc2 : cells + mc ≤ mc') (hs2 : slots + ms ≤ ms') (kk : ∀ (v : Option Value) (h' : AH) (K' : Nat), Post (.inl v) h' K' → XW s0 D p l e R s m args below meth c (XQ s0 D mc' ms' Post' below s) (pc + 3) lv (v.toList ++ rest) h' K' (cells + mc) (slots + ms)) (kt : ∀ (Cn : String) (h' : AH) (K' : Nat), Post (.inr Cn) h' K' → Post' (.inr Cn) h' K') : XW s0 D p l e R s m args below meth c (XQ s0 D mc' ms' Post' below s) pc lv st h K cells slots := by
  refine x_goT C (fun ls H locs P => ?_) hd hM wc wi hr hf hl hc hs hc2 hs2 kk kt
  exact i_SN C.1 C.2.2.2.1 (va_Nw.use rfl (va_Nw.warmM C.2.2.2.2.1 (va_Nw.of rfl w1))) (x_w C rfl w2) (x_w C rfl wi) (x_w C rfl wc) hy rfl hlen hst (by rw [C.2.1]; exact hd)
theorem x_callIR {v : Option Value} {h1 : AH} {K1 : Nat} (C : XC s0 D cI cL p s m meth c own cc nL ret tb)  (hy1 : y.name = "<init>") (w1 : (Cond.methodLink own index y).before a0 s0 = true) (w2 : (Cond.instanceMethod y).before a0 s0 = true) (wc : (Cond.code y cc' nL' none).before a0 s0 = true) (wi : (Cond.initialized y.cls).before a0 s0 = true) (hd : decode cc pc = .ok (.invokespecial index, 3)) (hM : XM l s0 D y cc' nL' none d mc ms (.ref (s0.heap.size + a) :: argsL) h K (PR v h1 K1)) (hy : y.cls ≠ "java/lang/invoke/MethodHandle" ∧ y.cls ≠ "java/lang/invoke/VarHandle") (hlen : (parseMethodDescriptor y.desc).map (fun d => d.parameters.length) = some argsL.length) (hst : st = argsL.reverse ++ .ref (s0.heap.size + a) :: rest)  (hr : (rest.map fun v => v.category).sum ≤ 8) (hf : d + 1 ≤ R.frames) (hl : 8 + (nL' + 11) + 38 * d ≤ R.locals) (hc : cells + mc ≤ R.cells) (hs : slots + ms ≤ R.slots) (kk : XW s0 D p l e R s m args below meth c Q (pc + 3) lv (v.toList ++ rest) h1 K1 (cells + mc) (slots + ms)) : XW s0 D p l e R s m args below meth c Q pc lv st h K cells slots := by
  refine x_goR C (fun ls H locs P => ?_) hd hM wc wi hr hf hl hc hs kk
  exact i_I C.1 C.2.2.2.1 hy1 (x_w C rfl w1) (x_w C rfl w2) (x_w C rfl wc) hy rfl hlen hst (by rw [C.2.1]; exact hd)
theorem x_callINR {v : Option Value} {h1 : AH} {K1 : Nat} (C : XC s0 D cI cL p s m meth c own cc nL ret tb)  {host : String} (hy1 : y.name = "<init>") (w1 : (Cond.methodLinkNest own index y host).before a0 s0 = true) (w2 : (Cond.instanceMethod y).before a0 s0 = true) (wc : (Cond.code y cc' nL' none).before a0 s0 = true) (wi : (Cond.initialized y.cls).before a0 s0 = true) (hd : decode cc pc = .ok (.invokespecial index, 3)) (hM : XM l s0 D y cc' nL' none d mc ms (.ref (s0.heap.size + a) :: argsL) h K (PR v h1 K1)) (hy : y.cls ≠ "java/lang/invoke/MethodHandle" ∧ y.cls ≠ "java/lang/invoke/VarHandle") (hlen : (parseMethodDescriptor y.desc).map (fun d => d.parameters.length) = some argsL.length) (hst : st = argsL.reverse ++ .ref (s0.heap.size + a) :: rest)  (hr : (rest.map fun v => v.category).sum ≤ 8) (hf : d + 1 ≤ R.frames) (hl : 8 + (nL' + 11) + 38 * d ≤ R.locals) (hc : cells + mc ≤ R.cells) (hs : slots + ms ≤ R.slots) (kk : XW s0 D p l e R s m args below meth c Q (pc + 3) lv (v.toList ++ rest) h1 K1 (cells + mc) (slots + ms)) : XW s0 D p l e R s m args below meth c Q pc lv st h K cells slots := by
  refine x_goR C (fun ls H locs P => ?_) hd hM wc wi hr hf hl hc hs kk
  exact i_IN C.1 C.2.2.2.1 hy1 (va_Nw.use rfl (va_Nw.warmM C.2.2.2.2.1 (va_Nw.of rfl w1))) (x_w C rfl w2) (x_w C rfl wc) hy rfl hlen hst (by rw [C.2.1]; exact hd)
end CallRows
end
section
/-! System.arraycopy between two rows of ints -/
section CopyRow
variable {a0 : Array Value} {s0 : State} {D : va_G} {cI cL : ClassId} {p : Program} {l : Launch} {e : Env} {R : Room} {s : State} {m : MethodId} {args : Array Value} {below : List Frame} {meth : Method} {c : Code} {Q : State → Prop} {tb : List ExceptionTableEntry}
variable {own : String} {cc : ByteArray} {nL : Nat} {ret : Option FieldType} {pc : Nat} {lv : List (Nat × Value)} {st : List Value} {h : AH} {K cells slots : Nat} {index : Nat}
theorem x_copy (C : XC s0 D cI cL p s m meth c own cc nL ret tb) (w1 : (Cond.methodLink own index arraycopyName).before a0 s0 = true) (w2 : (Cond.native arraycopyName).before a0 s0 = true) (w3 : (Cond.static arraycopyName).before a0 s0 = true) (w4 : (Cond.initialized "java/lang/System").before a0 s0 = true)
    {a0 a1 n0 n1 : Nat} {f g : Int → Int} {sp dp n : Int} (hd : decode cc pc = .ok (.invokestatic index, 3)) (ha0 : h a0 = some (iA cI n0 f)) (ha1 : h a1 = some (iA cI n1 g)) (h1 : 0 ≤ sp) (h2 : 0 ≤ dp) (h3 : 0 ≤ n) (h4 : sp + n ≤ (n0 : Int)) (h5 : dp + n ≤ (n1 : Int)) (hn0 : (n0 : Int) < 2147483648) (hn1 : (n1 : Int) < 2147483648)
    (hf : 1 ≤ R.frames) (hl : (st.map fun v => v.category).sum + (nativeFrameWords "java/lang/System" "arraycopy" 5 + 11) ≤ R.locals)
    (kk : XW s0 D p l e R s m args below meth c Q (pc + 3) lv st (a_up h a1 (iA cI n1 (zcpy f g sp dp n))) K cells slots) : XW s0 D p l e R s m args below meth c Q pc lv (.int (zI n) :: .int (zI dp) :: .ref (s0.heap.size + a1) :: .int (zI sp) :: .ref (s0.heap.size + a0) :: st) h K cells slots := by
  intro ls H locs P T hT X
  have hc0 : H[s0.heap.size + a0]? = some (vp_cell cI (n0, .inl (fun j => zI (f (j : Int))))) := P.2.2.2.1 a0 _ ha0
  have hc1 : H[s0.heap.size + a1]? = some (vp_cell cI (n1, .inl (fun j => zI (g (j : Int))))) := P.2.2.2.1 a1 _ ha1
  obtain ⟨-, k0, hk0, cm0, hkk0⟩ := (C.2.2.2.2.2.2.1.2 0 _ rfl).1 n0 (fun j => .int (zI (f (j : Int))))
  have hnn : ∀ z : Int, 0 ≤ z → z < 2147483648 → ¬ zI z < 0 := fun z z1 z2 q => by rw [← zI_0, zI_lt (by omega) z2 (by omega) (by omega)] at q; omega
  have es : (zI sp).toNatClampNeg = sp.toNat := zI_cl h1 (by omega)
  have ed : (zI dp).toNatClampNeg = dp.toNat := zI_cl h2 (by omega)
  have en : (zI n).toNatClampNeg = n.toNat := zI_cl h3 (by omega)
  obtain ⟨vm', X', step⟩ := X.arraycopy C.1 C.2.2.2.1 (x_w C rfl w1) (x_w C rfl w2) (x_w C rfl w3) (x_w C rfl w4) (src := s0.heap.size + a0) (dst := s0.heap.size + a1) (cs := vp_cell cI (n0, .inl (fun j => zI (f (j : Int))))) (cd := vp_cell cI (n1, .inl (fun j => zI (g (j : Int))))) (srcPos := zI sp) (destPos := zI dp) (n := zI n) (by rw [hT]; exact hc0) (by rw [hT]; exact hc1)
    (fun _ h => by cases h) (fun _ h => by cases h) (fun h => by cases h) (fun h => by cases h) hk0 hk0 hkk0 hkk0 (by simp [refKind]) (hnn sp h1 (by omega)) (hnn dp h2 (by omega)) (hnn n h3 (by omega))
    (by rw [zI_t (by omega) (by omega), zI_t (by omega) (by omega)]; show ¬ _ > ((arrV cI n0 (fun j => .int (zI (f (j : Int))))).slots.size : Int); rw [arrV_size]; omega)
    (by rw [zI_t (by omega) (by omega), zI_t (by omega) (by omega)]; show ¬ _ > ((arrV cI n1 (fun j => .int (zI (g (j : Int))))).slots.size : Int); rw [arrV_size]; omega)
    (fun vm₁ _ i hi => by
      have e : (vp_cell cI (n0, .inl (fun j => zI (f (j : Int))))).slots.getD ((zI sp).toNatClampNeg + i) .null = .int (zI (f (((zI sp).toNatClampNeg + i : Nat) : Int))) := by
        show (arrV cI n0 (fun j => .int (zI (f (j : Int))))).slots.getD _ _ = _
        rw [Array.getD_eq_getD_getElem?, arrV_read _ _ (by rw [es]; rw [en] at hi; omega)]
        rfl
      refine ⟨?_, ?_⟩
      · rw [e]
        rfl
      · rw [e]
        exact trivial)
    (g := F0 m pc ls (.int (zI n) :: .int (zI dp) :: .ref (s0.heap.size + a1) :: .int (zI sp) :: .ref (s0.heap.size + a0) :: st)) rfl P.1.1 (rest := st) rfl (by rw [C.2.1]; exact hd) hf (by show 2 * 0 + _ + _ ≤ _; omega)
  have e1 : copied (vp_cell cI (n0, .inl (fun j => zI (f (j : Int))))) (vp_cell cI (n1, .inl (fun j => zI (g (j : Int))))) (zI sp) (zI dp) (zI n) = vp_cell cI (n1, .inl (fun j => zI (zcpy f g sp dp n (j : Int)))) := by
    have h9 := va_copied (fun z => Value.int z) cI cI (n0 := n0) (n1 := n1) (sp := (zI sp).toNatClampNeg) (dp := (zI dp).toNatClampNeg) (n := (zI n).toNatClampNeg) (fun j => zI (f (j : Int))) (fun j => zI (g (j : Int))) (by rw [es, en]; omega)
    rw [es, ed, en, cpy_z f g h1 h2 h3] at h9
    rw [← es, ← ed, ← en] at h9
    exact h9
  rw [e1] at X' step
  have hlt : s0.heap.size + a1 < H.size := (Array.getElem?_eq_some_iff.mp hc1).1
  have hheap : ((T.setVm vm').setCell (s0.heap.size + a1) (vp_cell cI (n1, .inl (fun j => zI (zcpy f g sp dp n (j : Int)))))).heap = H.setIfInBounds (s0.heap.size + a1) (vp_cell cI (n1, .inl (fun j => zI (zcpy f g sp dp n (j : Int))))) := by rw [← hT]; rfl
  have P2 := P.put (a := a1) (k0 := 0) (x := iA cI n1 (zcpy f g sp dp n)) (H' := H.setIfInBounds (s0.heap.size + a1) (vp_cell cI (n1, .inl (fun j => zI (zcpy f g sp dp n (j : Int)))))) (by simp) (fun q hq => by simp [Array.getElem?_setIfInBounds, Ne.symm hq]) (show (H.setIfInBounds (s0.heap.size + a1) _)[s0.heap.size + a1]? = some _ by simp [Array.getElem?_setIfInBounds, hlt])
  obtain ⟨t, a1', b1⟩ := kk ls _ _ ⟨P2.1, P2.2.1, P2.2.2.1, P2.2.2.2.1, fun q hq => by
      rcases List.mem_append.mp hq with h | h
      · exact P.2.2.2.2 q h
      · obtain ⟨z, -, hz⟩ := List.mem_map.mp h
        rw [← hz]
        exact Nat.le_add_right _ _⟩ _ hheap X'
  exact ⟨t, step t a1', b1⟩
end CopyRow
end
section
/-! the classes' tables at the start; descriptors; new objects -/
theorem nle {a b : Nat} (h : Nat.ble a b = true) : a ≤ b := Nat.le_of_ble_eq_true h
def a_E (a0 : Array Value) (s0 : State) (D : va_G) (cI cL : ClassId) : Prop := a_Z a0 s0 ∧ va_K D vwCl [(cI, .int), (cL, .long)] s0
theorem uw_By : ∀ w ∈ u_ws "NarrowingPacker$Bytes" F_By 2, w ∈ tables_1 := by decide +kernel
theorem G_By {a0 : Array Value} {s0 : State} (Z : a_Z a0 s0) : a_cl a0 s0 0 "NarrowingPacker$Bytes" F_By 2 t_By := ⟨rfl, fun w hw => Z w (List.mem_append_right _ (uw_By w hw)), by decide +kernel, by decide +kernel⟩
theorem nf_By : ∀ j, j < 2 → defaultValue (t_By j) = vp_V [.null, .int (zI 0)] j := by
  intro j hj
  match j, hj with
  | 0, _ => rfl
  | 1, _ => rfl
  | i + 2, hh => exact absurd hh (by omega)
theorem uw_Ch : ∀ w ∈ u_ws "NarrowingPacker$Chances" F_Ch 1, w ∈ tables_1 := by decide +kernel
theorem G_Ch {a0 : Array Value} {s0 : State} (Z : a_Z a0 s0) : a_cl a0 s0 1 "NarrowingPacker$Chances" F_Ch 1 t_Ch := ⟨rfl, fun w hw => Z w (List.mem_append_right _ (uw_Ch w hw)), by decide +kernel, by decide +kernel⟩
theorem nf_Ch : ∀ j, j < 1 → defaultValue (t_Ch j) = vp_V [.null] j := by
  intro j hj
  match j, hj with
  | 0, _ => rfl
  | i + 1, hh => exact absurd hh (by omega)
theorem uw_Co : ∀ w ∈ u_ws "NarrowingPacker$Chooser" F_Co 5, w ∈ tables_1 := by decide +kernel
theorem G_Co {a0 : Array Value} {s0 : State} (Z : a_Z a0 s0) : a_cl a0 s0 2 "NarrowingPacker$Chooser" F_Co 5 t_Co := ⟨rfl, fun w hw => Z w (List.mem_append_right _ (uw_Co w hw)), by decide +kernel, by decide +kernel⟩
theorem nf_Co : ∀ j, j < 5 → defaultValue (t_Co j) = vp_V [.int (zI 0), .int (zI 0), .int (zI 0), .int (zI 0), .int (zI 0)] j := by
  intro j hj
  match j, hj with
  | 0, _ => rfl
  | 1, _ => rfl
  | 2, _ => rfl
  | 3, _ => rfl
  | 4, _ => rfl
  | i + 5, hh => exact absurd hh (by omega)
theorem uw_Fo : ∀ w ∈ u_ws "NarrowingPacker$Follower" F_Fo 5, w ∈ tables_1 := by decide +kernel
theorem G_Fo {a0 : Array Value} {s0 : State} (Z : a_Z a0 s0) : a_cl a0 s0 3 "NarrowingPacker$Follower" F_Fo 5 t_Fo := ⟨rfl, fun w hw => Z w (List.mem_append_right _ (uw_Fo w hw)), by decide +kernel, by decide +kernel⟩
theorem nf_Fo : ∀ j, j < 5 → defaultValue (t_Fo j) = vp_V [.null, .null, .int (zI 0), .long (zL 0), .long (zL 0)] j := by
  intro j hj
  match j, hj with
  | 0, _ => rfl
  | 1, _ => rfl
  | 2, _ => rfl
  | 3, _ => rfl
  | 4, _ => rfl
  | i + 5, hh => exact absurd hh (by omega)
theorem uw_Hi : ∀ w ∈ u_ws "NarrowingPacker$History" F_Hi 3, w ∈ tables_1 := by decide +kernel
theorem G_Hi {a0 : Array Value} {s0 : State} (Z : a_Z a0 s0) : a_cl a0 s0 4 "NarrowingPacker$History" F_Hi 3 t_Hi := ⟨rfl, fun w hw => Z w (List.mem_append_right _ (uw_Hi w hw)), by decide +kernel, by decide +kernel⟩
theorem nf_Hi : ∀ j, j < 3 → defaultValue (t_Hi j) = vp_V [.null, .null, .int (zI 0)] j := by
  intro j hj
  match j, hj with
  | 0, _ => rfl
  | 1, _ => rfl
  | 2, _ => rfl
  | i + 3, hh => exact absurd hh (by omega)
theorem uw_Na : ∀ w ∈ u_ws "NarrowingPacker$Narrower" F_Na 4, w ∈ tables_1 := by decide +kernel
theorem G_Na {a0 : Array Value} {s0 : State} (Z : a_Z a0 s0) : a_cl a0 s0 5 "NarrowingPacker$Narrower" F_Na 4 t_Na := ⟨rfl, fun w hw => Z w (List.mem_append_right _ (uw_Na w hw)), by decide +kernel, by decide +kernel⟩
theorem nf_Na : ∀ j, j < 4 → defaultValue (t_Na j) = vp_V [.null, .null, .int (zI 0), .long (zL 0)] j := by
  intro j hj
  match j, hj with
  | 0, _ => rfl
  | 1, _ => rfl
  | 2, _ => rfl
  | 3, _ => rfl
  | i + 4, hh => exact absurd hh (by omega)
theorem uw_Pa : ∀ w ∈ u_ws "NarrowingPacker$Packet" F_Pa 5, w ∈ tables_1 := by decide +kernel
theorem G_Pa {a0 : Array Value} {s0 : State} (Z : a_Z a0 s0) : a_cl a0 s0 6 "NarrowingPacker$Packet" F_Pa 5 t_Pa := ⟨rfl, fun w hw => Z w (List.mem_append_right _ (uw_Pa w hw)), by decide +kernel, by decide +kernel⟩
theorem nf_Pa : ∀ j, j < 5 → defaultValue (t_Pa j) = vp_V [.int (zI 0), .int (zI 0), .int (zI 0), .int (zI 0), .int (zI 0)] j := by
  intro j hj
  match j, hj with
  | 0, _ => rfl
  | 1, _ => rfl
  | 2, _ => rfl
  | 3, _ => rfl
  | 4, _ => rfl
  | i + 5, hh => exact absurd hh (by omega)
theorem uw_Pl : ∀ w ∈ u_ws "NarrowingPacker$PacketList" F_Pl 4, w ∈ tables_1 := by decide +kernel
theorem G_Pl {a0 : Array Value} {s0 : State} (Z : a_Z a0 s0) : a_cl a0 s0 7 "NarrowingPacker$PacketList" F_Pl 4 t_Pl := ⟨rfl, fun w hw => Z w (List.mem_append_right _ (uw_Pl w hw)), by decide +kernel, by decide +kernel⟩
theorem nf_Pl : ∀ j, j < 4 → defaultValue (t_Pl j) = vp_V [.null, .null, .null, .int (zI 0)] j := by
  intro j hj
  match j, hj with
  | 0, _ => rfl
  | 1, _ => rfl
  | 2, _ => rfl
  | 3, _ => rfl
  | i + 4, hh => exact absurd hh (by omega)
theorem uw_Re : ∀ w ∈ u_ws "NarrowingPacker$PacketReader" F_Re 1, w ∈ tables_1 := by decide +kernel
theorem G_Re {a0 : Array Value} {s0 : State} (Z : a_Z a0 s0) : a_cl a0 s0 8 "NarrowingPacker$PacketReader" F_Re 1 t_Re := ⟨rfl, fun w hw => Z w (List.mem_append_right _ (uw_Re w hw)), by decide +kernel, by decide +kernel⟩
theorem nf_Re : ∀ j, j < 1 → defaultValue (t_Re j) = vp_V [.null] j := by
  intro j hj
  match j, hj with
  | 0, _ => rfl
  | i + 1, hh => exact absurd hh (by omega)
theorem uw_Wr : ∀ w ∈ u_ws "NarrowingPacker$PacketWriter" F_Wr 1, w ∈ tables_1 := by decide +kernel
theorem G_Wr {a0 : Array Value} {s0 : State} (Z : a_Z a0 s0) : a_cl a0 s0 9 "NarrowingPacker$PacketWriter" F_Wr 1 t_Wr := ⟨rfl, fun w hw => Z w (List.mem_append_right _ (uw_Wr w hw)), by decide +kernel, by decide +kernel⟩
theorem nf_Wr : ∀ j, j < 1 → defaultValue (t_Wr j) = vp_V [.null] j := by
  intro j hj
  match j, hj with
  | 0, _ => rfl
  | i + 1, hh => exact absurd hh (by omega)
theorem uw_Np : ∀ w ∈ u_ws "NarrowingPacker" F_Np 12, w ∈ tables_1 := by decide +kernel
theorem G_Np {a0 : Array Value} {s0 : State} (Z : a_Z a0 s0) : a_cl a0 s0 10 "NarrowingPacker" F_Np 12 t_Np := ⟨rfl, fun w hw => Z w (List.mem_append_right _ (uw_Np w hw)), by decide +kernel, by decide +kernel⟩
theorem nf_Np : ∀ j, j < 12 → defaultValue (t_Np j) = vp_V [.null, .null, .null, .null, .null, .int (zI 0), .null, .null, .null, .null, .null, .null] j := by
  intro j hj
  match j, hj with
  | 0, _ => rfl
  | 1, _ => rfl
  | 2, _ => rfl
  | 3, _ => rfl
  | 4, _ => rfl
  | 5, _ => rfl
  | 6, _ => rfl
  | 7, _ => rfl
  | 8, _ => rfl
  | 9, _ => rfl
  | 10, _ => rfl
  | 11, _ => rfl
  | i + 12, hh => exact absurd hh (by omega)
theorem uw_Mo : ∀ w ∈ u_ws "NarrowingPackerModel" F_Mo 34, w ∈ tables_1 := by decide +kernel
theorem G_Mo {a0 : Array Value} {s0 : State} (Z : a_Z a0 s0) : a_cl a0 s0 11 "NarrowingPackerModel" F_Mo 34 t_Mo := ⟨rfl, fun w hw => Z w (List.mem_append_right _ (uw_Mo w hw)), by decide +kernel, by decide +kernel⟩
theorem nf_Mo : ∀ j, j < 34 → defaultValue (t_Mo j) = vp_V [.int (zI 0), .int (zI 0), .int (zI 0), .null, .int (zI 0), .null, .int (zI 0), .null, .int (zI 0), .int (zI 0), .null, .null, .null, .null, .int (zI 0), .int (zI 0), .null, .long (zL 0), .int (zI 0), .null, .long (zL 0), .int (zI 0), .int (zI 0), .int (zI 0), .null, .null, .int (zI 0), .null, .null, .null, .int (zI 0), .int (zI 0), .int (zI 0), .int (zI 0)] j := by
  intro j hj
  match j, hj with
  | 0, _ => rfl
  | 1, _ => rfl
  | 2, _ => rfl
  | 3, _ => rfl
  | 4, _ => rfl
  | 5, _ => rfl
  | 6, _ => rfl
  | 7, _ => rfl
  | 8, _ => rfl
  | 9, _ => rfl
  | 10, _ => rfl
  | 11, _ => rfl
  | 12, _ => rfl
  | 13, _ => rfl
  | 14, _ => rfl
  | 15, _ => rfl
  | 16, _ => rfl
  | 17, _ => rfl
  | 18, _ => rfl
  | 19, _ => rfl
  | 20, _ => rfl
  | 21, _ => rfl
  | 22, _ => rfl
  | 23, _ => rfl
  | 24, _ => rfl
  | 25, _ => rfl
  | 26, _ => rfl
  | 27, _ => rfl
  | 28, _ => rfl
  | 29, _ => rfl
  | 30, _ => rfl
  | 31, _ => rfl
  | 32, _ => rfl
  | 33, _ => rfl
  | i + 34, hh => exact absurd hh (by omega)
theorem nh_Np_init : y_Np_init.cls ≠ "java/lang/invoke/MethodHandle" ∧ y_Np_init.cls ≠ "java/lang/invoke/VarHandle" := by decide
theorem ln_Np_init : (parseMethodDescriptor y_Np_init.desc).map (fun d => d.parameters.length) = some 1 := by decide +kernel
theorem nh_Np_type : y_Np_type.cls ≠ "java/lang/invoke/MethodHandle" ∧ y_Np_type.cls ≠ "java/lang/invoke/VarHandle" := by decide
theorem ln_Np_type : (parseMethodDescriptor y_Np_type.desc).map (fun d => d.parameters.length) = some 1 := by decide +kernel
theorem nh_Np_wipe : y_Np_wipe.cls ≠ "java/lang/invoke/MethodHandle" ∧ y_Np_wipe.cls ≠ "java/lang/invoke/VarHandle" := by decide
theorem ln_Np_wipe : (parseMethodDescriptor y_Np_wipe.desc).map (fun d => d.parameters.length) = some 0 := by decide +kernel
theorem nh_Np_pack : y_Np_pack.cls ≠ "java/lang/invoke/MethodHandle" ∧ y_Np_pack.cls ≠ "java/lang/invoke/VarHandle" := by decide
theorem ln_Np_pack : (parseMethodDescriptor y_Np_pack.desc).map (fun d => d.parameters.length) = some 0 := by decide +kernel
theorem nh_Np_packets : y_Np_packets.cls ≠ "java/lang/invoke/MethodHandle" ∧ y_Np_packets.cls ≠ "java/lang/invoke/VarHandle" := by decide
theorem ln_Np_packets : (parseMethodDescriptor y_Np_packets.desc).map (fun d => d.parameters.length) = some 0 := by decide +kernel
theorem nh_Np_packet : y_Np_packet.cls ≠ "java/lang/invoke/MethodHandle" ∧ y_Np_packet.cls ≠ "java/lang/invoke/VarHandle" := by decide
theorem ln_Np_packet : (parseMethodDescriptor y_Np_packet.desc).map (fun d => d.parameters.length) = some 2 := by decide +kernel
theorem nh_Np_chance : y_Np_chance.cls ≠ "java/lang/invoke/MethodHandle" ∧ y_Np_chance.cls ≠ "java/lang/invoke/VarHandle" := by decide
theorem ln_Np_chance : (parseMethodDescriptor y_Np_chance.desc).map (fun d => d.parameters.length) = some 2 := by decide +kernel
theorem nh_Np_size : y_Np_size.cls ≠ "java/lang/invoke/MethodHandle" ∧ y_Np_size.cls ≠ "java/lang/invoke/VarHandle" := by decide
theorem ln_Np_size : (parseMethodDescriptor y_Np_size.desc).map (fun d => d.parameters.length) = some 0 := by decide +kernel
theorem nh_Np_at : y_Np_at.cls ≠ "java/lang/invoke/MethodHandle" ∧ y_Np_at.cls ≠ "java/lang/invoke/VarHandle" := by decide
theorem ln_Np_at : (parseMethodDescriptor y_Np_at.desc).map (fun d => d.parameters.length) = some 1 := by decide +kernel
theorem nh_Np_add : y_Np_add.cls ≠ "java/lang/invoke/MethodHandle" ∧ y_Np_add.cls ≠ "java/lang/invoke/VarHandle" := by decide
theorem ln_Np_add : (parseMethodDescriptor y_Np_add.desc).map (fun d => d.parameters.length) = some 1 := by decide +kernel
theorem nh_Np_put : y_Np_put.cls ≠ "java/lang/invoke/MethodHandle" ∧ y_Np_put.cls ≠ "java/lang/invoke/VarHandle" := by decide
theorem ln_Np_put : (parseMethodDescriptor y_Np_put.desc).map (fun d => d.parameters.length) = some 2 := by decide +kernel
theorem nh_Np_cut : y_Np_cut.cls ≠ "java/lang/invoke/MethodHandle" ∧ y_Np_cut.cls ≠ "java/lang/invoke/VarHandle" := by decide
theorem ln_Np_cut : (parseMethodDescriptor y_Np_cut.desc).map (fun d => d.parameters.length) = some 1 := by decide +kernel
theorem nh_Np_unpack : y_Np_unpack.cls ≠ "java/lang/invoke/MethodHandle" ∧ y_Np_unpack.cls ≠ "java/lang/invoke/VarHandle" := by decide
theorem ln_Np_unpack : (parseMethodDescriptor y_Np_unpack.desc).map (fun d => d.parameters.length) = some 0 := by decide +kernel
theorem nh_Np_told : y_Np_told.cls ≠ "java/lang/invoke/MethodHandle" ∧ y_Np_told.cls ≠ "java/lang/invoke/VarHandle" := by decide
theorem ln_Np_told : (parseMethodDescriptor y_Np_told.desc).map (fun d => d.parameters.length) = some 0 := by decide +kernel
theorem nh_Np_byteAt : y_Np_byteAt.cls ≠ "java/lang/invoke/MethodHandle" ∧ y_Np_byteAt.cls ≠ "java/lang/invoke/VarHandle" := by decide
theorem ln_Np_byteAt : (parseMethodDescriptor y_Np_byteAt.desc).map (fun d => d.parameters.length) = some 1 := by decide +kernel
theorem nh_Np_isByte : y_Np_isByte.cls ≠ "java/lang/invoke/MethodHandle" ∧ y_Np_isByte.cls ≠ "java/lang/invoke/VarHandle" := by decide
theorem ln_Np_isByte : (parseMethodDescriptor y_Np_isByte.desc).map (fun d => d.parameters.length) = some 1 := by decide +kernel
theorem nh_Np_writeSource : y_Np_writeSource.cls ≠ "java/lang/invoke/MethodHandle" ∧ y_Np_writeSource.cls ≠ "java/lang/invoke/VarHandle" := by decide
theorem ln_Np_writeSource : (parseMethodDescriptor y_Np_writeSource.desc).map (fun d => d.parameters.length) = some 0 := by decide +kernel
theorem nh_Np_keepPacking : y_Np_keepPacking.cls ≠ "java/lang/invoke/MethodHandle" ∧ y_Np_keepPacking.cls ≠ "java/lang/invoke/VarHandle" := by decide
theorem ln_Np_keepPacking : (parseMethodDescriptor y_Np_keepPacking.desc).map (fun d => d.parameters.length) = some 1 := by decide +kernel
theorem nh_Np_refuseWhatCannotBeTold : y_Np_refuseWhatCannotBeTold.cls ≠ "java/lang/invoke/MethodHandle" ∧ y_Np_refuseWhatCannotBeTold.cls ≠ "java/lang/invoke/VarHandle" := by decide
theorem ln_Np_refuseWhatCannotBeTold : (parseMethodDescriptor y_Np_refuseWhatCannotBeTold.desc).map (fun d => d.parameters.length) = some 0 := by decide +kernel
theorem nh_Mo_init : y_Mo_init.cls ≠ "java/lang/invoke/MethodHandle" ∧ y_Mo_init.cls ≠ "java/lang/invoke/VarHandle" := by decide
theorem ln_Mo_init : (parseMethodDescriptor y_Mo_init.desc).map (fun d => d.parameters.length) = some 1 := by decide +kernel
theorem nh_Mo_thrown : y_Mo_thrown.cls ≠ "java/lang/invoke/MethodHandle" ∧ y_Mo_thrown.cls ≠ "java/lang/invoke/VarHandle" := by decide
theorem ln_Mo_thrown : (parseMethodDescriptor y_Mo_thrown.desc).map (fun d => d.parameters.length) = some 0 := by decide +kernel
theorem nh_Mo_isByte : y_Mo_isByte.cls ≠ "java/lang/invoke/MethodHandle" ∧ y_Mo_isByte.cls ≠ "java/lang/invoke/VarHandle" := by decide
theorem ln_Mo_isByte : (parseMethodDescriptor y_Mo_isByte.desc).map (fun d => d.parameters.length) = some 1 := by decide +kernel
theorem nh_Mo_type : y_Mo_type.cls ≠ "java/lang/invoke/MethodHandle" ∧ y_Mo_type.cls ≠ "java/lang/invoke/VarHandle" := by decide
theorem ln_Mo_type : (parseMethodDescriptor y_Mo_type.desc).map (fun d => d.parameters.length) = some 1 := by decide +kernel
theorem nh_Mo_wipe : y_Mo_wipe.cls ≠ "java/lang/invoke/MethodHandle" ∧ y_Mo_wipe.cls ≠ "java/lang/invoke/VarHandle" := by decide
theorem ln_Mo_wipe : (parseMethodDescriptor y_Mo_wipe.desc).map (fun d => d.parameters.length) = some 0 := by decide +kernel
theorem nh_Mo_begin : y_Mo_begin.cls ≠ "java/lang/invoke/MethodHandle" ∧ y_Mo_begin.cls ≠ "java/lang/invoke/VarHandle" := by decide
theorem ln_Mo_begin : (parseMethodDescriptor y_Mo_begin.desc).map (fun d => d.parameters.length) = some 1 := by decide +kernel
theorem nh_Mo_grow : y_Mo_grow.cls ≠ "java/lang/invoke/MethodHandle" ∧ y_Mo_grow.cls ≠ "java/lang/invoke/VarHandle" := by decide
theorem ln_Mo_grow : (parseMethodDescriptor y_Mo_grow.desc).map (fun d => d.parameters.length) = some 1 := by decide +kernel
theorem nh_Mo_read : y_Mo_read.cls ≠ "java/lang/invoke/MethodHandle" ∧ y_Mo_read.cls ≠ "java/lang/invoke/VarHandle" := by decide
theorem ln_Mo_read : (parseMethodDescriptor y_Mo_read.desc).map (fun d => d.parameters.length) = some 0 := by decide +kernel
theorem nh_Mo_widen : y_Mo_widen.cls ≠ "java/lang/invoke/MethodHandle" ∧ y_Mo_widen.cls ≠ "java/lang/invoke/VarHandle" := by decide
theorem ln_Mo_widen : (parseMethodDescriptor y_Mo_widen.desc).map (fun d => d.parameters.length) = some 0 := by decide +kernel
theorem nh_Mo_bit : y_Mo_bit.cls ≠ "java/lang/invoke/MethodHandle" ∧ y_Mo_bit.cls ≠ "java/lang/invoke/VarHandle" := by decide
theorem ln_Mo_bit : (parseMethodDescriptor y_Mo_bit.desc).map (fun d => d.parameters.length) = some 2 := by decide +kernel
theorem nh_Mo_tree : y_Mo_tree.cls ≠ "java/lang/invoke/MethodHandle" ∧ y_Mo_tree.cls ≠ "java/lang/invoke/VarHandle" := by decide
theorem ln_Mo_tree : (parseMethodDescriptor y_Mo_tree.desc).map (fun d => d.parameters.length) = some 3 := by decide +kernel
theorem nh_Mo_row : y_Mo_row.cls ≠ "java/lang/invoke/MethodHandle" ∧ y_Mo_row.cls ≠ "java/lang/invoke/VarHandle" := by decide
theorem ln_Mo_row : (parseMethodDescriptor y_Mo_row.desc).map (fun d => d.parameters.length) = some 3 := by decide +kernel
theorem nh_Mo_literal : y_Mo_literal.cls ≠ "java/lang/invoke/MethodHandle" ∧ y_Mo_literal.cls ≠ "java/lang/invoke/VarHandle" := by decide
theorem ln_Mo_literal : (parseMethodDescriptor y_Mo_literal.desc).map (fun d => d.parameters.length) = some 1 := by decide +kernel
theorem nh_Mo_length : y_Mo_length.cls ≠ "java/lang/invoke/MethodHandle" ∧ y_Mo_length.cls ≠ "java/lang/invoke/VarHandle" := by decide
theorem ln_Mo_length : (parseMethodDescriptor y_Mo_length.desc).map (fun d => d.parameters.length) = some 2 := by decide +kernel
theorem nh_Mo_below : y_Mo_below.cls ≠ "java/lang/invoke/MethodHandle" ∧ y_Mo_below.cls ≠ "java/lang/invoke/VarHandle" := by decide
theorem ln_Mo_below : (parseMethodDescriptor y_Mo_below.desc).map (fun d => d.parameters.length) = some 1 := by decide +kernel
theorem nh_Mo_distance : y_Mo_distance.cls ≠ "java/lang/invoke/MethodHandle" ∧ y_Mo_distance.cls ≠ "java/lang/invoke/VarHandle" := by decide
theorem ln_Mo_distance : (parseMethodDescriptor y_Mo_distance.desc).map (fun d => d.parameters.length) = some 2 := by decide +kernel
theorem nh_Mo_echo : y_Mo_echo.cls ≠ "java/lang/invoke/MethodHandle" ∧ y_Mo_echo.cls ≠ "java/lang/invoke/VarHandle" := by decide
theorem ln_Mo_echo : (parseMethodDescriptor y_Mo_echo.desc).map (fun d => d.parameters.length) = some 1 := by decide +kernel
theorem nh_Mo_tell : y_Mo_tell.cls ≠ "java/lang/invoke/MethodHandle" ∧ y_Mo_tell.cls ≠ "java/lang/invoke/VarHandle" := by decide
theorem ln_Mo_tell : (parseMethodDescriptor y_Mo_tell.desc).map (fun d => d.parameters.length) = some 1 := by decide +kernel
theorem nh_Mo_note : y_Mo_note.cls ≠ "java/lang/invoke/MethodHandle" ∧ y_Mo_note.cls ≠ "java/lang/invoke/VarHandle" := by decide
theorem ln_Mo_note : (parseMethodDescriptor y_Mo_note.desc).map (fun d => d.parameters.length) = some 3 := by decide +kernel
theorem nh_Mo_tellLiteral : y_Mo_tellLiteral.cls ≠ "java/lang/invoke/MethodHandle" ∧ y_Mo_tellLiteral.cls ≠ "java/lang/invoke/VarHandle" := by decide
theorem ln_Mo_tellLiteral : (parseMethodDescriptor y_Mo_tellLiteral.desc).map (fun d => d.parameters.length) = some 1 := by decide +kernel
theorem nh_Mo_tellFar : y_Mo_tellFar.cls ≠ "java/lang/invoke/MethodHandle" ∧ y_Mo_tellFar.cls ≠ "java/lang/invoke/VarHandle" := by decide
theorem ln_Mo_tellFar : (parseMethodDescriptor y_Mo_tellFar.desc).map (fun d => d.parameters.length) = some 4 := by decide +kernel
theorem nh_Mo_packet0 : y_Mo_packet0.cls ≠ "java/lang/invoke/MethodHandle" ∧ y_Mo_packet0.cls ≠ "java/lang/invoke/VarHandle" := by decide
theorem ln_Mo_packet0 : (parseMethodDescriptor y_Mo_packet0.desc).map (fun d => d.parameters.length) = some 0 := by decide +kernel
theorem nh_Mo_agree : y_Mo_agree.cls ≠ "java/lang/invoke/MethodHandle" ∧ y_Mo_agree.cls ≠ "java/lang/invoke/VarHandle" := by decide
theorem ln_Mo_agree : (parseMethodDescriptor y_Mo_agree.desc).map (fun d => d.parameters.length) = some 2 := by decide +kernel
theorem nh_Mo_choose : y_Mo_choose.cls ≠ "java/lang/invoke/MethodHandle" ∧ y_Mo_choose.cls ≠ "java/lang/invoke/VarHandle" := by decide
theorem ln_Mo_choose : (parseMethodDescriptor y_Mo_choose.desc).map (fun d => d.parameters.length) = some 0 := by decide +kernel
theorem nh_Mo_pack : y_Mo_pack.cls ≠ "java/lang/invoke/MethodHandle" ∧ y_Mo_pack.cls ≠ "java/lang/invoke/VarHandle" := by decide
theorem ln_Mo_pack : (parseMethodDescriptor y_Mo_pack.desc).map (fun d => d.parameters.length) = some 0 := by decide +kernel
theorem nh_Mo_unpack : y_Mo_unpack.cls ≠ "java/lang/invoke/MethodHandle" ∧ y_Mo_unpack.cls ≠ "java/lang/invoke/VarHandle" := by decide
theorem ln_Mo_unpack : (parseMethodDescriptor y_Mo_unpack.desc).map (fun d => d.parameters.length) = some 0 := by decide +kernel
theorem nh_Mo_packets : y_Mo_packets.cls ≠ "java/lang/invoke/MethodHandle" ∧ y_Mo_packets.cls ≠ "java/lang/invoke/VarHandle" := by decide
theorem ln_Mo_packets : (parseMethodDescriptor y_Mo_packets.desc).map (fun d => d.parameters.length) = some 0 := by decide +kernel
theorem nh_Mo_packet2 : y_Mo_packet2.cls ≠ "java/lang/invoke/MethodHandle" ∧ y_Mo_packet2.cls ≠ "java/lang/invoke/VarHandle" := by decide
theorem ln_Mo_packet2 : (parseMethodDescriptor y_Mo_packet2.desc).map (fun d => d.parameters.length) = some 2 := by decide +kernel
theorem nh_Mo_chance : y_Mo_chance.cls ≠ "java/lang/invoke/MethodHandle" ∧ y_Mo_chance.cls ≠ "java/lang/invoke/VarHandle" := by decide
theorem ln_Mo_chance : (parseMethodDescriptor y_Mo_chance.desc).map (fun d => d.parameters.length) = some 2 := by decide +kernel
theorem nh_Mo_size : y_Mo_size.cls ≠ "java/lang/invoke/MethodHandle" ∧ y_Mo_size.cls ≠ "java/lang/invoke/VarHandle" := by decide
theorem ln_Mo_size : (parseMethodDescriptor y_Mo_size.desc).map (fun d => d.parameters.length) = some 0 := by decide +kernel
theorem nh_Mo_at : y_Mo_at.cls ≠ "java/lang/invoke/MethodHandle" ∧ y_Mo_at.cls ≠ "java/lang/invoke/VarHandle" := by decide
theorem ln_Mo_at : (parseMethodDescriptor y_Mo_at.desc).map (fun d => d.parameters.length) = some 1 := by decide +kernel
theorem nh_Mo_add : y_Mo_add.cls ≠ "java/lang/invoke/MethodHandle" ∧ y_Mo_add.cls ≠ "java/lang/invoke/VarHandle" := by decide
theorem ln_Mo_add : (parseMethodDescriptor y_Mo_add.desc).map (fun d => d.parameters.length) = some 1 := by decide +kernel
theorem nh_Mo_put : y_Mo_put.cls ≠ "java/lang/invoke/MethodHandle" ∧ y_Mo_put.cls ≠ "java/lang/invoke/VarHandle" := by decide
theorem ln_Mo_put : (parseMethodDescriptor y_Mo_put.desc).map (fun d => d.parameters.length) = some 2 := by decide +kernel
theorem nh_Mo_cut : y_Mo_cut.cls ≠ "java/lang/invoke/MethodHandle" ∧ y_Mo_cut.cls ≠ "java/lang/invoke/VarHandle" := by decide
theorem ln_Mo_cut : (parseMethodDescriptor y_Mo_cut.desc).map (fun d => d.parameters.length) = some 1 := by decide +kernel
theorem nh_Mo_told : y_Mo_told.cls ≠ "java/lang/invoke/MethodHandle" ∧ y_Mo_told.cls ≠ "java/lang/invoke/VarHandle" := by decide
theorem ln_Mo_told : (parseMethodDescriptor y_Mo_told.desc).map (fun d => d.parameters.length) = some 0 := by decide +kernel
theorem nh_Mo_byteAt : y_Mo_byteAt.cls ≠ "java/lang/invoke/MethodHandle" ∧ y_Mo_byteAt.cls ≠ "java/lang/invoke/VarHandle" := by decide
theorem ln_Mo_byteAt : (parseMethodDescriptor y_Mo_byteAt.desc).map (fun d => d.parameters.length) = some 1 := by decide +kernel
theorem nh_By_init : y_By_init.cls ≠ "java/lang/invoke/MethodHandle" ∧ y_By_init.cls ≠ "java/lang/invoke/VarHandle" := by decide
theorem ln_By_init : (parseMethodDescriptor y_By_init.desc).map (fun d => d.parameters.length) = some 1 := by decide +kernel
theorem nh_By_has : y_By_has.cls ≠ "java/lang/invoke/MethodHandle" ∧ y_By_has.cls ≠ "java/lang/invoke/VarHandle" := by decide
theorem ln_By_has : (parseMethodDescriptor y_By_has.desc).map (fun d => d.parameters.length) = some 1 := by decide +kernel
theorem nh_By_get : y_By_get.cls ≠ "java/lang/invoke/MethodHandle" ∧ y_By_get.cls ≠ "java/lang/invoke/VarHandle" := by decide
theorem ln_By_get : (parseMethodDescriptor y_By_get.desc).map (fun d => d.parameters.length) = some 1 := by decide +kernel
theorem nh_By_append : y_By_append.cls ≠ "java/lang/invoke/MethodHandle" ∧ y_By_append.cls ≠ "java/lang/invoke/VarHandle" := by decide
theorem ln_By_append : (parseMethodDescriptor y_By_append.desc).map (fun d => d.parameters.length) = some 1 := by decide +kernel
theorem nh_By_shorten : y_By_shorten.cls ≠ "java/lang/invoke/MethodHandle" ∧ y_By_shorten.cls ≠ "java/lang/invoke/VarHandle" := by decide
theorem ln_By_shorten : (parseMethodDescriptor y_By_shorten.desc).map (fun d => d.parameters.length) = some 1 := by decide +kernel
theorem nh_By_copy : y_By_copy.cls ≠ "java/lang/invoke/MethodHandle" ∧ y_By_copy.cls ≠ "java/lang/invoke/VarHandle" := by decide
theorem ln_By_copy : (parseMethodDescriptor y_By_copy.desc).map (fun d => d.parameters.length) = some 2 := by decide +kernel
theorem nh_Ch_init : y_Ch_init.cls ≠ "java/lang/invoke/MethodHandle" ∧ y_Ch_init.cls ≠ "java/lang/invoke/VarHandle" := by decide
theorem ln_Ch_init : (parseMethodDescriptor y_Ch_init.desc).map (fun d => d.parameters.length) = some 0 := by decide +kernel
theorem nh_Ch_forget : y_Ch_forget.cls ≠ "java/lang/invoke/MethodHandle" ∧ y_Ch_forget.cls ≠ "java/lang/invoke/VarHandle" := by decide
theorem ln_Ch_forget : (parseMethodDescriptor y_Ch_forget.desc).map (fun d => d.parameters.length) = some 0 := by decide +kernel
theorem nh_Ch_boundIn : y_Ch_boundIn.cls ≠ "java/lang/invoke/MethodHandle" ∧ y_Ch_boundIn.cls ≠ "java/lang/invoke/VarHandle" := by decide
theorem ln_Ch_boundIn : (parseMethodDescriptor y_Ch_boundIn.desc).map (fun d => d.parameters.length) = some 2 := by decide +kernel
theorem nh_Ch_learn : y_Ch_learn.cls ≠ "java/lang/invoke/MethodHandle" ∧ y_Ch_learn.cls ≠ "java/lang/invoke/VarHandle" := by decide
theorem ln_Ch_learn : (parseMethodDescriptor y_Ch_learn.desc).map (fun d => d.parameters.length) = some 2 := by decide +kernel
theorem nh_Co_init : y_Co_init.cls ≠ "java/lang/invoke/MethodHandle" ∧ y_Co_init.cls ≠ "java/lang/invoke/VarHandle" := by decide
theorem ln_Co_init : (parseMethodDescriptor y_Co_init.desc).map (fun d => d.parameters.length) = some 1 := by decide +kernel
theorem nh_Co_choose : y_Co_choose.cls ≠ "java/lang/invoke/MethodHandle" ∧ y_Co_choose.cls ≠ "java/lang/invoke/VarHandle" := by decide
theorem ln_Co_choose : (parseMethodDescriptor y_Co_choose.desc).map (fun d => d.parameters.length) = some 3 := by decide +kernel
theorem nh_Co_findMatch : y_Co_findMatch.cls ≠ "java/lang/invoke/MethodHandle" ∧ y_Co_findMatch.cls ≠ "java/lang/invoke/VarHandle" := by decide
theorem ln_Co_findMatch : (parseMethodDescriptor y_Co_findMatch.desc).map (fun d => d.parameters.length) = some 2 := by decide +kernel
theorem nh_Co_findEcho : y_Co_findEcho.cls ≠ "java/lang/invoke/MethodHandle" ∧ y_Co_findEcho.cls ≠ "java/lang/invoke/VarHandle" := by decide
theorem ln_Co_findEcho : (parseMethodDescriptor y_Co_findEcho.desc).map (fun d => d.parameters.length) = some 3 := by decide +kernel
theorem nh_Co_agreeing : y_Co_agreeing.cls ≠ "java/lang/invoke/MethodHandle" ∧ y_Co_agreeing.cls ≠ "java/lang/invoke/VarHandle" := by decide
theorem ln_Co_agreeing : (parseMethodDescriptor y_Co_agreeing.desc).map (fun d => d.parameters.length) = some 3 := by decide +kernel
theorem nh_Fo_init : y_Fo_init.cls ≠ "java/lang/invoke/MethodHandle" ∧ y_Fo_init.cls ≠ "java/lang/invoke/VarHandle" := by decide
theorem ln_Fo_init : (parseMethodDescriptor y_Fo_init.desc).map (fun d => d.parameters.length) = some 0 := by decide +kernel
theorem nh_Fo_restart : y_Fo_restart.cls ≠ "java/lang/invoke/MethodHandle" ∧ y_Fo_restart.cls ≠ "java/lang/invoke/VarHandle" := by decide
theorem ln_Fo_restart : (parseMethodDescriptor y_Fo_restart.desc).map (fun d => d.parameters.length) = some 1 := by decide +kernel
theorem nh_Fo_readBit : y_Fo_readBit.cls ≠ "java/lang/invoke/MethodHandle" ∧ y_Fo_readBit.cls ≠ "java/lang/invoke/VarHandle" := by decide
theorem ln_Fo_readBit : (parseMethodDescriptor y_Fo_readBit.desc).map (fun d => d.parameters.length) = some 1 := by decide +kernel
theorem nh_Fo_readTree : y_Fo_readTree.cls ≠ "java/lang/invoke/MethodHandle" ∧ y_Fo_readTree.cls ≠ "java/lang/invoke/VarHandle" := by decide
theorem ln_Fo_readTree : (parseMethodDescriptor y_Fo_readTree.desc).map (fun d => d.parameters.length) = some 2 := by decide +kernel
theorem nh_Fo_readRow : y_Fo_readRow.cls ≠ "java/lang/invoke/MethodHandle" ∧ y_Fo_readRow.cls ≠ "java/lang/invoke/VarHandle" := by decide
theorem ln_Fo_readRow : (parseMethodDescriptor y_Fo_readRow.desc).map (fun d => d.parameters.length) = some 2 := by decide +kernel
theorem nh_Fo_refuseWhatIsLeft : y_Fo_refuseWhatIsLeft.cls ≠ "java/lang/invoke/MethodHandle" ∧ y_Fo_refuseWhatIsLeft.cls ≠ "java/lang/invoke/VarHandle" := by decide
theorem ln_Fo_refuseWhatIsLeft : (parseMethodDescriptor y_Fo_refuseWhatIsLeft.desc).map (fun d => d.parameters.length) = some 0 := by decide +kernel
theorem nh_Fo_takeByte : y_Fo_takeByte.cls ≠ "java/lang/invoke/MethodHandle" ∧ y_Fo_takeByte.cls ≠ "java/lang/invoke/VarHandle" := by decide
theorem ln_Fo_takeByte : (parseMethodDescriptor y_Fo_takeByte.desc).map (fun d => d.parameters.length) = some 0 := by decide +kernel
theorem nh_Hi_init : y_Hi_init.cls ≠ "java/lang/invoke/MethodHandle" ∧ y_Hi_init.cls ≠ "java/lang/invoke/VarHandle" := by decide
theorem ln_Hi_init : (parseMethodDescriptor y_Hi_init.desc).map (fun d => d.parameters.length) = some 0 := by decide +kernel
theorem nh_Hi_restart : y_Hi_restart.cls ≠ "java/lang/invoke/MethodHandle" ∧ y_Hi_restart.cls ≠ "java/lang/invoke/VarHandle" := by decide
theorem ln_Hi_restart : (parseMethodDescriptor y_Hi_restart.desc).map (fun d => d.parameters.length) = some 0 := by decide +kernel
theorem nh_Hi_tell : y_Hi_tell.cls ≠ "java/lang/invoke/MethodHandle" ∧ y_Hi_tell.cls ≠ "java/lang/invoke/VarHandle" := by decide
theorem ln_Hi_tell : (parseMethodDescriptor y_Hi_tell.desc).map (fun d => d.parameters.length) = some 1 := by decide +kernel
theorem nh_Hi_byteBefore : y_Hi_byteBefore.cls ≠ "java/lang/invoke/MethodHandle" ∧ y_Hi_byteBefore.cls ≠ "java/lang/invoke/VarHandle" := by decide
theorem ln_Hi_byteBefore : (parseMethodDescriptor y_Hi_byteBefore.desc).map (fun d => d.parameters.length) = some 1 := by decide +kernel
theorem nh_Hi_isBehindACopy : y_Hi_isBehindACopy.cls ≠ "java/lang/invoke/MethodHandle" ∧ y_Hi_isBehindACopy.cls ≠ "java/lang/invoke/VarHandle" := by decide
theorem ln_Hi_isBehindACopy : (parseMethodDescriptor y_Hi_isBehindACopy.desc).map (fun d => d.parameters.length) = some 0 := by decide +kernel
theorem nh_Hi_placeOfLiterals : y_Hi_placeOfLiterals.cls ≠ "java/lang/invoke/MethodHandle" ∧ y_Hi_placeOfLiterals.cls ≠ "java/lang/invoke/VarHandle" := by decide
theorem ln_Hi_placeOfLiterals : (parseMethodDescriptor y_Hi_placeOfLiterals.desc).map (fun d => d.parameters.length) = some 0 := by decide +kernel
theorem nh_Hi_repeat : y_Hi_repeat.cls ≠ "java/lang/invoke/MethodHandle" ∧ y_Hi_repeat.cls ≠ "java/lang/invoke/VarHandle" := by decide
theorem ln_Hi_repeat : (parseMethodDescriptor y_Hi_repeat.desc).map (fun d => d.parameters.length) = some 2 := by decide +kernel
theorem nh_Hi_bringToFront : y_Hi_bringToFront.cls ≠ "java/lang/invoke/MethodHandle" ∧ y_Hi_bringToFront.cls ≠ "java/lang/invoke/VarHandle" := by decide
theorem ln_Hi_bringToFront : (parseMethodDescriptor y_Hi_bringToFront.desc).map (fun d => d.parameters.length) = some 2 := by decide +kernel
theorem nh_Hi_stateBehind : y_Hi_stateBehind.cls ≠ "java/lang/invoke/MethodHandle" ∧ y_Hi_stateBehind.cls ≠ "java/lang/invoke/VarHandle" := by decide
theorem ln_Hi_stateBehind : (parseMethodDescriptor y_Hi_stateBehind.desc).map (fun d => d.parameters.length) = some 1 := by decide +kernel
theorem nh_Hi_stateBehindLiteral : y_Hi_stateBehindLiteral.cls ≠ "java/lang/invoke/MethodHandle" ∧ y_Hi_stateBehindLiteral.cls ≠ "java/lang/invoke/VarHandle" := by decide
theorem ln_Hi_stateBehindLiteral : (parseMethodDescriptor y_Hi_stateBehindLiteral.desc).map (fun d => d.parameters.length) = some 0 := by decide +kernel
theorem nh_Na_init : y_Na_init.cls ≠ "java/lang/invoke/MethodHandle" ∧ y_Na_init.cls ≠ "java/lang/invoke/VarHandle" := by decide
theorem ln_Na_init : (parseMethodDescriptor y_Na_init.desc).map (fun d => d.parameters.length) = some 0 := by decide +kernel
theorem nh_Na_restart : y_Na_restart.cls ≠ "java/lang/invoke/MethodHandle" ∧ y_Na_restart.cls ≠ "java/lang/invoke/VarHandle" := by decide
theorem ln_Na_restart : (parseMethodDescriptor y_Na_restart.desc).map (fun d => d.parameters.length) = some 0 := by decide +kernel
theorem nh_Na_fits : y_Na_fits.cls ≠ "java/lang/invoke/MethodHandle" ∧ y_Na_fits.cls ≠ "java/lang/invoke/VarHandle" := by decide
theorem ln_Na_fits : (parseMethodDescriptor y_Na_fits.desc).map (fun d => d.parameters.length) = some 0 := by decide +kernel
theorem nh_Na_writeBit : y_Na_writeBit.cls ≠ "java/lang/invoke/MethodHandle" ∧ y_Na_writeBit.cls ≠ "java/lang/invoke/VarHandle" := by decide
theorem ln_Na_writeBit : (parseMethodDescriptor y_Na_writeBit.desc).map (fun d => d.parameters.length) = some 2 := by decide +kernel
theorem nh_Na_writeTree : y_Na_writeTree.cls ≠ "java/lang/invoke/MethodHandle" ∧ y_Na_writeTree.cls ≠ "java/lang/invoke/VarHandle" := by decide
theorem ln_Na_writeTree : (parseMethodDescriptor y_Na_writeTree.desc).map (fun d => d.parameters.length) = some 3 := by decide +kernel
theorem nh_Na_writeRow : y_Na_writeRow.cls ≠ "java/lang/invoke/MethodHandle" ∧ y_Na_writeRow.cls ≠ "java/lang/invoke/VarHandle" := by decide
theorem ln_Na_writeRow : (parseMethodDescriptor y_Na_writeRow.desc).map (fun d => d.parameters.length) = some 3 := by decide +kernel
theorem nh_Na_raiseLow : y_Na_raiseLow.cls ≠ "java/lang/invoke/MethodHandle" ∧ y_Na_raiseLow.cls ≠ "java/lang/invoke/VarHandle" := by decide
theorem ln_Na_raiseLow : (parseMethodDescriptor y_Na_raiseLow.desc).map (fun d => d.parameters.length) = some 1 := by decide +kernel
theorem nh_Pa_init : y_Pa_init.cls ≠ "java/lang/invoke/MethodHandle" ∧ y_Pa_init.cls ≠ "java/lang/invoke/VarHandle" := by decide
theorem ln_Pa_init : (parseMethodDescriptor y_Pa_init.desc).map (fun d => d.parameters.length) = some 0 := by decide +kernel
theorem nh_Pa_becomeLiteral : y_Pa_becomeLiteral.cls ≠ "java/lang/invoke/MethodHandle" ∧ y_Pa_becomeLiteral.cls ≠ "java/lang/invoke/VarHandle" := by decide
theorem ln_Pa_becomeLiteral : (parseMethodDescriptor y_Pa_becomeLiteral.desc).map (fun d => d.parameters.length) = some 1 := by decide +kernel
theorem nh_Pa_becomeMatch : y_Pa_becomeMatch.cls ≠ "java/lang/invoke/MethodHandle" ∧ y_Pa_becomeMatch.cls ≠ "java/lang/invoke/VarHandle" := by decide
theorem ln_Pa_becomeMatch : (parseMethodDescriptor y_Pa_becomeMatch.desc).map (fun d => d.parameters.length) = some 2 := by decide +kernel
theorem nh_Pa_becomeEcho : y_Pa_becomeEcho.cls ≠ "java/lang/invoke/MethodHandle" ∧ y_Pa_becomeEcho.cls ≠ "java/lang/invoke/VarHandle" := by decide
theorem ln_Pa_becomeEcho : (parseMethodDescriptor y_Pa_becomeEcho.desc).map (fun d => d.parameters.length) = some 3 := by decide +kernel
theorem nh_Pa_becomeShort : y_Pa_becomeShort.cls ≠ "java/lang/invoke/MethodHandle" ∧ y_Pa_becomeShort.cls ≠ "java/lang/invoke/VarHandle" := by decide
theorem ln_Pa_becomeShort : (parseMethodDescriptor y_Pa_becomeShort.desc).map (fun d => d.parameters.length) = some 1 := by decide +kernel
theorem nh_Pa_becomeEnd : y_Pa_becomeEnd.cls ≠ "java/lang/invoke/MethodHandle" ∧ y_Pa_becomeEnd.cls ≠ "java/lang/invoke/VarHandle" := by decide
theorem ln_Pa_becomeEnd : (parseMethodDescriptor y_Pa_becomeEnd.desc).map (fun d => d.parameters.length) = some 0 := by decide +kernel
theorem nh_Pa_become : y_Pa_become.cls ≠ "java/lang/invoke/MethodHandle" ∧ y_Pa_become.cls ≠ "java/lang/invoke/VarHandle" := by decide
theorem ln_Pa_become : (parseMethodDescriptor y_Pa_become.desc).map (fun d => d.parameters.length) = some 3 := by decide +kernel
theorem nh_Pl_init : y_Pl_init.cls ≠ "java/lang/invoke/MethodHandle" ∧ y_Pl_init.cls ≠ "java/lang/invoke/VarHandle" := by decide
theorem ln_Pl_init : (parseMethodDescriptor y_Pl_init.desc).map (fun d => d.parameters.length) = some 0 := by decide +kernel
theorem nh_Pl_clear : y_Pl_clear.cls ≠ "java/lang/invoke/MethodHandle" ∧ y_Pl_clear.cls ≠ "java/lang/invoke/VarHandle" := by decide
theorem ln_Pl_clear : (parseMethodDescriptor y_Pl_clear.desc).map (fun d => d.parameters.length) = some 0 := by decide +kernel
theorem nh_Pl_append : y_Pl_append.cls ≠ "java/lang/invoke/MethodHandle" ∧ y_Pl_append.cls ≠ "java/lang/invoke/VarHandle" := by decide
theorem ln_Pl_append : (parseMethodDescriptor y_Pl_append.desc).map (fun d => d.parameters.length) = some 1 := by decide +kernel
theorem nh_Pl_tellOf : y_Pl_tellOf.cls ≠ "java/lang/invoke/MethodHandle" ∧ y_Pl_tellOf.cls ≠ "java/lang/invoke/VarHandle" := by decide
theorem ln_Pl_tellOf : (parseMethodDescriptor y_Pl_tellOf.desc).map (fun d => d.parameters.length) = some 2 := by decide +kernel
theorem nh_Re_init : y_Re_init.cls ≠ "java/lang/invoke/MethodHandle" ∧ y_Re_init.cls ≠ "java/lang/invoke/VarHandle" := by decide
theorem ln_Re_init : (parseMethodDescriptor y_Re_init.desc).map (fun d => d.parameters.length) = some 0 := by decide +kernel
theorem nh_Re_readPacket : y_Re_readPacket.cls ≠ "java/lang/invoke/MethodHandle" ∧ y_Re_readPacket.cls ≠ "java/lang/invoke/VarHandle" := by decide
theorem ln_Re_readPacket : (parseMethodDescriptor y_Re_readPacket.desc).map (fun d => d.parameters.length) = some 2 := by decide +kernel
theorem nh_Re_readLiteral : y_Re_readLiteral.cls ≠ "java/lang/invoke/MethodHandle" ∧ y_Re_readLiteral.cls ≠ "java/lang/invoke/VarHandle" := by decide
theorem ln_Re_readLiteral : (parseMethodDescriptor y_Re_readLiteral.desc).map (fun d => d.parameters.length) = some 1 := by decide +kernel
theorem nh_Re_readMatchOrEnd : y_Re_readMatchOrEnd.cls ≠ "java/lang/invoke/MethodHandle" ∧ y_Re_readMatchOrEnd.cls ≠ "java/lang/invoke/VarHandle" := by decide
theorem ln_Re_readMatchOrEnd : (parseMethodDescriptor y_Re_readMatchOrEnd.desc).map (fun d => d.parameters.length) = some 1 := by decide +kernel
theorem nh_Re_readDistance : y_Re_readDistance.cls ≠ "java/lang/invoke/MethodHandle" ∧ y_Re_readDistance.cls ≠ "java/lang/invoke/VarHandle" := by decide
theorem ln_Re_readDistance : (parseMethodDescriptor y_Re_readDistance.desc).map (fun d => d.parameters.length) = some 1 := by decide +kernel
theorem nh_Re_readRepeat : y_Re_readRepeat.cls ≠ "java/lang/invoke/MethodHandle" ∧ y_Re_readRepeat.cls ≠ "java/lang/invoke/VarHandle" := by decide
theorem ln_Re_readRepeat : (parseMethodDescriptor y_Re_readRepeat.desc).map (fun d => d.parameters.length) = some 3 := by decide +kernel
theorem nh_Re_readLength : y_Re_readLength.cls ≠ "java/lang/invoke/MethodHandle" ∧ y_Re_readLength.cls ≠ "java/lang/invoke/VarHandle" := by decide
theorem ln_Re_readLength : (parseMethodDescriptor y_Re_readLength.desc).map (fun d => d.parameters.length) = some 1 := by decide +kernel
theorem nh_Wr_init : y_Wr_init.cls ≠ "java/lang/invoke/MethodHandle" ∧ y_Wr_init.cls ≠ "java/lang/invoke/VarHandle" := by decide
theorem ln_Wr_init : (parseMethodDescriptor y_Wr_init.desc).map (fun d => d.parameters.length) = some 0 := by decide +kernel
theorem nh_Wr_writePacket : y_Wr_writePacket.cls ≠ "java/lang/invoke/MethodHandle" ∧ y_Wr_writePacket.cls ≠ "java/lang/invoke/VarHandle" := by decide
theorem ln_Wr_writePacket : (parseMethodDescriptor y_Wr_writePacket.desc).map (fun d => d.parameters.length) = some 2 := by decide +kernel
theorem nh_Wr_writeLiteral : y_Wr_writeLiteral.cls ≠ "java/lang/invoke/MethodHandle" ∧ y_Wr_writeLiteral.cls ≠ "java/lang/invoke/VarHandle" := by decide
theorem ln_Wr_writeLiteral : (parseMethodDescriptor y_Wr_writeLiteral.desc).map (fun d => d.parameters.length) = some 2 := by decide +kernel
theorem nh_Wr_writeMatch : y_Wr_writeMatch.cls ≠ "java/lang/invoke/MethodHandle" ∧ y_Wr_writeMatch.cls ≠ "java/lang/invoke/VarHandle" := by decide
theorem ln_Wr_writeMatch : (parseMethodDescriptor y_Wr_writeMatch.desc).map (fun d => d.parameters.length) = some 1 := by decide +kernel
theorem nh_Wr_writeEnd : y_Wr_writeEnd.cls ≠ "java/lang/invoke/MethodHandle" ∧ y_Wr_writeEnd.cls ≠ "java/lang/invoke/VarHandle" := by decide
theorem ln_Wr_writeEnd : (parseMethodDescriptor y_Wr_writeEnd.desc).map (fun d => d.parameters.length) = some 0 := by decide +kernel
theorem nh_Wr_writeRepeat : y_Wr_writeRepeat.cls ≠ "java/lang/invoke/MethodHandle" ∧ y_Wr_writeRepeat.cls ≠ "java/lang/invoke/VarHandle" := by decide
theorem ln_Wr_writeRepeat : (parseMethodDescriptor y_Wr_writeRepeat.desc).map (fun d => d.parameters.length) = some 2 := by decide +kernel
theorem nh_Wr_writeLength : y_Wr_writeLength.cls ≠ "java/lang/invoke/MethodHandle" ∧ y_Wr_writeLength.cls ≠ "java/lang/invoke/VarHandle" := by decide
theorem ln_Wr_writeLength : (parseMethodDescriptor y_Wr_writeLength.desc).map (fun d => d.parameters.length) = some 2 := by decide +kernel
theorem nh_Wr_bitsBelowHighest : y_Wr_bitsBelowHighest.cls ≠ "java/lang/invoke/MethodHandle" ∧ y_Wr_bitsBelowHighest.cls ≠ "java/lang/invoke/VarHandle" := by decide
theorem ln_Wr_bitsBelowHighest : (parseMethodDescriptor y_Wr_bitsBelowHighest.desc).map (fun d => d.parameters.length) = some 1 := by decide +kernel
theorem nh_La_cell : y_La_cell.cls ≠ "java/lang/invoke/MethodHandle" ∧ y_La_cell.cls ≠ "java/lang/invoke/VarHandle" := by decide
theorem ln_La_cell : (parseMethodDescriptor y_La_cell.desc).map (fun d => d.parameters.length) = some 2 := by decide +kernel
theorem nh_La_pack : y_La_pack.cls ≠ "java/lang/invoke/MethodHandle" ∧ y_La_pack.cls ≠ "java/lang/invoke/VarHandle" := by decide
theorem ln_La_pack : (parseMethodDescriptor y_La_pack.desc).map (fun d => d.parameters.length) = some 2 := by decide +kernel
theorem nh_La_put : y_La_put.cls ≠ "java/lang/invoke/MethodHandle" ∧ y_La_put.cls ≠ "java/lang/invoke/VarHandle" := by decide
theorem ln_La_put : (parseMethodDescriptor y_La_put.desc).map (fun d => d.parameters.length) = some 4 := by decide +kernel
theorem nh_La_cut : y_La_cut.cls ≠ "java/lang/invoke/MethodHandle" ∧ y_La_cut.cls ≠ "java/lang/invoke/VarHandle" := by decide
theorem ln_La_cut : (parseMethodDescriptor y_La_cut.desc).map (fun d => d.parameters.length) = some 3 := by decide +kernel
theorem nh_La_unpack : y_La_unpack.cls ≠ "java/lang/invoke/MethodHandle" ∧ y_La_unpack.cls ≠ "java/lang/invoke/VarHandle" := by decide
theorem ln_La_unpack : (parseMethodDescriptor y_La_unpack.desc).map (fun d => d.parameters.length) = some 2 := by decide +kernel
theorem nh_La_law : y_La_law.cls ≠ "java/lang/invoke/MethodHandle" ∧ y_La_law.cls ≠ "java/lang/invoke/VarHandle" := by decide
theorem ln_La_law : (parseMethodDescriptor y_La_law.desc).map (fun d => d.parameters.length) = some 1 := by decide +kernel
theorem nh_Ar_fill : y_Ar_fill.cls ≠ "java/lang/invoke/MethodHandle" ∧ y_Ar_fill.cls ≠ "java/lang/invoke/VarHandle" := by decide
theorem ln_Ar_fill : (parseMethodDescriptor y_Ar_fill.desc).map (fun d => d.parameters.length) = some 2 := by decide +kernel
end
section
/-! the tables' words, one by one -/
section Words
variable {a0 : Array Value} {s0 : State}
theorem u_0 (Z : a_Z a0 s0) : (Cond.initialized "NarrowingPackerLaw").before a0 s0 = true := Z _ (List.mem_append_right _ (List.mem_of_getElem? (i := 0) (by decide +kernel)))
theorem u_1 (Z : a_Z a0 s0) : (Cond.initialized "NarrowingPacker").before a0 s0 = true := Z _ (List.mem_append_right _ (List.mem_of_getElem? (i := 1) (by decide +kernel)))
theorem u_2 (Z : a_Z a0 s0) : (Cond.initialized "NarrowingPacker$Bytes").before a0 s0 = true := Z _ (List.mem_append_right _ (List.mem_of_getElem? (i := 2) (by decide +kernel)))
theorem u_3 (Z : a_Z a0 s0) : (Cond.initialized "NarrowingPacker$PacketList").before a0 s0 = true := Z _ (List.mem_append_right _ (List.mem_of_getElem? (i := 3) (by decide +kernel)))
theorem u_4 (Z : a_Z a0 s0) : (Cond.initialized "NarrowingPacker$Packet").before a0 s0 = true := Z _ (List.mem_append_right _ (List.mem_of_getElem? (i := 4) (by decide +kernel)))
theorem u_5 (Z : a_Z a0 s0) : (Cond.initialized "NarrowingPacker$History").before a0 s0 = true := Z _ (List.mem_append_right _ (List.mem_of_getElem? (i := 5) (by decide +kernel)))
theorem u_6 (Z : a_Z a0 s0) : (Cond.initialized "NarrowingPacker$Chooser").before a0 s0 = true := Z _ (List.mem_append_right _ (List.mem_of_getElem? (i := 6) (by decide +kernel)))
theorem u_7 (Z : a_Z a0 s0) : (Cond.initialized "java/lang/Math").before a0 s0 = true := Z _ (List.mem_append_right _ (List.mem_of_getElem? (i := 7) (by decide +kernel)))
theorem u_8 (Z : a_Z a0 s0) : (Cond.initialized "NarrowingPacker$PacketWriter").before a0 s0 = true := Z _ (List.mem_append_right _ (List.mem_of_getElem? (i := 8) (by decide +kernel)))
theorem u_9 (Z : a_Z a0 s0) : (Cond.initialized "NarrowingPacker$Narrower").before a0 s0 = true := Z _ (List.mem_append_right _ (List.mem_of_getElem? (i := 9) (by decide +kernel)))
theorem u_10 (Z : a_Z a0 s0) : (Cond.initialized "NarrowingPacker$Chances").before a0 s0 = true := Z _ (List.mem_append_right _ (List.mem_of_getElem? (i := 10) (by decide +kernel)))
theorem u_11 (Z : a_Z a0 s0) : (Cond.initialized "NarrowingPacker$PacketReader").before a0 s0 = true := Z _ (List.mem_append_right _ (List.mem_of_getElem? (i := 11) (by decide +kernel)))
theorem u_12 (Z : a_Z a0 s0) : (Cond.initialized "NarrowingPacker$Follower").before a0 s0 = true := Z _ (List.mem_append_right _ (List.mem_of_getElem? (i := 12) (by decide +kernel)))
theorem u_13 (Z : a_Z a0 s0) : (Cond.initialized "NarrowingPackerModel").before a0 s0 = true := Z _ (List.mem_append_right _ (List.mem_of_getElem? (i := 13) (by decide +kernel)))
theorem u_14 (Z : a_Z a0 s0) : (Cond.initialized "java/util/Arrays").before a0 s0 = true := Z _ (List.mem_append_right _ (List.mem_of_getElem? (i := 14) (by decide +kernel)))
theorem u_15 (Z : a_Z a0 s0) : (Cond.initialized "java/lang/Throwable").before a0 s0 = true := Z _ (List.mem_append_right _ (List.mem_of_getElem? (i := 15) (by decide +kernel)))
theorem u_16 (Z : a_Z a0 s0) : (Cond.initialized "java/lang/Exception").before a0 s0 = true := Z _ (List.mem_append_right _ (List.mem_of_getElem? (i := 16) (by decide +kernel)))
theorem u_17 (Z : a_Z a0 s0) : (Cond.initialized "java/lang/RuntimeException").before a0 s0 = true := Z _ (List.mem_append_right _ (List.mem_of_getElem? (i := 17) (by decide +kernel)))
theorem u_18 (Z : a_Z a0 s0) : (Cond.initialized "java/lang/IllegalStateException").before a0 s0 = true := Z _ (List.mem_append_right _ (List.mem_of_getElem? (i := 18) (by decide +kernel)))
theorem u_19 (Z : a_Z a0 s0) : (Cond.initialized "java/lang/System").before a0 s0 = true := Z _ (List.mem_append_right _ (List.mem_of_getElem? (i := 19) (by decide +kernel)))
theorem u_20 (Z : a_Z a0 s0) : (Cond.initialized "java/lang/IndexOutOfBoundsException").before a0 s0 = true := Z _ (List.mem_append_right _ (List.mem_of_getElem? (i := 20) (by decide +kernel)))
theorem u_21 (Z : a_Z a0 s0) : (Cond.initialized "java/lang/IllegalArgumentException").before a0 s0 = true := Z _ (List.mem_append_right _ (List.mem_of_getElem? (i := 21) (by decide +kernel)))
theorem u_22 (Z : a_Z a0 s0) : (Cond.initialized "java/util/NoSuchElementException").before a0 s0 = true := Z _ (List.mem_append_right _ (List.mem_of_getElem? (i := 22) (by decide +kernel)))
theorem u_23 (Z : a_Z a0 s0) : (Cond.classLink "NarrowingPackerLaw" 8 "NarrowingPacker").before a0 s0 = true := Z _ (List.mem_append_right _ (List.mem_of_getElem? (i := 23) (by decide +kernel)))
theorem u_24 (Z : a_Z a0 s0) : (Cond.instantiable "NarrowingPacker" 12).before a0 s0 = true := Z _ (List.mem_append_right _ (List.mem_of_getElem? (i := 24) (by decide +kernel)))
theorem u_25 (Z : a_Z a0 s0) : (Cond.methodLink "NarrowingPackerLaw" 38 y_Np_init).before a0 s0 = true := Z _ (List.mem_append_right _ (List.mem_of_getElem? (i := 25) (by decide +kernel)))
theorem u_26 (Z : a_Z a0 s0) : (Cond.instanceMethod y_Np_init).before a0 s0 = true := Z _ (List.mem_append_right _ (List.mem_of_getElem? (i := 26) (by decide +kernel)))
theorem u_27 (Z : a_Z a0 s0) : (Cond.code y_Np_init prog_1_method_1_code 2 (Option.none : Option FieldType)).before a0 s0 = true := Z _ (List.mem_append_right _ (List.mem_of_getElem? (i := 27) (by decide +kernel)))
theorem u_28 (Z : a_Z a0 s0) : (Cond.methodLink "NarrowingPacker" 3 Lib.objectInit).before a0 s0 = true := Z _ (List.mem_append_right _ (List.mem_of_getElem? (i := 28) (by decide +kernel)))
theorem u_29 (Z : a_Z a0 s0) : (Cond.instanceMethod Lib.objectInit).before a0 s0 = true := Z _ (List.mem_append_right _ (List.mem_of_getElem? (i := 29) (by decide +kernel)))
theorem u_30 (Z : a_Z a0 s0) : (Cond.code Lib.objectInit object_method_1_code 1 (Option.none : Option FieldType)).before a0 s0 = true := Z _ (List.mem_append_right _ (List.mem_of_getElem? (i := 30) (by decide +kernel)))
theorem u_31 (Z : a_Z a0 s0) : (Cond.classLink "NarrowingPacker" 9 "NarrowingPacker$Bytes").before a0 s0 = true := Z _ (List.mem_append_right _ (List.mem_of_getElem? (i := 31) (by decide +kernel)))
theorem u_32 (Z : a_Z a0 s0) : (Cond.instantiable "NarrowingPacker$Bytes" 2).before a0 s0 = true := Z _ (List.mem_append_right _ (List.mem_of_getElem? (i := 32) (by decide +kernel)))
theorem u_33 (Z : a_Z a0 s0) : (Cond.methodLink "NarrowingPacker" 11 y_By_init).before a0 s0 = true := Z _ (List.mem_append_right _ (List.mem_of_getElem? (i := 33) (by decide +kernel)))
theorem u_34 (Z : a_Z a0 s0) : (Cond.instanceMethod y_By_init).before a0 s0 = true := Z _ (List.mem_append_right _ (List.mem_of_getElem? (i := 34) (by decide +kernel)))
theorem u_35 (Z : a_Z a0 s0) : (Cond.code y_By_init prog_2_method_1_code 2 (Option.none : Option FieldType)).before a0 s0 = true := Z _ (List.mem_append_right _ (List.mem_of_getElem? (i := 35) (by decide +kernel)))
theorem u_36 (Z : a_Z a0 s0) : (Cond.methodLink "NarrowingPacker$Bytes" 3 Lib.objectInit).before a0 s0 = true := Z _ (List.mem_append_right _ (List.mem_of_getElem? (i := 36) (by decide +kernel)))
theorem u_37 (Z : a_Z a0 s0) : (Cond.fieldLink "NarrowingPacker$Bytes" 9 "NarrowingPacker$Bytes" "row" "[I").before a0 s0 = true := Z _ (List.mem_append_right _ (List.mem_of_getElem? (i := 37) (by decide +kernel)))
theorem u_38 (Z : a_Z a0 s0) : (Cond.fieldLinkNest "NarrowingPacker$Follower" 30 "NarrowingPacker$Bytes" "row" "[I" "NarrowingPacker").before a0 s0 = true := Z _ (List.mem_append_right _ (List.mem_of_getElem? (i := 38) (by decide +kernel)))
theorem u_39 (Z : a_Z a0 s0) : (Cond.fieldLinkNest "NarrowingPacker$History" 72 "NarrowingPacker$Bytes" "row" "[I" "NarrowingPacker").before a0 s0 = true := Z _ (List.mem_append_right _ (List.mem_of_getElem? (i := 39) (by decide +kernel)))
theorem u_40 (Z : a_Z a0 s0) : (Cond.fieldLinkNest "NarrowingPacker$Chooser" 75 "NarrowingPacker$Bytes" "row" "[I" "NarrowingPacker").before a0 s0 = true := Z _ (List.mem_append_right _ (List.mem_of_getElem? (i := 40) (by decide +kernel)))
theorem u_41 (Z : a_Z a0 s0) : (Cond.fieldLinkNest "NarrowingPacker" 152 "NarrowingPacker$Bytes" "row" "[I" "NarrowingPacker").before a0 s0 = true := Z _ (List.mem_append_right _ (List.mem_of_getElem? (i := 41) (by decide +kernel)))
theorem u_42 (Z : a_Z a0 s0) : (Cond.fieldLinkNest "NarrowingPacker$Chooser" 21 "NarrowingPacker$Bytes" "count" "I" "NarrowingPacker").before a0 s0 = true := Z _ (List.mem_append_right _ (List.mem_of_getElem? (i := 42) (by decide +kernel)))
theorem u_43 (Z : a_Z a0 s0) : (Cond.fieldLink "NarrowingPacker$Bytes" 15 "NarrowingPacker$Bytes" "count" "I").before a0 s0 = true := Z _ (List.mem_append_right _ (List.mem_of_getElem? (i := 43) (by decide +kernel)))
theorem u_44 (Z : a_Z a0 s0) : (Cond.fieldLinkNest "NarrowingPacker$Follower" 34 "NarrowingPacker$Bytes" "count" "I" "NarrowingPacker").before a0 s0 = true := Z _ (List.mem_append_right _ (List.mem_of_getElem? (i := 44) (by decide +kernel)))
theorem u_45 (Z : a_Z a0 s0) : (Cond.fieldLinkNest "NarrowingPacker$History" 69 "NarrowingPacker$Bytes" "count" "I" "NarrowingPacker").before a0 s0 = true := Z _ (List.mem_append_right _ (List.mem_of_getElem? (i := 45) (by decide +kernel)))
theorem u_46 (Z : a_Z a0 s0) : (Cond.fieldLinkNest "NarrowingPacker" 121 "NarrowingPacker$Bytes" "count" "I" "NarrowingPacker").before a0 s0 = true := Z _ (List.mem_append_right _ (List.mem_of_getElem? (i := 46) (by decide +kernel)))
theorem u_47 (Z : a_Z a0 s0) : (Cond.laysFinal "NarrowingPacker$Bytes" "NarrowingPacker$Bytes" "row" "[I").before a0 s0 = true := Z _ (List.mem_append_right _ (List.mem_of_getElem? (i := 47) (by decide +kernel)))
theorem u_49 (Z : a_Z a0 s0) : (Cond.lays "NarrowingPacker$Bytes" "NarrowingPacker$Bytes" "count" "I").before a0 s0 = true := Z _ (List.mem_append_right _ (List.mem_of_getElem? (i := 49) (by decide +kernel)))
theorem u_52 (Z : a_Z a0 s0) : (Cond.arrayClass FieldType.int).before a0 s0 = true := Z _ (List.mem_append_right _ (List.mem_of_getElem? (i := 52) (by decide +kernel)))
theorem u_53 (Z : a_Z a0 s0) : (Cond.classLink "NarrowingPacker" 28 "NarrowingPacker$PacketList").before a0 s0 = true := Z _ (List.mem_append_right _ (List.mem_of_getElem? (i := 53) (by decide +kernel)))
theorem u_54 (Z : a_Z a0 s0) : (Cond.instantiable "NarrowingPacker$PacketList" 4).before a0 s0 = true := Z _ (List.mem_append_right _ (List.mem_of_getElem? (i := 54) (by decide +kernel)))
theorem u_55 (Z : a_Z a0 s0) : (Cond.methodLinkNest "NarrowingPacker" 30 y_Pl_init "NarrowingPacker").before a0 s0 = true := Z _ (List.mem_append_right _ (List.mem_of_getElem? (i := 55) (by decide +kernel)))
theorem u_56 (Z : a_Z a0 s0) : (Cond.instanceMethod y_Pl_init).before a0 s0 = true := Z _ (List.mem_append_right _ (List.mem_of_getElem? (i := 56) (by decide +kernel)))
theorem u_57 (Z : a_Z a0 s0) : (Cond.code y_Pl_init prog_9_method_1_code 1 (Option.none : Option FieldType)).before a0 s0 = true := Z _ (List.mem_append_right _ (List.mem_of_getElem? (i := 57) (by decide +kernel)))
theorem u_58 (Z : a_Z a0 s0) : (Cond.methodLink "NarrowingPacker$PacketList" 3 Lib.objectInit).before a0 s0 = true := Z _ (List.mem_append_right _ (List.mem_of_getElem? (i := 58) (by decide +kernel)))
theorem u_59 (Z : a_Z a0 s0) : (Cond.fieldLink "NarrowingPacker$PacketList" 9 "NarrowingPacker$PacketList" "kinds" "[I").before a0 s0 = true := Z _ (List.mem_append_right _ (List.mem_of_getElem? (i := 59) (by decide +kernel)))
theorem u_60 (Z : a_Z a0 s0) : (Cond.fieldLink "NarrowingPacker$PacketList" 15 "NarrowingPacker$PacketList" "lengths" "[I").before a0 s0 = true := Z _ (List.mem_append_right _ (List.mem_of_getElem? (i := 60) (by decide +kernel)))
theorem u_61 (Z : a_Z a0 s0) : (Cond.fieldLink "NarrowingPacker$PacketList" 18 "NarrowingPacker$PacketList" "values" "[I").before a0 s0 = true := Z _ (List.mem_append_right _ (List.mem_of_getElem? (i := 61) (by decide +kernel)))
theorem u_62 (Z : a_Z a0 s0) : (Cond.fieldLink "NarrowingPacker$PacketList" 21 "NarrowingPacker$PacketList" "count" "I").before a0 s0 = true := Z _ (List.mem_append_right _ (List.mem_of_getElem? (i := 62) (by decide +kernel)))
theorem u_63 (Z : a_Z a0 s0) : (Cond.fieldLinkNest "NarrowingPacker" 125 "NarrowingPacker$PacketList" "count" "I" "NarrowingPacker").before a0 s0 = true := Z _ (List.mem_append_right _ (List.mem_of_getElem? (i := 63) (by decide +kernel)))
theorem u_64 (Z : a_Z a0 s0) : (Cond.laysFinal "NarrowingPacker$PacketList" "NarrowingPacker$PacketList" "kinds" "[I").before a0 s0 = true := Z _ (List.mem_append_right _ (List.mem_of_getElem? (i := 64) (by decide +kernel)))
theorem u_66 (Z : a_Z a0 s0) : (Cond.laysFinal "NarrowingPacker$PacketList" "NarrowingPacker$PacketList" "lengths" "[I").before a0 s0 = true := Z _ (List.mem_append_right _ (List.mem_of_getElem? (i := 66) (by decide +kernel)))
theorem u_68 (Z : a_Z a0 s0) : (Cond.laysFinal "NarrowingPacker$PacketList" "NarrowingPacker$PacketList" "values" "[I").before a0 s0 = true := Z _ (List.mem_append_right _ (List.mem_of_getElem? (i := 68) (by decide +kernel)))
theorem u_70 (Z : a_Z a0 s0) : (Cond.lays "NarrowingPacker$PacketList" "NarrowingPacker$PacketList" "count" "I").before a0 s0 = true := Z _ (List.mem_append_right _ (List.mem_of_getElem? (i := 70) (by decide +kernel)))
theorem u_73 (Z : a_Z a0 s0) : (Cond.classLink "NarrowingPacker" 38 "NarrowingPacker$Packet").before a0 s0 = true := Z _ (List.mem_append_right _ (List.mem_of_getElem? (i := 73) (by decide +kernel)))
theorem u_74 (Z : a_Z a0 s0) : (Cond.instantiable "NarrowingPacker$Packet" 5).before a0 s0 = true := Z _ (List.mem_append_right _ (List.mem_of_getElem? (i := 74) (by decide +kernel)))
theorem u_75 (Z : a_Z a0 s0) : (Cond.methodLinkNest "NarrowingPacker" 40 y_Pa_init "NarrowingPacker").before a0 s0 = true := Z _ (List.mem_append_right _ (List.mem_of_getElem? (i := 75) (by decide +kernel)))
theorem u_76 (Z : a_Z a0 s0) : (Cond.instanceMethod y_Pa_init).before a0 s0 = true := Z _ (List.mem_append_right _ (List.mem_of_getElem? (i := 76) (by decide +kernel)))
theorem u_77 (Z : a_Z a0 s0) : (Cond.code y_Pa_init prog_8_method_1_code 1 (Option.none : Option FieldType)).before a0 s0 = true := Z _ (List.mem_append_right _ (List.mem_of_getElem? (i := 77) (by decide +kernel)))
theorem u_78 (Z : a_Z a0 s0) : (Cond.methodLink "NarrowingPacker$Packet" 3 Lib.objectInit).before a0 s0 = true := Z _ (List.mem_append_right _ (List.mem_of_getElem? (i := 78) (by decide +kernel)))
theorem u_79 (Z : a_Z a0 s0) : (Cond.fieldLinkNest "NarrowingPacker$PacketWriter" 24 "NarrowingPacker$Packet" "kind" "I" "NarrowingPacker").before a0 s0 = true := Z _ (List.mem_append_right _ (List.mem_of_getElem? (i := 79) (by decide +kernel)))
theorem u_80 (Z : a_Z a0 s0) : (Cond.fieldLinkNest "NarrowingPacker$History" 38 "NarrowingPacker$Packet" "kind" "I" "NarrowingPacker").before a0 s0 = true := Z _ (List.mem_append_right _ (List.mem_of_getElem? (i := 80) (by decide +kernel)))
theorem u_81 (Z : a_Z a0 s0) : (Cond.fieldLinkNest "NarrowingPacker$PacketList" 25 "NarrowingPacker$Packet" "kind" "I" "NarrowingPacker").before a0 s0 = true := Z _ (List.mem_append_right _ (List.mem_of_getElem? (i := 81) (by decide +kernel)))
theorem u_82 (Z : a_Z a0 s0) : (Cond.fieldLink "NarrowingPacker$Packet" 22 "NarrowingPacker$Packet" "kind" "I").before a0 s0 = true := Z _ (List.mem_append_right _ (List.mem_of_getElem? (i := 82) (by decide +kernel)))
theorem u_83 (Z : a_Z a0 s0) : (Cond.fieldLinkNest "NarrowingPacker" 170 "NarrowingPacker$Packet" "kind" "I" "NarrowingPacker").before a0 s0 = true := Z _ (List.mem_append_right _ (List.mem_of_getElem? (i := 83) (by decide +kernel)))
theorem u_84 (Z : a_Z a0 s0) : (Cond.fieldLinkNest "NarrowingPacker$History" 50 "NarrowingPacker$Packet" "length" "I" "NarrowingPacker").before a0 s0 = true := Z _ (List.mem_append_right _ (List.mem_of_getElem? (i := 84) (by decide +kernel)))
theorem u_85 (Z : a_Z a0 s0) : (Cond.fieldLinkNest "NarrowingPacker$PacketList" 30 "NarrowingPacker$Packet" "length" "I" "NarrowingPacker").before a0 s0 = true := Z _ (List.mem_append_right _ (List.mem_of_getElem? (i := 85) (by decide +kernel)))
theorem u_86 (Z : a_Z a0 s0) : (Cond.fieldLinkNest "NarrowingPacker$PacketWriter" 67 "NarrowingPacker$Packet" "length" "I" "NarrowingPacker").before a0 s0 = true := Z _ (List.mem_append_right _ (List.mem_of_getElem? (i := 86) (by decide +kernel)))
theorem u_87 (Z : a_Z a0 s0) : (Cond.fieldLink "NarrowingPacker$Packet" 25 "NarrowingPacker$Packet" "length" "I").before a0 s0 = true := Z _ (List.mem_append_right _ (List.mem_of_getElem? (i := 87) (by decide +kernel)))
theorem u_88 (Z : a_Z a0 s0) : (Cond.fieldLinkNest "NarrowingPacker" 226 "NarrowingPacker$Packet" "length" "I" "NarrowingPacker").before a0 s0 = true := Z _ (List.mem_append_right _ (List.mem_of_getElem? (i := 88) (by decide +kernel)))
theorem u_89 (Z : a_Z a0 s0) : (Cond.fieldLinkNest "NarrowingPacker$History" 53 "NarrowingPacker$Packet" "distance" "I" "NarrowingPacker").before a0 s0 = true := Z _ (List.mem_append_right _ (List.mem_of_getElem? (i := 89) (by decide +kernel)))
theorem u_90 (Z : a_Z a0 s0) : (Cond.fieldLinkNest "NarrowingPacker$PacketList" 36 "NarrowingPacker$Packet" "distance" "I" "NarrowingPacker").before a0 s0 = true := Z _ (List.mem_append_right _ (List.mem_of_getElem? (i := 90) (by decide +kernel)))
theorem u_91 (Z : a_Z a0 s0) : (Cond.fieldLinkNest "NarrowingPacker$PacketWriter" 70 "NarrowingPacker$Packet" "distance" "I" "NarrowingPacker").before a0 s0 = true := Z _ (List.mem_append_right _ (List.mem_of_getElem? (i := 91) (by decide +kernel)))
theorem u_92 (Z : a_Z a0 s0) : (Cond.fieldLink "NarrowingPacker$Packet" 28 "NarrowingPacker$Packet" "distance" "I").before a0 s0 = true := Z _ (List.mem_append_right _ (List.mem_of_getElem? (i := 92) (by decide +kernel)))
theorem u_93 (Z : a_Z a0 s0) : (Cond.fieldLinkNest "NarrowingPacker" 221 "NarrowingPacker$Packet" "distance" "I" "NarrowingPacker").before a0 s0 = true := Z _ (List.mem_append_right _ (List.mem_of_getElem? (i := 93) (by decide +kernel)))
theorem u_94 (Z : a_Z a0 s0) : (Cond.fieldLinkNest "NarrowingPacker$History" 63 "NarrowingPacker$Packet" "echo" "I" "NarrowingPacker").before a0 s0 = true := Z _ (List.mem_append_right _ (List.mem_of_getElem? (i := 94) (by decide +kernel)))
theorem u_95 (Z : a_Z a0 s0) : (Cond.fieldLink "NarrowingPacker$Packet" 19 "NarrowingPacker$Packet" "echo" "I").before a0 s0 = true := Z _ (List.mem_append_right _ (List.mem_of_getElem? (i := 95) (by decide +kernel)))
theorem u_96 (Z : a_Z a0 s0) : (Cond.fieldLinkNest "NarrowingPacker$PacketWriter" 92 "NarrowingPacker$Packet" "echo" "I" "NarrowingPacker").before a0 s0 = true := Z _ (List.mem_append_right _ (List.mem_of_getElem? (i := 96) (by decide +kernel)))
theorem u_97 (Z : a_Z a0 s0) : (Cond.fieldLink "NarrowingPacker$Packet" 15 "NarrowingPacker$Packet" "literal" "I").before a0 s0 = true := Z _ (List.mem_append_right _ (List.mem_of_getElem? (i := 97) (by decide +kernel)))
theorem u_98 (Z : a_Z a0 s0) : (Cond.fieldLinkNest "NarrowingPacker$PacketWriter" 33 "NarrowingPacker$Packet" "literal" "I" "NarrowingPacker").before a0 s0 = true := Z _ (List.mem_append_right _ (List.mem_of_getElem? (i := 98) (by decide +kernel)))
theorem u_99 (Z : a_Z a0 s0) : (Cond.fieldLinkNest "NarrowingPacker$History" 43 "NarrowingPacker$Packet" "literal" "I" "NarrowingPacker").before a0 s0 = true := Z _ (List.mem_append_right _ (List.mem_of_getElem? (i := 99) (by decide +kernel)))
theorem u_100 (Z : a_Z a0 s0) : (Cond.fieldLinkNest "NarrowingPacker$PacketList" 33 "NarrowingPacker$Packet" "literal" "I" "NarrowingPacker").before a0 s0 = true := Z _ (List.mem_append_right _ (List.mem_of_getElem? (i := 100) (by decide +kernel)))
theorem u_101 (Z : a_Z a0 s0) : (Cond.lays "NarrowingPacker$Packet" "NarrowingPacker$Packet" "kind" "I").before a0 s0 = true := Z _ (List.mem_append_right _ (List.mem_of_getElem? (i := 101) (by decide +kernel)))
theorem u_103 (Z : a_Z a0 s0) : (Cond.lays "NarrowingPacker$Packet" "NarrowingPacker$Packet" "length" "I").before a0 s0 = true := Z _ (List.mem_append_right _ (List.mem_of_getElem? (i := 103) (by decide +kernel)))
theorem u_105 (Z : a_Z a0 s0) : (Cond.lays "NarrowingPacker$Packet" "NarrowingPacker$Packet" "distance" "I").before a0 s0 = true := Z _ (List.mem_append_right _ (List.mem_of_getElem? (i := 105) (by decide +kernel)))
theorem u_107 (Z : a_Z a0 s0) : (Cond.lays "NarrowingPacker$Packet" "NarrowingPacker$Packet" "echo" "I").before a0 s0 = true := Z _ (List.mem_append_right _ (List.mem_of_getElem? (i := 107) (by decide +kernel)))
theorem u_109 (Z : a_Z a0 s0) : (Cond.lays "NarrowingPacker$Packet" "NarrowingPacker$Packet" "literal" "I").before a0 s0 = true := Z _ (List.mem_append_right _ (List.mem_of_getElem? (i := 109) (by decide +kernel)))
theorem u_112 (Z : a_Z a0 s0) : (Cond.classLink "NarrowingPacker" 45 "NarrowingPacker$History").before a0 s0 = true := Z _ (List.mem_append_right _ (List.mem_of_getElem? (i := 112) (by decide +kernel)))
theorem u_113 (Z : a_Z a0 s0) : (Cond.instantiable "NarrowingPacker$History" 3).before a0 s0 = true := Z _ (List.mem_append_right _ (List.mem_of_getElem? (i := 113) (by decide +kernel)))
theorem u_114 (Z : a_Z a0 s0) : (Cond.methodLinkNest "NarrowingPacker" 47 y_Hi_init "NarrowingPacker").before a0 s0 = true := Z _ (List.mem_append_right _ (List.mem_of_getElem? (i := 114) (by decide +kernel)))
theorem u_115 (Z : a_Z a0 s0) : (Cond.instanceMethod y_Hi_init).before a0 s0 = true := Z _ (List.mem_append_right _ (List.mem_of_getElem? (i := 115) (by decide +kernel)))
theorem u_116 (Z : a_Z a0 s0) : (Cond.code y_Hi_init prog_6_method_1_code 1 (Option.none : Option FieldType)).before a0 s0 = true := Z _ (List.mem_append_right _ (List.mem_of_getElem? (i := 116) (by decide +kernel)))
theorem u_117 (Z : a_Z a0 s0) : (Cond.methodLink "NarrowingPacker$History" 3 Lib.objectInit).before a0 s0 = true := Z _ (List.mem_append_right _ (List.mem_of_getElem? (i := 117) (by decide +kernel)))
theorem u_118 (Z : a_Z a0 s0) : (Cond.classLink "NarrowingPacker$History" 9 "NarrowingPacker$Bytes").before a0 s0 = true := Z _ (List.mem_append_right _ (List.mem_of_getElem? (i := 118) (by decide +kernel)))
theorem u_119 (Z : a_Z a0 s0) : (Cond.methodLink "NarrowingPacker$History" 11 y_By_init).before a0 s0 = true := Z _ (List.mem_append_right _ (List.mem_of_getElem? (i := 119) (by decide +kernel)))
theorem u_120 (Z : a_Z a0 s0) : (Cond.fieldLink "NarrowingPacker$History" 14 "NarrowingPacker$History" "bytes" "LNarrowingPacker$Bytes;").before a0 s0 = true := Z _ (List.mem_append_right _ (List.mem_of_getElem? (i := 120) (by decide +kernel)))
theorem u_121 (Z : a_Z a0 s0) : (Cond.fieldLinkNest "NarrowingPacker$Chooser" 15 "NarrowingPacker$History" "bytes" "LNarrowingPacker$Bytes;" "NarrowingPacker").before a0 s0 = true := Z _ (List.mem_append_right _ (List.mem_of_getElem? (i := 121) (by decide +kernel)))
theorem u_122 (Z : a_Z a0 s0) : (Cond.fieldLinkNest "NarrowingPacker" 183 "NarrowingPacker$History" "bytes" "LNarrowingPacker$Bytes;" "NarrowingPacker").before a0 s0 = true := Z _ (List.mem_append_right _ (List.mem_of_getElem? (i := 122) (by decide +kernel)))
theorem u_123 (Z : a_Z a0 s0) : (Cond.fieldLink "NarrowingPacker$History" 20 "NarrowingPacker$History" "lastDistances" "[I").before a0 s0 = true := Z _ (List.mem_append_right _ (List.mem_of_getElem? (i := 123) (by decide +kernel)))
theorem u_124 (Z : a_Z a0 s0) : (Cond.fieldLinkNest "NarrowingPacker$Chooser" 26 "NarrowingPacker$History" "lastDistances" "[I" "NarrowingPacker").before a0 s0 = true := Z _ (List.mem_append_right _ (List.mem_of_getElem? (i := 124) (by decide +kernel)))
theorem u_125 (Z : a_Z a0 s0) : (Cond.fieldLinkNest "NarrowingPacker$PacketReader" 42 "NarrowingPacker$History" "lastDistances" "[I" "NarrowingPacker").before a0 s0 = true := Z _ (List.mem_append_right _ (List.mem_of_getElem? (i := 125) (by decide +kernel)))
theorem u_126 (Z : a_Z a0 s0) : (Cond.fieldLinkNest "NarrowingPacker$PacketWriter" 55 "NarrowingPacker$History" "lastDistances" "[I" "NarrowingPacker").before a0 s0 = true := Z _ (List.mem_append_right _ (List.mem_of_getElem? (i := 126) (by decide +kernel)))
theorem u_127 (Z : a_Z a0 s0) : (Cond.fieldLinkNest "NarrowingPacker$PacketWriter" 18 "NarrowingPacker$History" "state" "I" "NarrowingPacker").before a0 s0 = true := Z _ (List.mem_append_right _ (List.mem_of_getElem? (i := 127) (by decide +kernel)))
theorem u_128 (Z : a_Z a0 s0) : (Cond.fieldLinkNest "NarrowingPacker$PacketReader" 18 "NarrowingPacker$History" "state" "I" "NarrowingPacker").before a0 s0 = true := Z _ (List.mem_append_right _ (List.mem_of_getElem? (i := 128) (by decide +kernel)))
theorem u_129 (Z : a_Z a0 s0) : (Cond.fieldLink "NarrowingPacker$History" 34 "NarrowingPacker$History" "state" "I").before a0 s0 = true := Z _ (List.mem_append_right _ (List.mem_of_getElem? (i := 129) (by decide +kernel)))
theorem u_130 (Z : a_Z a0 s0) : (Cond.laysFinal "NarrowingPacker$History" "NarrowingPacker$History" "bytes" "LNarrowingPacker$Bytes;").before a0 s0 = true := Z _ (List.mem_append_right _ (List.mem_of_getElem? (i := 130) (by decide +kernel)))
theorem u_132 (Z : a_Z a0 s0) : (Cond.laysFinal "NarrowingPacker$History" "NarrowingPacker$History" "lastDistances" "[I").before a0 s0 = true := Z _ (List.mem_append_right _ (List.mem_of_getElem? (i := 132) (by decide +kernel)))
theorem u_134 (Z : a_Z a0 s0) : (Cond.lays "NarrowingPacker$History" "NarrowingPacker$History" "state" "I").before a0 s0 = true := Z _ (List.mem_append_right _ (List.mem_of_getElem? (i := 134) (by decide +kernel)))
theorem u_137 (Z : a_Z a0 s0) : (Cond.classLink "NarrowingPacker" 52 "NarrowingPacker$Chooser").before a0 s0 = true := Z _ (List.mem_append_right _ (List.mem_of_getElem? (i := 137) (by decide +kernel)))
theorem u_138 (Z : a_Z a0 s0) : (Cond.instantiable "NarrowingPacker$Chooser" 5).before a0 s0 = true := Z _ (List.mem_append_right _ (List.mem_of_getElem? (i := 138) (by decide +kernel)))
theorem u_139 (Z : a_Z a0 s0) : (Cond.methodLink "NarrowingPacker" 54 Lib.Math.min.name).before a0 s0 = true := Z _ (List.mem_append_right _ (List.mem_of_getElem? (i := 139) (by decide +kernel)))
theorem u_140 (Z : a_Z a0 s0) : (Cond.static Lib.Math.min.name).before a0 s0 = true := Z _ (List.mem_append_right _ (List.mem_of_getElem? (i := 140) (by decide +kernel)))
theorem u_141 (Z : a_Z a0 s0) : (Cond.code Lib.Math.min.name prog_18_method_69_code 2 (Option.some FieldType.int)).before a0 s0 = true := Z _ (List.mem_append_right _ (List.mem_of_getElem? (i := 141) (by decide +kernel)))
theorem u_142 (Z : a_Z a0 s0) : (Cond.methodLink "NarrowingPacker" 60 Lib.Math.max.name).before a0 s0 = true := Z _ (List.mem_append_right _ (List.mem_of_getElem? (i := 142) (by decide +kernel)))
theorem u_143 (Z : a_Z a0 s0) : (Cond.static Lib.Math.max.name).before a0 s0 = true := Z _ (List.mem_append_right _ (List.mem_of_getElem? (i := 143) (by decide +kernel)))
theorem u_144 (Z : a_Z a0 s0) : (Cond.code Lib.Math.max.name prog_18_method_65_code 2 (Option.some FieldType.int)).before a0 s0 = true := Z _ (List.mem_append_right _ (List.mem_of_getElem? (i := 144) (by decide +kernel)))
theorem u_145 (Z : a_Z a0 s0) : (Cond.methodLink "NarrowingPacker" 63 y_Co_init).before a0 s0 = true := Z _ (List.mem_append_right _ (List.mem_of_getElem? (i := 145) (by decide +kernel)))
theorem u_146 (Z : a_Z a0 s0) : (Cond.instanceMethod y_Co_init).before a0 s0 = true := Z _ (List.mem_append_right _ (List.mem_of_getElem? (i := 146) (by decide +kernel)))
theorem u_147 (Z : a_Z a0 s0) : (Cond.code y_Co_init prog_4_method_1_code 2 (Option.none : Option FieldType)).before a0 s0 = true := Z _ (List.mem_append_right _ (List.mem_of_getElem? (i := 147) (by decide +kernel)))
theorem u_148 (Z : a_Z a0 s0) : (Cond.methodLink "NarrowingPacker$Chooser" 3 Lib.objectInit).before a0 s0 = true := Z _ (List.mem_append_right _ (List.mem_of_getElem? (i := 148) (by decide +kernel)))
theorem u_149 (Z : a_Z a0 s0) : (Cond.fieldLink "NarrowingPacker$Chooser" 9 "NarrowingPacker$Chooser" "limit" "I").before a0 s0 = true := Z _ (List.mem_append_right _ (List.mem_of_getElem? (i := 149) (by decide +kernel)))
theorem u_150 (Z : a_Z a0 s0) : (Cond.fieldLink "NarrowingPacker$Chooser" 41 "NarrowingPacker$Chooser" "matchLength" "I").before a0 s0 = true := Z _ (List.mem_append_right _ (List.mem_of_getElem? (i := 150) (by decide +kernel)))
theorem u_151 (Z : a_Z a0 s0) : (Cond.fieldLink "NarrowingPacker$Chooser" 53 "NarrowingPacker$Chooser" "matchDistance" "I").before a0 s0 = true := Z _ (List.mem_append_right _ (List.mem_of_getElem? (i := 151) (by decide +kernel)))
theorem u_152 (Z : a_Z a0 s0) : (Cond.fieldLink "NarrowingPacker$Chooser" 38 "NarrowingPacker$Chooser" "echoLength" "I").before a0 s0 = true := Z _ (List.mem_append_right _ (List.mem_of_getElem? (i := 152) (by decide +kernel)))
theorem u_153 (Z : a_Z a0 s0) : (Cond.fieldLink "NarrowingPacker$Chooser" 44 "NarrowingPacker$Chooser" "echo" "I").before a0 s0 = true := Z _ (List.mem_append_right _ (List.mem_of_getElem? (i := 153) (by decide +kernel)))
theorem u_154 (Z : a_Z a0 s0) : (Cond.laysFinal "NarrowingPacker$Chooser" "NarrowingPacker$Chooser" "limit" "I").before a0 s0 = true := Z _ (List.mem_append_right _ (List.mem_of_getElem? (i := 154) (by decide +kernel)))
theorem u_156 (Z : a_Z a0 s0) : (Cond.lays "NarrowingPacker$Chooser" "NarrowingPacker$Chooser" "matchLength" "I").before a0 s0 = true := Z _ (List.mem_append_right _ (List.mem_of_getElem? (i := 156) (by decide +kernel)))
theorem u_158 (Z : a_Z a0 s0) : (Cond.lays "NarrowingPacker$Chooser" "NarrowingPacker$Chooser" "matchDistance" "I").before a0 s0 = true := Z _ (List.mem_append_right _ (List.mem_of_getElem? (i := 158) (by decide +kernel)))
theorem u_160 (Z : a_Z a0 s0) : (Cond.lays "NarrowingPacker$Chooser" "NarrowingPacker$Chooser" "echoLength" "I").before a0 s0 = true := Z _ (List.mem_append_right _ (List.mem_of_getElem? (i := 160) (by decide +kernel)))
theorem u_162 (Z : a_Z a0 s0) : (Cond.lays "NarrowingPacker$Chooser" "NarrowingPacker$Chooser" "echo" "I").before a0 s0 = true := Z _ (List.mem_append_right _ (List.mem_of_getElem? (i := 162) (by decide +kernel)))
theorem u_165 (Z : a_Z a0 s0) : (Cond.classLink "NarrowingPacker" 68 "NarrowingPacker$PacketWriter").before a0 s0 = true := Z _ (List.mem_append_right _ (List.mem_of_getElem? (i := 165) (by decide +kernel)))
theorem u_166 (Z : a_Z a0 s0) : (Cond.instantiable "NarrowingPacker$PacketWriter" 1).before a0 s0 = true := Z _ (List.mem_append_right _ (List.mem_of_getElem? (i := 166) (by decide +kernel)))
theorem u_167 (Z : a_Z a0 s0) : (Cond.methodLinkNest "NarrowingPacker" 70 y_Wr_init "NarrowingPacker").before a0 s0 = true := Z _ (List.mem_append_right _ (List.mem_of_getElem? (i := 167) (by decide +kernel)))
theorem u_168 (Z : a_Z a0 s0) : (Cond.instanceMethod y_Wr_init).before a0 s0 = true := Z _ (List.mem_append_right _ (List.mem_of_getElem? (i := 168) (by decide +kernel)))
theorem u_169 (Z : a_Z a0 s0) : (Cond.code y_Wr_init prog_11_method_1_code 1 (Option.none : Option FieldType)).before a0 s0 = true := Z _ (List.mem_append_right _ (List.mem_of_getElem? (i := 169) (by decide +kernel)))
theorem u_170 (Z : a_Z a0 s0) : (Cond.methodLink "NarrowingPacker$PacketWriter" 3 Lib.objectInit).before a0 s0 = true := Z _ (List.mem_append_right _ (List.mem_of_getElem? (i := 170) (by decide +kernel)))
theorem u_171 (Z : a_Z a0 s0) : (Cond.classLink "NarrowingPacker$PacketWriter" 9 "NarrowingPacker$Narrower").before a0 s0 = true := Z _ (List.mem_append_right _ (List.mem_of_getElem? (i := 171) (by decide +kernel)))
theorem u_172 (Z : a_Z a0 s0) : (Cond.instantiable "NarrowingPacker$Narrower" 4).before a0 s0 = true := Z _ (List.mem_append_right _ (List.mem_of_getElem? (i := 172) (by decide +kernel)))
theorem u_173 (Z : a_Z a0 s0) : (Cond.methodLinkNest "NarrowingPacker$PacketWriter" 11 y_Na_init "NarrowingPacker").before a0 s0 = true := Z _ (List.mem_append_right _ (List.mem_of_getElem? (i := 173) (by decide +kernel)))
theorem u_174 (Z : a_Z a0 s0) : (Cond.instanceMethod y_Na_init).before a0 s0 = true := Z _ (List.mem_append_right _ (List.mem_of_getElem? (i := 174) (by decide +kernel)))
theorem u_175 (Z : a_Z a0 s0) : (Cond.code y_Na_init prog_7_method_1_code 1 (Option.none : Option FieldType)).before a0 s0 = true := Z _ (List.mem_append_right _ (List.mem_of_getElem? (i := 175) (by decide +kernel)))
theorem u_176 (Z : a_Z a0 s0) : (Cond.methodLink "NarrowingPacker$Narrower" 3 Lib.objectInit).before a0 s0 = true := Z _ (List.mem_append_right _ (List.mem_of_getElem? (i := 176) (by decide +kernel)))
theorem u_177 (Z : a_Z a0 s0) : (Cond.classLink "NarrowingPacker$Narrower" 9 "NarrowingPacker$Chances").before a0 s0 = true := Z _ (List.mem_append_right _ (List.mem_of_getElem? (i := 177) (by decide +kernel)))
theorem u_178 (Z : a_Z a0 s0) : (Cond.instantiable "NarrowingPacker$Chances" 1).before a0 s0 = true := Z _ (List.mem_append_right _ (List.mem_of_getElem? (i := 178) (by decide +kernel)))
theorem u_179 (Z : a_Z a0 s0) : (Cond.methodLinkNest "NarrowingPacker$Narrower" 11 y_Ch_init "NarrowingPacker").before a0 s0 = true := Z _ (List.mem_append_right _ (List.mem_of_getElem? (i := 179) (by decide +kernel)))
theorem u_180 (Z : a_Z a0 s0) : (Cond.instanceMethod y_Ch_init).before a0 s0 = true := Z _ (List.mem_append_right _ (List.mem_of_getElem? (i := 180) (by decide +kernel)))
theorem u_181 (Z : a_Z a0 s0) : (Cond.code y_Ch_init prog_3_method_1_code 1 (Option.none : Option FieldType)).before a0 s0 = true := Z _ (List.mem_append_right _ (List.mem_of_getElem? (i := 181) (by decide +kernel)))
theorem u_182 (Z : a_Z a0 s0) : (Cond.methodLink "NarrowingPacker$Chances" 3 Lib.objectInit).before a0 s0 = true := Z _ (List.mem_append_right _ (List.mem_of_getElem? (i := 182) (by decide +kernel)))
theorem u_183 (Z : a_Z a0 s0) : (Cond.fieldLink "NarrowingPacker$Chances" 9 "NarrowingPacker$Chances" "row" "[I").before a0 s0 = true := Z _ (List.mem_append_right _ (List.mem_of_getElem? (i := 183) (by decide +kernel)))
theorem u_184 (Z : a_Z a0 s0) : (Cond.fieldLinkNest "NarrowingPacker" 212 "NarrowingPacker$Chances" "row" "[I" "NarrowingPacker").before a0 s0 = true := Z _ (List.mem_append_right _ (List.mem_of_getElem? (i := 184) (by decide +kernel)))
theorem u_185 (Z : a_Z a0 s0) : (Cond.laysFinal "NarrowingPacker$Chances" "NarrowingPacker$Chances" "row" "[I").before a0 s0 = true := Z _ (List.mem_append_right _ (List.mem_of_getElem? (i := 185) (by decide +kernel)))
theorem u_188 (Z : a_Z a0 s0) : (Cond.fieldLink "NarrowingPacker$Narrower" 12 "NarrowingPacker$Narrower" "chances" "LNarrowingPacker$Chances;").before a0 s0 = true := Z _ (List.mem_append_right _ (List.mem_of_getElem? (i := 188) (by decide +kernel)))
theorem u_189 (Z : a_Z a0 s0) : (Cond.fieldLinkNest "NarrowingPacker" 208 "NarrowingPacker$Narrower" "chances" "LNarrowingPacker$Chances;" "NarrowingPacker").before a0 s0 = true := Z _ (List.mem_append_right _ (List.mem_of_getElem? (i := 189) (by decide +kernel)))
theorem u_190 (Z : a_Z a0 s0) : (Cond.fieldLink "NarrowingPacker$Narrower" 18 "NarrowingPacker$Narrower" "digits" "[I").before a0 s0 = true := Z _ (List.mem_append_right _ (List.mem_of_getElem? (i := 190) (by decide +kernel)))
theorem u_191 (Z : a_Z a0 s0) : (Cond.fieldLinkNest "NarrowingPacker" 202 "NarrowingPacker$Narrower" "digits" "[I" "NarrowingPacker").before a0 s0 = true := Z _ (List.mem_append_right _ (List.mem_of_getElem? (i := 191) (by decide +kernel)))
theorem u_192 (Z : a_Z a0 s0) : (Cond.fieldLink "NarrowingPacker$Narrower" 31 "NarrowingPacker$Narrower" "length" "I").before a0 s0 = true := Z _ (List.mem_append_right _ (List.mem_of_getElem? (i := 192) (by decide +kernel)))
theorem u_193 (Z : a_Z a0 s0) : (Cond.fieldLinkNest "NarrowingPacker" 205 "NarrowingPacker$Narrower" "length" "I" "NarrowingPacker").before a0 s0 = true := Z _ (List.mem_append_right _ (List.mem_of_getElem? (i := 193) (by decide +kernel)))
theorem u_194 (Z : a_Z a0 s0) : (Cond.fieldLink "NarrowingPacker$Narrower" 37 "NarrowingPacker$Narrower" "range" "J").before a0 s0 = true := Z _ (List.mem_append_right _ (List.mem_of_getElem? (i := 194) (by decide +kernel)))
theorem u_195 (Z : a_Z a0 s0) : (Cond.laysFinal "NarrowingPacker$Narrower" "NarrowingPacker$Narrower" "chances" "LNarrowingPacker$Chances;").before a0 s0 = true := Z _ (List.mem_append_right _ (List.mem_of_getElem? (i := 195) (by decide +kernel)))
theorem u_197 (Z : a_Z a0 s0) : (Cond.laysFinal "NarrowingPacker$Narrower" "NarrowingPacker$Narrower" "digits" "[I").before a0 s0 = true := Z _ (List.mem_append_right _ (List.mem_of_getElem? (i := 197) (by decide +kernel)))
theorem u_199 (Z : a_Z a0 s0) : (Cond.lays "NarrowingPacker$Narrower" "NarrowingPacker$Narrower" "length" "I").before a0 s0 = true := Z _ (List.mem_append_right _ (List.mem_of_getElem? (i := 199) (by decide +kernel)))
theorem u_201 (Z : a_Z a0 s0) : (Cond.lays "NarrowingPacker$Narrower" "NarrowingPacker$Narrower" "range" "J").before a0 s0 = true := Z _ (List.mem_append_right _ (List.mem_of_getElem? (i := 201) (by decide +kernel)))
theorem u_204 (Z : a_Z a0 s0) : (Cond.fieldLink "NarrowingPacker$PacketWriter" 12 "NarrowingPacker$PacketWriter" "narrower" "LNarrowingPacker$Narrower;").before a0 s0 = true := Z _ (List.mem_append_right _ (List.mem_of_getElem? (i := 204) (by decide +kernel)))
theorem u_205 (Z : a_Z a0 s0) : (Cond.fieldLinkNest "NarrowingPacker" 96 "NarrowingPacker$PacketWriter" "narrower" "LNarrowingPacker$Narrower;" "NarrowingPacker").before a0 s0 = true := Z _ (List.mem_append_right _ (List.mem_of_getElem? (i := 205) (by decide +kernel)))
theorem u_206 (Z : a_Z a0 s0) : (Cond.laysFinal "NarrowingPacker$PacketWriter" "NarrowingPacker$PacketWriter" "narrower" "LNarrowingPacker$Narrower;").before a0 s0 = true := Z _ (List.mem_append_right _ (List.mem_of_getElem? (i := 206) (by decide +kernel)))
theorem u_209 (Z : a_Z a0 s0) : (Cond.classLink "NarrowingPacker" 75 "NarrowingPacker$PacketReader").before a0 s0 = true := Z _ (List.mem_append_right _ (List.mem_of_getElem? (i := 209) (by decide +kernel)))
theorem u_210 (Z : a_Z a0 s0) : (Cond.instantiable "NarrowingPacker$PacketReader" 1).before a0 s0 = true := Z _ (List.mem_append_right _ (List.mem_of_getElem? (i := 210) (by decide +kernel)))
theorem u_211 (Z : a_Z a0 s0) : (Cond.methodLinkNest "NarrowingPacker" 77 y_Re_init "NarrowingPacker").before a0 s0 = true := Z _ (List.mem_append_right _ (List.mem_of_getElem? (i := 211) (by decide +kernel)))
theorem u_212 (Z : a_Z a0 s0) : (Cond.instanceMethod y_Re_init).before a0 s0 = true := Z _ (List.mem_append_right _ (List.mem_of_getElem? (i := 212) (by decide +kernel)))
theorem u_213 (Z : a_Z a0 s0) : (Cond.code y_Re_init prog_10_method_1_code 1 (Option.none : Option FieldType)).before a0 s0 = true := Z _ (List.mem_append_right _ (List.mem_of_getElem? (i := 213) (by decide +kernel)))
theorem u_214 (Z : a_Z a0 s0) : (Cond.methodLink "NarrowingPacker$PacketReader" 3 Lib.objectInit).before a0 s0 = true := Z _ (List.mem_append_right _ (List.mem_of_getElem? (i := 214) (by decide +kernel)))
theorem u_215 (Z : a_Z a0 s0) : (Cond.classLink "NarrowingPacker$PacketReader" 9 "NarrowingPacker$Follower").before a0 s0 = true := Z _ (List.mem_append_right _ (List.mem_of_getElem? (i := 215) (by decide +kernel)))
theorem u_216 (Z : a_Z a0 s0) : (Cond.instantiable "NarrowingPacker$Follower" 5).before a0 s0 = true := Z _ (List.mem_append_right _ (List.mem_of_getElem? (i := 216) (by decide +kernel)))
theorem u_217 (Z : a_Z a0 s0) : (Cond.methodLinkNest "NarrowingPacker$PacketReader" 11 y_Fo_init "NarrowingPacker").before a0 s0 = true := Z _ (List.mem_append_right _ (List.mem_of_getElem? (i := 217) (by decide +kernel)))
theorem u_218 (Z : a_Z a0 s0) : (Cond.instanceMethod y_Fo_init).before a0 s0 = true := Z _ (List.mem_append_right _ (List.mem_of_getElem? (i := 218) (by decide +kernel)))
theorem u_219 (Z : a_Z a0 s0) : (Cond.code y_Fo_init prog_5_method_1_code 1 (Option.none : Option FieldType)).before a0 s0 = true := Z _ (List.mem_append_right _ (List.mem_of_getElem? (i := 219) (by decide +kernel)))
theorem u_220 (Z : a_Z a0 s0) : (Cond.methodLink "NarrowingPacker$Follower" 3 Lib.objectInit).before a0 s0 = true := Z _ (List.mem_append_right _ (List.mem_of_getElem? (i := 220) (by decide +kernel)))
theorem u_221 (Z : a_Z a0 s0) : (Cond.classLink "NarrowingPacker$Follower" 9 "NarrowingPacker$Chances").before a0 s0 = true := Z _ (List.mem_append_right _ (List.mem_of_getElem? (i := 221) (by decide +kernel)))
theorem u_222 (Z : a_Z a0 s0) : (Cond.methodLinkNest "NarrowingPacker$Follower" 11 y_Ch_init "NarrowingPacker").before a0 s0 = true := Z _ (List.mem_append_right _ (List.mem_of_getElem? (i := 222) (by decide +kernel)))
theorem u_223 (Z : a_Z a0 s0) : (Cond.classLink "NarrowingPacker$Follower" 18 "NarrowingPacker$Bytes").before a0 s0 = true := Z _ (List.mem_append_right _ (List.mem_of_getElem? (i := 223) (by decide +kernel)))
theorem u_224 (Z : a_Z a0 s0) : (Cond.methodLink "NarrowingPacker$Follower" 20 y_By_init).before a0 s0 = true := Z _ (List.mem_append_right _ (List.mem_of_getElem? (i := 224) (by decide +kernel)))
theorem u_225 (Z : a_Z a0 s0) : (Cond.fieldLink "NarrowingPacker$Follower" 12 "NarrowingPacker$Follower" "chances" "LNarrowingPacker$Chances;").before a0 s0 = true := Z _ (List.mem_append_right _ (List.mem_of_getElem? (i := 225) (by decide +kernel)))
theorem u_226 (Z : a_Z a0 s0) : (Cond.fieldLink "NarrowingPacker$Follower" 23 "NarrowingPacker$Follower" "packed" "LNarrowingPacker$Bytes;").before a0 s0 = true := Z _ (List.mem_append_right _ (List.mem_of_getElem? (i := 226) (by decide +kernel)))
theorem u_227 (Z : a_Z a0 s0) : (Cond.fieldLink "NarrowingPacker$Follower" 42 "NarrowingPacker$Follower" "next" "I").before a0 s0 = true := Z _ (List.mem_append_right _ (List.mem_of_getElem? (i := 227) (by decide +kernel)))
theorem u_228 (Z : a_Z a0 s0) : (Cond.fieldLink "NarrowingPacker$Follower" 45 "NarrowingPacker$Follower" "code" "J").before a0 s0 = true := Z _ (List.mem_append_right _ (List.mem_of_getElem? (i := 228) (by decide +kernel)))
theorem u_229 (Z : a_Z a0 s0) : (Cond.fieldLink "NarrowingPacker$Follower" 51 "NarrowingPacker$Follower" "range" "J").before a0 s0 = true := Z _ (List.mem_append_right _ (List.mem_of_getElem? (i := 229) (by decide +kernel)))
theorem u_230 (Z : a_Z a0 s0) : (Cond.laysFinal "NarrowingPacker$Follower" "NarrowingPacker$Follower" "chances" "LNarrowingPacker$Chances;").before a0 s0 = true := Z _ (List.mem_append_right _ (List.mem_of_getElem? (i := 230) (by decide +kernel)))
theorem u_232 (Z : a_Z a0 s0) : (Cond.laysFinal "NarrowingPacker$Follower" "NarrowingPacker$Follower" "packed" "LNarrowingPacker$Bytes;").before a0 s0 = true := Z _ (List.mem_append_right _ (List.mem_of_getElem? (i := 232) (by decide +kernel)))
theorem u_234 (Z : a_Z a0 s0) : (Cond.lays "NarrowingPacker$Follower" "NarrowingPacker$Follower" "next" "I").before a0 s0 = true := Z _ (List.mem_append_right _ (List.mem_of_getElem? (i := 234) (by decide +kernel)))
theorem u_236 (Z : a_Z a0 s0) : (Cond.lays "NarrowingPacker$Follower" "NarrowingPacker$Follower" "code" "J").before a0 s0 = true := Z _ (List.mem_append_right _ (List.mem_of_getElem? (i := 236) (by decide +kernel)))
theorem u_238 (Z : a_Z a0 s0) : (Cond.lays "NarrowingPacker$Follower" "NarrowingPacker$Follower" "range" "J").before a0 s0 = true := Z _ (List.mem_append_right _ (List.mem_of_getElem? (i := 238) (by decide +kernel)))
theorem u_241 (Z : a_Z a0 s0) : (Cond.fieldLink "NarrowingPacker$PacketReader" 12 "NarrowingPacker$PacketReader" "follower" "LNarrowingPacker$Follower;").before a0 s0 = true := Z _ (List.mem_append_right _ (List.mem_of_getElem? (i := 241) (by decide +kernel)))
theorem u_242 (Z : a_Z a0 s0) : (Cond.fieldLinkNest "NarrowingPacker" 157 "NarrowingPacker$PacketReader" "follower" "LNarrowingPacker$Follower;" "NarrowingPacker").before a0 s0 = true := Z _ (List.mem_append_right _ (List.mem_of_getElem? (i := 242) (by decide +kernel)))
theorem u_243 (Z : a_Z a0 s0) : (Cond.laysFinal "NarrowingPacker$PacketReader" "NarrowingPacker$PacketReader" "follower" "LNarrowingPacker$Follower;").before a0 s0 = true := Z _ (List.mem_append_right _ (List.mem_of_getElem? (i := 243) (by decide +kernel)))
theorem u_246 (Z : a_Z a0 s0) : (Cond.fieldLink "NarrowingPacker" 14 "NarrowingPacker" "source" "LNarrowingPacker$Bytes;").before a0 s0 = true := Z _ (List.mem_append_right _ (List.mem_of_getElem? (i := 246) (by decide +kernel)))
theorem u_247 (Z : a_Z a0 s0) : (Cond.fieldLink "NarrowingPacker" 18 "NarrowingPacker" "packed" "LNarrowingPacker$Bytes;").before a0 s0 = true := Z _ (List.mem_append_right _ (List.mem_of_getElem? (i := 247) (by decide +kernel)))
theorem u_248 (Z : a_Z a0 s0) : (Cond.fieldLink "NarrowingPacker" 21 "NarrowingPacker" "result" "LNarrowingPacker$Bytes;").before a0 s0 = true := Z _ (List.mem_append_right _ (List.mem_of_getElem? (i := 248) (by decide +kernel)))
theorem u_249 (Z : a_Z a0 s0) : (Cond.fieldLink "NarrowingPacker" 24 "NarrowingPacker" "keptChances" "[I").before a0 s0 = true := Z _ (List.mem_append_right _ (List.mem_of_getElem? (i := 249) (by decide +kernel)))
theorem u_250 (Z : a_Z a0 s0) : (Cond.fieldLink "NarrowingPacker" 31 "NarrowingPacker" "keptPackets" "LNarrowingPacker$PacketList;").before a0 s0 = true := Z _ (List.mem_append_right _ (List.mem_of_getElem? (i := 250) (by decide +kernel)))
theorem u_251 (Z : a_Z a0 s0) : (Cond.fieldLink "NarrowingPacker" 129 "NarrowingPacker" "somethingWasPacked" "Z").before a0 s0 = true := Z _ (List.mem_append_right _ (List.mem_of_getElem? (i := 251) (by decide +kernel)))
theorem u_252 (Z : a_Z a0 s0) : (Cond.fieldLink "NarrowingPacker" 35 "NarrowingPacker" "newPackets" "LNarrowingPacker$PacketList;").before a0 s0 = true := Z _ (List.mem_append_right _ (List.mem_of_getElem? (i := 252) (by decide +kernel)))
theorem u_253 (Z : a_Z a0 s0) : (Cond.fieldLink "NarrowingPacker" 41 "NarrowingPacker" "current" "LNarrowingPacker$Packet;").before a0 s0 = true := Z _ (List.mem_append_right _ (List.mem_of_getElem? (i := 253) (by decide +kernel)))
theorem u_254 (Z : a_Z a0 s0) : (Cond.fieldLink "NarrowingPacker" 48 "NarrowingPacker" "history" "LNarrowingPacker$History;").before a0 s0 = true := Z _ (List.mem_append_right _ (List.mem_of_getElem? (i := 254) (by decide +kernel)))
theorem u_255 (Z : a_Z a0 s0) : (Cond.fieldLink "NarrowingPacker" 64 "NarrowingPacker" "chooser" "LNarrowingPacker$Chooser;").before a0 s0 = true := Z _ (List.mem_append_right _ (List.mem_of_getElem? (i := 255) (by decide +kernel)))
theorem u_256 (Z : a_Z a0 s0) : (Cond.fieldLink "NarrowingPacker" 71 "NarrowingPacker" "writer" "LNarrowingPacker$PacketWriter;").before a0 s0 = true := Z _ (List.mem_append_right _ (List.mem_of_getElem? (i := 256) (by decide +kernel)))
theorem u_257 (Z : a_Z a0 s0) : (Cond.fieldLink "NarrowingPacker" 78 "NarrowingPacker" "reader" "LNarrowingPacker$PacketReader;").before a0 s0 = true := Z _ (List.mem_append_right _ (List.mem_of_getElem? (i := 257) (by decide +kernel)))
theorem u_258 (Z : a_Z a0 s0) : (Cond.laysFinal "NarrowingPacker" "NarrowingPacker" "source" "LNarrowingPacker$Bytes;").before a0 s0 = true := Z _ (List.mem_append_right _ (List.mem_of_getElem? (i := 258) (by decide +kernel)))
theorem u_260 (Z : a_Z a0 s0) : (Cond.laysFinal "NarrowingPacker" "NarrowingPacker" "packed" "LNarrowingPacker$Bytes;").before a0 s0 = true := Z _ (List.mem_append_right _ (List.mem_of_getElem? (i := 260) (by decide +kernel)))
theorem u_262 (Z : a_Z a0 s0) : (Cond.laysFinal "NarrowingPacker" "NarrowingPacker" "result" "LNarrowingPacker$Bytes;").before a0 s0 = true := Z _ (List.mem_append_right _ (List.mem_of_getElem? (i := 262) (by decide +kernel)))
theorem u_264 (Z : a_Z a0 s0) : (Cond.laysFinal "NarrowingPacker" "NarrowingPacker" "keptChances" "[I").before a0 s0 = true := Z _ (List.mem_append_right _ (List.mem_of_getElem? (i := 264) (by decide +kernel)))
theorem u_266 (Z : a_Z a0 s0) : (Cond.lays "NarrowingPacker" "NarrowingPacker" "keptPackets" "LNarrowingPacker$PacketList;").before a0 s0 = true := Z _ (List.mem_append_right _ (List.mem_of_getElem? (i := 266) (by decide +kernel)))
theorem u_268 (Z : a_Z a0 s0) : (Cond.lays "NarrowingPacker" "NarrowingPacker" "somethingWasPacked" "Z").before a0 s0 = true := Z _ (List.mem_append_right _ (List.mem_of_getElem? (i := 268) (by decide +kernel)))
theorem u_270 (Z : a_Z a0 s0) : (Cond.lays "NarrowingPacker" "NarrowingPacker" "newPackets" "LNarrowingPacker$PacketList;").before a0 s0 = true := Z _ (List.mem_append_right _ (List.mem_of_getElem? (i := 270) (by decide +kernel)))
theorem u_272 (Z : a_Z a0 s0) : (Cond.laysFinal "NarrowingPacker" "NarrowingPacker" "current" "LNarrowingPacker$Packet;").before a0 s0 = true := Z _ (List.mem_append_right _ (List.mem_of_getElem? (i := 272) (by decide +kernel)))
theorem u_274 (Z : a_Z a0 s0) : (Cond.laysFinal "NarrowingPacker" "NarrowingPacker" "history" "LNarrowingPacker$History;").before a0 s0 = true := Z _ (List.mem_append_right _ (List.mem_of_getElem? (i := 274) (by decide +kernel)))
theorem u_276 (Z : a_Z a0 s0) : (Cond.laysFinal "NarrowingPacker" "NarrowingPacker" "chooser" "LNarrowingPacker$Chooser;").before a0 s0 = true := Z _ (List.mem_append_right _ (List.mem_of_getElem? (i := 276) (by decide +kernel)))
theorem u_278 (Z : a_Z a0 s0) : (Cond.laysFinal "NarrowingPacker" "NarrowingPacker" "writer" "LNarrowingPacker$PacketWriter;").before a0 s0 = true := Z _ (List.mem_append_right _ (List.mem_of_getElem? (i := 278) (by decide +kernel)))
theorem u_280 (Z : a_Z a0 s0) : (Cond.laysFinal "NarrowingPacker" "NarrowingPacker" "reader" "LNarrowingPacker$PacketReader;").before a0 s0 = true := Z _ (List.mem_append_right _ (List.mem_of_getElem? (i := 280) (by decide +kernel)))
theorem u_283 (Z : a_Z a0 s0) : (Cond.methodLink "NarrowingPackerLaw" 44 y_Np_type).before a0 s0 = true := Z _ (List.mem_append_right _ (List.mem_of_getElem? (i := 283) (by decide +kernel)))
theorem u_284 (Z : a_Z a0 s0) : (Cond.instanceMethod y_Np_type).before a0 s0 = true := Z _ (List.mem_append_right _ (List.mem_of_getElem? (i := 284) (by decide +kernel)))
theorem u_285 (Z : a_Z a0 s0) : (Cond.selects "NarrowingPacker" y_Np_type y_Np_type).before a0 s0 = true := Z _ (List.mem_append_right _ (List.mem_of_getElem? (i := 285) (by decide +kernel)))
theorem u_286 (Z : a_Z a0 s0) : (Cond.code y_Np_type prog_1_method_2_code 2 (Option.some FieldType.boolean)).before a0 s0 = true := Z _ (List.mem_append_right _ (List.mem_of_getElem? (i := 286) (by decide +kernel)))
theorem u_287 (Z : a_Z a0 s0) : (Cond.methodLink "NarrowingPacker" 82 y_By_append).before a0 s0 = true := Z _ (List.mem_append_right _ (List.mem_of_getElem? (i := 287) (by decide +kernel)))
theorem u_288 (Z : a_Z a0 s0) : (Cond.instanceMethod y_By_append).before a0 s0 = true := Z _ (List.mem_append_right _ (List.mem_of_getElem? (i := 288) (by decide +kernel)))
theorem u_289 (Z : a_Z a0 s0) : (Cond.selects "NarrowingPacker$Bytes" y_By_append y_By_append).before a0 s0 = true := Z _ (List.mem_append_right _ (List.mem_of_getElem? (i := 289) (by decide +kernel)))
theorem u_290 (Z : a_Z a0 s0) : (Cond.code y_By_append prog_2_method_4_code 2 (Option.some FieldType.boolean)).before a0 s0 = true := Z _ (List.mem_append_right _ (List.mem_of_getElem? (i := 290) (by decide +kernel)))
theorem u_291 (Z : a_Z a0 s0) : (Cond.methodLinkNest "NarrowingPacker$Bytes" 23 y_Np_isByte "NarrowingPacker").before a0 s0 = true := Z _ (List.mem_append_right _ (List.mem_of_getElem? (i := 291) (by decide +kernel)))
theorem u_292 (Z : a_Z a0 s0) : (Cond.static y_Np_isByte).before a0 s0 = true := Z _ (List.mem_append_right _ (List.mem_of_getElem? (i := 292) (by decide +kernel)))
theorem u_293 (Z : a_Z a0 s0) : (Cond.code y_Np_isByte prog_1_method_16_code 1 (Option.some FieldType.boolean)).before a0 s0 = true := Z _ (List.mem_append_right _ (List.mem_of_getElem? (i := 293) (by decide +kernel)))
theorem u_294 (Z : a_Z a0 s0) : (Cond.methodLink "NarrowingPackerLaw" 49 y_Np_wipe).before a0 s0 = true := Z _ (List.mem_append_right _ (List.mem_of_getElem? (i := 294) (by decide +kernel)))
theorem u_295 (Z : a_Z a0 s0) : (Cond.instanceMethod y_Np_wipe).before a0 s0 = true := Z _ (List.mem_append_right _ (List.mem_of_getElem? (i := 295) (by decide +kernel)))
theorem u_296 (Z : a_Z a0 s0) : (Cond.selects "NarrowingPacker" y_Np_wipe y_Np_wipe).before a0 s0 = true := Z _ (List.mem_append_right _ (List.mem_of_getElem? (i := 296) (by decide +kernel)))
theorem u_297 (Z : a_Z a0 s0) : (Cond.code y_Np_wipe prog_1_method_3_code 1 (Option.some FieldType.int)).before a0 s0 = true := Z _ (List.mem_append_right _ (List.mem_of_getElem? (i := 297) (by decide +kernel)))
theorem u_298 (Z : a_Z a0 s0) : (Cond.methodLink "NarrowingPacker" 86 y_By_shorten).before a0 s0 = true := Z _ (List.mem_append_right _ (List.mem_of_getElem? (i := 298) (by decide +kernel)))
theorem u_299 (Z : a_Z a0 s0) : (Cond.instanceMethod y_By_shorten).before a0 s0 = true := Z _ (List.mem_append_right _ (List.mem_of_getElem? (i := 299) (by decide +kernel)))
theorem u_300 (Z : a_Z a0 s0) : (Cond.selects "NarrowingPacker$Bytes" y_By_shorten y_By_shorten).before a0 s0 = true := Z _ (List.mem_append_right _ (List.mem_of_getElem? (i := 300) (by decide +kernel)))
theorem u_301 (Z : a_Z a0 s0) : (Cond.code y_By_shorten prog_2_method_5_code 3 (Option.some FieldType.int)).before a0 s0 = true := Z _ (List.mem_append_right _ (List.mem_of_getElem? (i := 301) (by decide +kernel)))
theorem u_302 (Z : a_Z a0 s0) : (Cond.methodLink "NarrowingPacker$Bytes" 26 Lib.Math.min.name).before a0 s0 = true := Z _ (List.mem_append_right _ (List.mem_of_getElem? (i := 302) (by decide +kernel)))
theorem u_303 (Z : a_Z a0 s0) : (Cond.methodLink "NarrowingPacker$Bytes" 32 Lib.Math.max.name).before a0 s0 = true := Z _ (List.mem_append_right _ (List.mem_of_getElem? (i := 303) (by decide +kernel)))
theorem u_304 (Z : a_Z a0 s0) : (Cond.methodLink "NarrowingPackerLaw" 60 y_Np_packets).before a0 s0 = true := Z _ (List.mem_append_right _ (List.mem_of_getElem? (i := 304) (by decide +kernel)))
theorem u_305 (Z : a_Z a0 s0) : (Cond.instanceMethod y_Np_packets).before a0 s0 = true := Z _ (List.mem_append_right _ (List.mem_of_getElem? (i := 305) (by decide +kernel)))
theorem u_306 (Z : a_Z a0 s0) : (Cond.selects "NarrowingPacker" y_Np_packets y_Np_packets).before a0 s0 = true := Z _ (List.mem_append_right _ (List.mem_of_getElem? (i := 306) (by decide +kernel)))
theorem u_307 (Z : a_Z a0 s0) : (Cond.code y_Np_packets prog_1_method_5_code 1 (Option.some FieldType.int)).before a0 s0 = true := Z _ (List.mem_append_right _ (List.mem_of_getElem? (i := 307) (by decide +kernel)))
theorem u_308 (Z : a_Z a0 s0) : (Cond.methodLink "NarrowingPackerLaw" 64 y_Np_packet).before a0 s0 = true := Z _ (List.mem_append_right _ (List.mem_of_getElem? (i := 308) (by decide +kernel)))
theorem u_309 (Z : a_Z a0 s0) : (Cond.instanceMethod y_Np_packet).before a0 s0 = true := Z _ (List.mem_append_right _ (List.mem_of_getElem? (i := 309) (by decide +kernel)))
theorem u_310 (Z : a_Z a0 s0) : (Cond.selects "NarrowingPacker" y_Np_packet y_Np_packet).before a0 s0 = true := Z _ (List.mem_append_right _ (List.mem_of_getElem? (i := 310) (by decide +kernel)))
theorem u_311 (Z : a_Z a0 s0) : (Cond.code y_Np_packet prog_1_method_6_code 3 (Option.some FieldType.int)).before a0 s0 = true := Z _ (List.mem_append_right _ (List.mem_of_getElem? (i := 311) (by decide +kernel)))
theorem u_312 (Z : a_Z a0 s0) : (Cond.methodLink "NarrowingPacker" 126 y_Pl_tellOf).before a0 s0 = true := Z _ (List.mem_append_right _ (List.mem_of_getElem? (i := 312) (by decide +kernel)))
theorem u_313 (Z : a_Z a0 s0) : (Cond.instanceMethod y_Pl_tellOf).before a0 s0 = true := Z _ (List.mem_append_right _ (List.mem_of_getElem? (i := 313) (by decide +kernel)))
theorem u_314 (Z : a_Z a0 s0) : (Cond.selects "NarrowingPacker$PacketList" y_Pl_tellOf y_Pl_tellOf).before a0 s0 = true := Z _ (List.mem_append_right _ (List.mem_of_getElem? (i := 314) (by decide +kernel)))
theorem u_315 (Z : a_Z a0 s0) : (Cond.code y_Pl_tellOf prog_9_method_4_code 3 (Option.some FieldType.int)).before a0 s0 = true := Z _ (List.mem_append_right _ (List.mem_of_getElem? (i := 315) (by decide +kernel)))
theorem u_316 (Z : a_Z a0 s0) : (Cond.methodLink "NarrowingPackerLaw" 68 y_Np_chance).before a0 s0 = true := Z _ (List.mem_append_right _ (List.mem_of_getElem? (i := 316) (by decide +kernel)))
theorem u_317 (Z : a_Z a0 s0) : (Cond.instanceMethod y_Np_chance).before a0 s0 = true := Z _ (List.mem_append_right _ (List.mem_of_getElem? (i := 317) (by decide +kernel)))
theorem u_318 (Z : a_Z a0 s0) : (Cond.selects "NarrowingPacker" y_Np_chance y_Np_chance).before a0 s0 = true := Z _ (List.mem_append_right _ (List.mem_of_getElem? (i := 318) (by decide +kernel)))
theorem u_319 (Z : a_Z a0 s0) : (Cond.code y_Np_chance prog_1_method_7_code 3 (Option.some FieldType.int)).before a0 s0 = true := Z _ (List.mem_append_right _ (List.mem_of_getElem? (i := 319) (by decide +kernel)))
theorem u_320 (Z : a_Z a0 s0) : (Cond.methodLink "NarrowingPackerLaw" 72 y_Np_size).before a0 s0 = true := Z _ (List.mem_append_right _ (List.mem_of_getElem? (i := 320) (by decide +kernel)))
theorem u_321 (Z : a_Z a0 s0) : (Cond.instanceMethod y_Np_size).before a0 s0 = true := Z _ (List.mem_append_right _ (List.mem_of_getElem? (i := 321) (by decide +kernel)))
theorem u_322 (Z : a_Z a0 s0) : (Cond.selects "NarrowingPacker" y_Np_size y_Np_size).before a0 s0 = true := Z _ (List.mem_append_right _ (List.mem_of_getElem? (i := 322) (by decide +kernel)))
theorem u_323 (Z : a_Z a0 s0) : (Cond.code y_Np_size prog_1_method_8_code 1 (Option.some FieldType.int)).before a0 s0 = true := Z _ (List.mem_append_right _ (List.mem_of_getElem? (i := 323) (by decide +kernel)))
theorem u_324 (Z : a_Z a0 s0) : (Cond.methodLink "NarrowingPackerLaw" 76 y_Np_at).before a0 s0 = true := Z _ (List.mem_append_right _ (List.mem_of_getElem? (i := 324) (by decide +kernel)))
theorem u_325 (Z : a_Z a0 s0) : (Cond.instanceMethod y_Np_at).before a0 s0 = true := Z _ (List.mem_append_right _ (List.mem_of_getElem? (i := 325) (by decide +kernel)))
theorem u_326 (Z : a_Z a0 s0) : (Cond.selects "NarrowingPacker" y_Np_at y_Np_at).before a0 s0 = true := Z _ (List.mem_append_right _ (List.mem_of_getElem? (i := 326) (by decide +kernel)))
theorem u_327 (Z : a_Z a0 s0) : (Cond.code y_Np_at prog_1_method_9_code 2 (Option.some FieldType.int)).before a0 s0 = true := Z _ (List.mem_append_right _ (List.mem_of_getElem? (i := 327) (by decide +kernel)))
theorem u_328 (Z : a_Z a0 s0) : (Cond.methodLink "NarrowingPacker" 133 y_By_get).before a0 s0 = true := Z _ (List.mem_append_right _ (List.mem_of_getElem? (i := 328) (by decide +kernel)))
theorem u_329 (Z : a_Z a0 s0) : (Cond.instanceMethod y_By_get).before a0 s0 = true := Z _ (List.mem_append_right _ (List.mem_of_getElem? (i := 329) (by decide +kernel)))
theorem u_330 (Z : a_Z a0 s0) : (Cond.selects "NarrowingPacker$Bytes" y_By_get y_By_get).before a0 s0 = true := Z _ (List.mem_append_right _ (List.mem_of_getElem? (i := 330) (by decide +kernel)))
theorem u_331 (Z : a_Z a0 s0) : (Cond.code y_By_get prog_2_method_3_code 2 (Option.some FieldType.int)).before a0 s0 = true := Z _ (List.mem_append_right _ (List.mem_of_getElem? (i := 331) (by decide +kernel)))
theorem u_332 (Z : a_Z a0 s0) : (Cond.methodLink "NarrowingPacker$Bytes" 19 y_By_has).before a0 s0 = true := Z _ (List.mem_append_right _ (List.mem_of_getElem? (i := 332) (by decide +kernel)))
theorem u_333 (Z : a_Z a0 s0) : (Cond.instanceMethod y_By_has).before a0 s0 = true := Z _ (List.mem_append_right _ (List.mem_of_getElem? (i := 333) (by decide +kernel)))
theorem u_334 (Z : a_Z a0 s0) : (Cond.selects "NarrowingPacker$Bytes" y_By_has y_By_has).before a0 s0 = true := Z _ (List.mem_append_right _ (List.mem_of_getElem? (i := 334) (by decide +kernel)))
theorem u_335 (Z : a_Z a0 s0) : (Cond.code y_By_has prog_2_method_2_code 2 (Option.some FieldType.boolean)).before a0 s0 = true := Z _ (List.mem_append_right _ (List.mem_of_getElem? (i := 335) (by decide +kernel)))
theorem u_336 (Z : a_Z a0 s0) : (Cond.methodLink "NarrowingPackerLaw" 80 y_Np_add).before a0 s0 = true := Z _ (List.mem_append_right _ (List.mem_of_getElem? (i := 336) (by decide +kernel)))
theorem u_337 (Z : a_Z a0 s0) : (Cond.instanceMethod y_Np_add).before a0 s0 = true := Z _ (List.mem_append_right _ (List.mem_of_getElem? (i := 337) (by decide +kernel)))
theorem u_338 (Z : a_Z a0 s0) : (Cond.selects "NarrowingPacker" y_Np_add y_Np_add).before a0 s0 = true := Z _ (List.mem_append_right _ (List.mem_of_getElem? (i := 338) (by decide +kernel)))
theorem u_339 (Z : a_Z a0 s0) : (Cond.code y_Np_add prog_1_method_10_code 2 (Option.some FieldType.boolean)).before a0 s0 = true := Z _ (List.mem_append_right _ (List.mem_of_getElem? (i := 339) (by decide +kernel)))
theorem u_340 (Z : a_Z a0 s0) : (Cond.methodLink "NarrowingPackerLaw" 95 y_Np_told).before a0 s0 = true := Z _ (List.mem_append_right _ (List.mem_of_getElem? (i := 340) (by decide +kernel)))
theorem u_341 (Z : a_Z a0 s0) : (Cond.instanceMethod y_Np_told).before a0 s0 = true := Z _ (List.mem_append_right _ (List.mem_of_getElem? (i := 341) (by decide +kernel)))
theorem u_342 (Z : a_Z a0 s0) : (Cond.selects "NarrowingPacker" y_Np_told y_Np_told).before a0 s0 = true := Z _ (List.mem_append_right _ (List.mem_of_getElem? (i := 342) (by decide +kernel)))
theorem u_343 (Z : a_Z a0 s0) : (Cond.code y_Np_told prog_1_method_14_code 1 (Option.some FieldType.int)).before a0 s0 = true := Z _ (List.mem_append_right _ (List.mem_of_getElem? (i := 343) (by decide +kernel)))
theorem u_344 (Z : a_Z a0 s0) : (Cond.methodLink "NarrowingPackerLaw" 99 y_Np_byteAt).before a0 s0 = true := Z _ (List.mem_append_right _ (List.mem_of_getElem? (i := 344) (by decide +kernel)))
theorem u_345 (Z : a_Z a0 s0) : (Cond.instanceMethod y_Np_byteAt).before a0 s0 = true := Z _ (List.mem_append_right _ (List.mem_of_getElem? (i := 345) (by decide +kernel)))
theorem u_346 (Z : a_Z a0 s0) : (Cond.selects "NarrowingPacker" y_Np_byteAt y_Np_byteAt).before a0 s0 = true := Z _ (List.mem_append_right _ (List.mem_of_getElem? (i := 346) (by decide +kernel)))
theorem u_347 (Z : a_Z a0 s0) : (Cond.code y_Np_byteAt prog_1_method_15_code 2 (Option.some FieldType.int)).before a0 s0 = true := Z _ (List.mem_append_right _ (List.mem_of_getElem? (i := 347) (by decide +kernel)))
theorem u_348 (Z : a_Z a0 s0) : (Cond.methodLink "NarrowingPackerLaw" 32 y_La_cell).before a0 s0 = true := Z _ (List.mem_append_right _ (List.mem_of_getElem? (i := 348) (by decide +kernel)))
theorem u_349 (Z : a_Z a0 s0) : (Cond.static y_La_cell).before a0 s0 = true := Z _ (List.mem_append_right _ (List.mem_of_getElem? (i := 349) (by decide +kernel)))
theorem u_350 (Z : a_Z a0 s0) : (Cond.code y_La_cell method_2_code 2 (Option.some FieldType.int)).before a0 s0 = true := Z _ (List.mem_append_right _ (List.mem_of_getElem? (i := 350) (by decide +kernel)))
theorem u_351 (Z : a_Z a0 s0) : (Cond.methodLink "NarrowingPackerLaw" 53 y_La_pack).before a0 s0 = true := Z _ (List.mem_append_right _ (List.mem_of_getElem? (i := 351) (by decide +kernel)))
theorem u_352 (Z : a_Z a0 s0) : (Cond.static y_La_pack).before a0 s0 = true := Z _ (List.mem_append_right _ (List.mem_of_getElem? (i := 352) (by decide +kernel)))
theorem u_353 (Z : a_Z a0 s0) : (Cond.codeWith y_La_pack method_3_code 3 (Option.some FieldType.int) [(0, 8, 11, 13)]).before a0 s0 = true := Z _ (List.mem_append_right _ (List.mem_of_getElem? (i := 353) (by decide +kernel)))
theorem u_354 (Z : a_Z a0 s0) : (Cond.classLink "NarrowingPackerLaw" 13 "java/lang/IllegalStateException").before a0 s0 = true := Z _ (List.mem_append_right _ (List.mem_of_getElem? (i := 354) (by decide +kernel)))
theorem u_355 (Z : a_Z a0 s0) : (Cond.methodLink "NarrowingPackerLaw" 7 y_Np_pack).before a0 s0 = true := Z _ (List.mem_append_right _ (List.mem_of_getElem? (i := 355) (by decide +kernel)))
theorem u_356 (Z : a_Z a0 s0) : (Cond.instanceMethod y_Np_pack).before a0 s0 = true := Z _ (List.mem_append_right _ (List.mem_of_getElem? (i := 356) (by decide +kernel)))
theorem u_357 (Z : a_Z a0 s0) : (Cond.selects "NarrowingPacker" y_Np_pack y_Np_pack).before a0 s0 = true := Z _ (List.mem_append_right _ (List.mem_of_getElem? (i := 357) (by decide +kernel)))
theorem u_358 (Z : a_Z a0 s0) : (Cond.code y_Np_pack prog_1_method_4_code 1 (Option.some FieldType.int)).before a0 s0 = true := Z _ (List.mem_append_right _ (List.mem_of_getElem? (i := 358) (by decide +kernel)))
theorem u_359 (Z : a_Z a0 s0) : (Cond.methodLink "NarrowingPacker" 90 y_Hi_restart).before a0 s0 = true := Z _ (List.mem_append_right _ (List.mem_of_getElem? (i := 359) (by decide +kernel)))
theorem u_360 (Z : a_Z a0 s0) : (Cond.instanceMethod y_Hi_restart).before a0 s0 = true := Z _ (List.mem_append_right _ (List.mem_of_getElem? (i := 360) (by decide +kernel)))
theorem u_361 (Z : a_Z a0 s0) : (Cond.selects "NarrowingPacker$History" y_Hi_restart y_Hi_restart).before a0 s0 = true := Z _ (List.mem_append_right _ (List.mem_of_getElem? (i := 361) (by decide +kernel)))
theorem u_362 (Z : a_Z a0 s0) : (Cond.code y_Hi_restart prog_6_method_2_code 1 (Option.none : Option FieldType)).before a0 s0 = true := Z _ (List.mem_append_right _ (List.mem_of_getElem? (i := 362) (by decide +kernel)))
theorem u_363 (Z : a_Z a0 s0) : (Cond.methodLink "NarrowingPacker$History" 24 y_By_shorten).before a0 s0 = true := Z _ (List.mem_append_right _ (List.mem_of_getElem? (i := 363) (by decide +kernel)))
theorem u_364 (Z : a_Z a0 s0) : (Cond.methodLink "NarrowingPacker$History" 28 y_Ar_fill).before a0 s0 = true := Z _ (List.mem_append_right _ (List.mem_of_getElem? (i := 364) (by decide +kernel)))
theorem u_365 (Z : a_Z a0 s0) : (Cond.static y_Ar_fill).before a0 s0 = true := Z _ (List.mem_append_right _ (List.mem_of_getElem? (i := 365) (by decide +kernel)))
theorem u_366 (Z : a_Z a0 s0) : (Cond.code y_Ar_fill prog_23_method_103_code 4 (Option.none : Option FieldType)).before a0 s0 = true := Z _ (List.mem_append_right _ (List.mem_of_getElem? (i := 366) (by decide +kernel)))
theorem u_367 (Z : a_Z a0 s0) : (Cond.methodLink "NarrowingPacker" 93 y_Pl_clear).before a0 s0 = true := Z _ (List.mem_append_right _ (List.mem_of_getElem? (i := 367) (by decide +kernel)))
theorem u_368 (Z : a_Z a0 s0) : (Cond.instanceMethod y_Pl_clear).before a0 s0 = true := Z _ (List.mem_append_right _ (List.mem_of_getElem? (i := 368) (by decide +kernel)))
theorem u_369 (Z : a_Z a0 s0) : (Cond.selects "NarrowingPacker$PacketList" y_Pl_clear y_Pl_clear).before a0 s0 = true := Z _ (List.mem_append_right _ (List.mem_of_getElem? (i := 369) (by decide +kernel)))
theorem u_370 (Z : a_Z a0 s0) : (Cond.code y_Pl_clear prog_9_method_2_code 1 (Option.none : Option FieldType)).before a0 s0 = true := Z _ (List.mem_append_right _ (List.mem_of_getElem? (i := 370) (by decide +kernel)))
theorem u_371 (Z : a_Z a0 s0) : (Cond.methodLink "NarrowingPacker" 100 y_Na_restart).before a0 s0 = true := Z _ (List.mem_append_right _ (List.mem_of_getElem? (i := 371) (by decide +kernel)))
theorem u_372 (Z : a_Z a0 s0) : (Cond.instanceMethod y_Na_restart).before a0 s0 = true := Z _ (List.mem_append_right _ (List.mem_of_getElem? (i := 372) (by decide +kernel)))
theorem u_373 (Z : a_Z a0 s0) : (Cond.selects "NarrowingPacker$Narrower" y_Na_restart y_Na_restart).before a0 s0 = true := Z _ (List.mem_append_right _ (List.mem_of_getElem? (i := 373) (by decide +kernel)))
theorem u_374 (Z : a_Z a0 s0) : (Cond.code y_Na_restart prog_7_method_2_code 1 (Option.none : Option FieldType)).before a0 s0 = true := Z _ (List.mem_append_right _ (List.mem_of_getElem? (i := 374) (by decide +kernel)))
theorem u_375 (Z : a_Z a0 s0) : (Cond.methodLink "NarrowingPacker$Narrower" 22 y_Ch_forget).before a0 s0 = true := Z _ (List.mem_append_right _ (List.mem_of_getElem? (i := 375) (by decide +kernel)))
theorem u_376 (Z : a_Z a0 s0) : (Cond.instanceMethod y_Ch_forget).before a0 s0 = true := Z _ (List.mem_append_right _ (List.mem_of_getElem? (i := 376) (by decide +kernel)))
theorem u_377 (Z : a_Z a0 s0) : (Cond.selects "NarrowingPacker$Chances" y_Ch_forget y_Ch_forget).before a0 s0 = true := Z _ (List.mem_append_right _ (List.mem_of_getElem? (i := 377) (by decide +kernel)))
theorem u_378 (Z : a_Z a0 s0) : (Cond.code y_Ch_forget prog_3_method_2_code 1 (Option.none : Option FieldType)).before a0 s0 = true := Z _ (List.mem_append_right _ (List.mem_of_getElem? (i := 378) (by decide +kernel)))
theorem u_379 (Z : a_Z a0 s0) : (Cond.methodLink "NarrowingPacker$Chances" 15 y_Ar_fill).before a0 s0 = true := Z _ (List.mem_append_right _ (List.mem_of_getElem? (i := 379) (by decide +kernel)))
theorem u_380 (Z : a_Z a0 s0) : (Cond.methodLink "NarrowingPacker$Narrower" 25 y_Ar_fill).before a0 s0 = true := Z _ (List.mem_append_right _ (List.mem_of_getElem? (i := 380) (by decide +kernel)))
theorem u_381 (Z : a_Z a0 s0) : (Cond.constantLong "NarrowingPacker$Narrower" 35 (4294967295 : Int64)).before a0 s0 = true := Z _ (List.mem_append_right _ (List.mem_of_getElem? (i := 381) (by decide +kernel)))
theorem u_382 (Z : a_Z a0 s0) : (Cond.methodLink "NarrowingPacker" 103 y_Np_writeSource).before a0 s0 = true := Z _ (List.mem_append_right _ (List.mem_of_getElem? (i := 382) (by decide +kernel)))
theorem u_384 (Z : a_Z a0 s0) : (Cond.instanceMethod y_Np_writeSource).before a0 s0 = true := Z _ (List.mem_append_right _ (List.mem_of_getElem? (i := 384) (by decide +kernel)))
theorem u_385 (Z : a_Z a0 s0) : (Cond.code y_Np_writeSource prog_1_method_17_code 2 (Option.none : Option FieldType)).before a0 s0 = true := Z _ (List.mem_append_right _ (List.mem_of_getElem? (i := 385) (by decide +kernel)))
theorem u_386 (Z : a_Z a0 s0) : (Cond.methodLink "NarrowingPacker" 190 y_Co_choose).before a0 s0 = true := Z _ (List.mem_append_right _ (List.mem_of_getElem? (i := 386) (by decide +kernel)))
theorem u_387 (Z : a_Z a0 s0) : (Cond.instanceMethod y_Co_choose).before a0 s0 = true := Z _ (List.mem_append_right _ (List.mem_of_getElem? (i := 387) (by decide +kernel)))
theorem u_388 (Z : a_Z a0 s0) : (Cond.selects "NarrowingPacker$Chooser" y_Co_choose y_Co_choose).before a0 s0 = true := Z _ (List.mem_append_right _ (List.mem_of_getElem? (i := 388) (by decide +kernel)))
theorem u_389 (Z : a_Z a0 s0) : (Cond.code y_Co_choose prog_4_method_2_code 6 (Option.none : Option FieldType)).before a0 s0 = true := Z _ (List.mem_append_right _ (List.mem_of_getElem? (i := 389) (by decide +kernel)))
theorem u_390 (Z : a_Z a0 s0) : (Cond.methodLink "NarrowingPacker$Chooser" 30 y_Co_findMatch).before a0 s0 = true := Z _ (List.mem_append_right _ (List.mem_of_getElem? (i := 390) (by decide +kernel)))
theorem u_392 (Z : a_Z a0 s0) : (Cond.instanceMethod y_Co_findMatch).before a0 s0 = true := Z _ (List.mem_append_right _ (List.mem_of_getElem? (i := 392) (by decide +kernel)))
theorem u_393 (Z : a_Z a0 s0) : (Cond.code y_Co_findMatch prog_4_method_3_code 6 (Option.none : Option FieldType)).before a0 s0 = true := Z _ (List.mem_append_right _ (List.mem_of_getElem? (i := 393) (by decide +kernel)))
theorem u_394 (Z : a_Z a0 s0) : (Cond.methodLink "NarrowingPacker$Chooser" 60 y_Co_agreeing).before a0 s0 = true := Z _ (List.mem_append_right _ (List.mem_of_getElem? (i := 394) (by decide +kernel)))
theorem u_395 (Z : a_Z a0 s0) : (Cond.static y_Co_agreeing).before a0 s0 = true := Z _ (List.mem_append_right _ (List.mem_of_getElem? (i := 395) (by decide +kernel)))
theorem u_396 (Z : a_Z a0 s0) : (Cond.code y_Co_agreeing prog_4_method_5_code 4 (Option.some FieldType.int)).before a0 s0 = true := Z _ (List.mem_append_right _ (List.mem_of_getElem? (i := 396) (by decide +kernel)))
theorem u_397 (Z : a_Z a0 s0) : (Cond.methodLink "NarrowingPacker$Chooser" 34 y_Co_findEcho).before a0 s0 = true := Z _ (List.mem_append_right _ (List.mem_of_getElem? (i := 397) (by decide +kernel)))
theorem u_399 (Z : a_Z a0 s0) : (Cond.instanceMethod y_Co_findEcho).before a0 s0 = true := Z _ (List.mem_append_right _ (List.mem_of_getElem? (i := 399) (by decide +kernel)))
theorem u_400 (Z : a_Z a0 s0) : (Cond.code y_Co_findEcho prog_4_method_4_code 6 (Option.none : Option FieldType)).before a0 s0 = true := Z _ (List.mem_append_right _ (List.mem_of_getElem? (i := 400) (by decide +kernel)))
theorem u_401 (Z : a_Z a0 s0) : (Cond.methodLink "NarrowingPacker$Chooser" 47 y_Pa_becomeEcho).before a0 s0 = true := Z _ (List.mem_append_right _ (List.mem_of_getElem? (i := 401) (by decide +kernel)))
theorem u_402 (Z : a_Z a0 s0) : (Cond.instanceMethod y_Pa_becomeEcho).before a0 s0 = true := Z _ (List.mem_append_right _ (List.mem_of_getElem? (i := 402) (by decide +kernel)))
theorem u_403 (Z : a_Z a0 s0) : (Cond.selects "NarrowingPacker$Packet" y_Pa_becomeEcho y_Pa_becomeEcho).before a0 s0 = true := Z _ (List.mem_append_right _ (List.mem_of_getElem? (i := 403) (by decide +kernel)))
theorem u_404 (Z : a_Z a0 s0) : (Cond.code y_Pa_becomeEcho prog_8_method_4_code 4 (Option.none : Option FieldType)).before a0 s0 = true := Z _ (List.mem_append_right _ (List.mem_of_getElem? (i := 404) (by decide +kernel)))
theorem u_405 (Z : a_Z a0 s0) : (Cond.methodLink "NarrowingPacker$Packet" 9 y_Pa_become).before a0 s0 = true := Z _ (List.mem_append_right _ (List.mem_of_getElem? (i := 405) (by decide +kernel)))
theorem u_407 (Z : a_Z a0 s0) : (Cond.instanceMethod y_Pa_become).before a0 s0 = true := Z _ (List.mem_append_right _ (List.mem_of_getElem? (i := 407) (by decide +kernel)))
theorem u_408 (Z : a_Z a0 s0) : (Cond.code y_Pa_become prog_8_method_7_code 4 (Option.none : Option FieldType)).before a0 s0 = true := Z _ (List.mem_append_right _ (List.mem_of_getElem? (i := 408) (by decide +kernel)))
theorem u_409 (Z : a_Z a0 s0) : (Cond.methodLink "NarrowingPacker$Chooser" 56 y_Pa_becomeMatch).before a0 s0 = true := Z _ (List.mem_append_right _ (List.mem_of_getElem? (i := 409) (by decide +kernel)))
theorem u_410 (Z : a_Z a0 s0) : (Cond.instanceMethod y_Pa_becomeMatch).before a0 s0 = true := Z _ (List.mem_append_right _ (List.mem_of_getElem? (i := 410) (by decide +kernel)))
theorem u_411 (Z : a_Z a0 s0) : (Cond.selects "NarrowingPacker$Packet" y_Pa_becomeMatch y_Pa_becomeMatch).before a0 s0 = true := Z _ (List.mem_append_right _ (List.mem_of_getElem? (i := 411) (by decide +kernel)))
theorem u_412 (Z : a_Z a0 s0) : (Cond.code y_Pa_becomeMatch prog_8_method_3_code 3 (Option.none : Option FieldType)).before a0 s0 = true := Z _ (List.mem_append_right _ (List.mem_of_getElem? (i := 412) (by decide +kernel)))
theorem u_413 (Z : a_Z a0 s0) : (Cond.methodLink "NarrowingPacker$Chooser" 64 y_Pa_becomeShort).before a0 s0 = true := Z _ (List.mem_append_right _ (List.mem_of_getElem? (i := 413) (by decide +kernel)))
theorem u_414 (Z : a_Z a0 s0) : (Cond.instanceMethod y_Pa_becomeShort).before a0 s0 = true := Z _ (List.mem_append_right _ (List.mem_of_getElem? (i := 414) (by decide +kernel)))
theorem u_415 (Z : a_Z a0 s0) : (Cond.selects "NarrowingPacker$Packet" y_Pa_becomeShort y_Pa_becomeShort).before a0 s0 = true := Z _ (List.mem_append_right _ (List.mem_of_getElem? (i := 415) (by decide +kernel)))
theorem u_416 (Z : a_Z a0 s0) : (Cond.code y_Pa_becomeShort prog_8_method_5_code 2 (Option.none : Option FieldType)).before a0 s0 = true := Z _ (List.mem_append_right _ (List.mem_of_getElem? (i := 416) (by decide +kernel)))
theorem u_417 (Z : a_Z a0 s0) : (Cond.methodLink "NarrowingPacker$Chooser" 68 y_By_get).before a0 s0 = true := Z _ (List.mem_append_right _ (List.mem_of_getElem? (i := 417) (by decide +kernel)))
theorem u_418 (Z : a_Z a0 s0) : (Cond.methodLink "NarrowingPacker$Chooser" 72 y_Pa_becomeLiteral).before a0 s0 = true := Z _ (List.mem_append_right _ (List.mem_of_getElem? (i := 418) (by decide +kernel)))
theorem u_419 (Z : a_Z a0 s0) : (Cond.instanceMethod y_Pa_becomeLiteral).before a0 s0 = true := Z _ (List.mem_append_right _ (List.mem_of_getElem? (i := 419) (by decide +kernel)))
theorem u_420 (Z : a_Z a0 s0) : (Cond.selects "NarrowingPacker$Packet" y_Pa_becomeLiteral y_Pa_becomeLiteral).before a0 s0 = true := Z _ (List.mem_append_right _ (List.mem_of_getElem? (i := 420) (by decide +kernel)))
theorem u_421 (Z : a_Z a0 s0) : (Cond.code y_Pa_becomeLiteral prog_8_method_2_code 2 (Option.none : Option FieldType)).before a0 s0 = true := Z _ (List.mem_append_right _ (List.mem_of_getElem? (i := 421) (by decide +kernel)))
theorem u_422 (Z : a_Z a0 s0) : (Cond.methodLink "NarrowingPacker" 194 y_Wr_writePacket).before a0 s0 = true := Z _ (List.mem_append_right _ (List.mem_of_getElem? (i := 422) (by decide +kernel)))
theorem u_423 (Z : a_Z a0 s0) : (Cond.instanceMethod y_Wr_writePacket).before a0 s0 = true := Z _ (List.mem_append_right _ (List.mem_of_getElem? (i := 423) (by decide +kernel)))
theorem u_424 (Z : a_Z a0 s0) : (Cond.selects "NarrowingPacker$PacketWriter" y_Wr_writePacket y_Wr_writePacket).before a0 s0 = true := Z _ (List.mem_append_right _ (List.mem_of_getElem? (i := 424) (by decide +kernel)))
theorem u_425 (Z : a_Z a0 s0) : (Cond.code y_Wr_writePacket prog_11_method_2_code 5 (Option.none : Option FieldType)).before a0 s0 = true := Z _ (List.mem_append_right _ (List.mem_of_getElem? (i := 425) (by decide +kernel)))
theorem u_426 (Z : a_Z a0 s0) : (Cond.methodLink "NarrowingPacker$PacketWriter" 29 y_Na_writeBit).before a0 s0 = true := Z _ (List.mem_append_right _ (List.mem_of_getElem? (i := 426) (by decide +kernel)))
theorem u_427 (Z : a_Z a0 s0) : (Cond.instanceMethod y_Na_writeBit).before a0 s0 = true := Z _ (List.mem_append_right _ (List.mem_of_getElem? (i := 427) (by decide +kernel)))
theorem u_428 (Z : a_Z a0 s0) : (Cond.selects "NarrowingPacker$Narrower" y_Na_writeBit y_Na_writeBit).before a0 s0 = true := Z _ (List.mem_append_right _ (List.mem_of_getElem? (i := 428) (by decide +kernel)))
theorem u_429 (Z : a_Z a0 s0) : (Cond.code y_Na_writeBit prog_7_method_4_code 5 (Option.none : Option FieldType)).before a0 s0 = true := Z _ (List.mem_append_right _ (List.mem_of_getElem? (i := 429) (by decide +kernel)))
theorem u_430 (Z : a_Z a0 s0) : (Cond.methodLink "NarrowingPacker$Narrower" 41 y_Ch_boundIn).before a0 s0 = true := Z _ (List.mem_append_right _ (List.mem_of_getElem? (i := 430) (by decide +kernel)))
theorem u_431 (Z : a_Z a0 s0) : (Cond.instanceMethod y_Ch_boundIn).before a0 s0 = true := Z _ (List.mem_append_right _ (List.mem_of_getElem? (i := 431) (by decide +kernel)))
theorem u_432 (Z : a_Z a0 s0) : (Cond.selects "NarrowingPacker$Chances" y_Ch_boundIn y_Ch_boundIn).before a0 s0 = true := Z _ (List.mem_append_right _ (List.mem_of_getElem? (i := 432) (by decide +kernel)))
theorem u_433 (Z : a_Z a0 s0) : (Cond.code y_Ch_boundIn prog_3_method_3_code 4 (Option.some FieldType.long)).before a0 s0 = true := Z _ (List.mem_append_right _ (List.mem_of_getElem? (i := 433) (by decide +kernel)))
theorem u_434 (Z : a_Z a0 s0) : (Cond.methodLink "NarrowingPacker$Narrower" 45 y_Na_raiseLow).before a0 s0 = true := Z _ (List.mem_append_right _ (List.mem_of_getElem? (i := 434) (by decide +kernel)))
theorem u_436 (Z : a_Z a0 s0) : (Cond.instanceMethod y_Na_raiseLow).before a0 s0 = true := Z _ (List.mem_append_right _ (List.mem_of_getElem? (i := 436) (by decide +kernel)))
theorem u_437 (Z : a_Z a0 s0) : (Cond.code y_Na_raiseLow prog_7_method_7_code 6 (Option.none : Option FieldType)).before a0 s0 = true := Z _ (List.mem_append_right _ (List.mem_of_getElem? (i := 437) (by decide +kernel)))
theorem u_438 (Z : a_Z a0 s0) : (Cond.constantLong "NarrowingPacker$Narrower" 58 (255 : Int64)).before a0 s0 = true := Z _ (List.mem_append_right _ (List.mem_of_getElem? (i := 438) (by decide +kernel)))
theorem u_439 (Z : a_Z a0 s0) : (Cond.methodLink "NarrowingPacker$Narrower" 49 y_Ch_learn).before a0 s0 = true := Z _ (List.mem_append_right _ (List.mem_of_getElem? (i := 439) (by decide +kernel)))
theorem u_440 (Z : a_Z a0 s0) : (Cond.instanceMethod y_Ch_learn).before a0 s0 = true := Z _ (List.mem_append_right _ (List.mem_of_getElem? (i := 440) (by decide +kernel)))
theorem u_441 (Z : a_Z a0 s0) : (Cond.selects "NarrowingPacker$Chances" y_Ch_learn y_Ch_learn).before a0 s0 = true := Z _ (List.mem_append_right _ (List.mem_of_getElem? (i := 441) (by decide +kernel)))
theorem u_442 (Z : a_Z a0 s0) : (Cond.code y_Ch_learn prog_3_method_4_code 4 (Option.none : Option FieldType)).before a0 s0 = true := Z _ (List.mem_append_right _ (List.mem_of_getElem? (i := 442) (by decide +kernel)))
theorem u_443 (Z : a_Z a0 s0) : (Cond.constantLong "NarrowingPacker$Narrower" 53 (16777216 : Int64)).before a0 s0 = true := Z _ (List.mem_append_right _ (List.mem_of_getElem? (i := 443) (by decide +kernel)))
theorem u_444 (Z : a_Z a0 s0) : (Cond.methodLink "NarrowingPacker$PacketWriter" 36 y_Wr_writeLiteral).before a0 s0 = true := Z _ (List.mem_append_right _ (List.mem_of_getElem? (i := 444) (by decide +kernel)))
theorem u_446 (Z : a_Z a0 s0) : (Cond.instanceMethod y_Wr_writeLiteral).before a0 s0 = true := Z _ (List.mem_append_right _ (List.mem_of_getElem? (i := 446) (by decide +kernel)))
theorem u_447 (Z : a_Z a0 s0) : (Cond.code y_Wr_writeLiteral prog_11_method_3_code 11 (Option.none : Option FieldType)).before a0 s0 = true := Z _ (List.mem_append_right _ (List.mem_of_getElem? (i := 447) (by decide +kernel)))
theorem u_448 (Z : a_Z a0 s0) : (Cond.methodLink "NarrowingPacker$PacketWriter" 51 y_Hi_placeOfLiterals).before a0 s0 = true := Z _ (List.mem_append_right _ (List.mem_of_getElem? (i := 448) (by decide +kernel)))
theorem u_449 (Z : a_Z a0 s0) : (Cond.instanceMethod y_Hi_placeOfLiterals).before a0 s0 = true := Z _ (List.mem_append_right _ (List.mem_of_getElem? (i := 449) (by decide +kernel)))
theorem u_450 (Z : a_Z a0 s0) : (Cond.selects "NarrowingPacker$History" y_Hi_placeOfLiterals y_Hi_placeOfLiterals).before a0 s0 = true := Z _ (List.mem_append_right _ (List.mem_of_getElem? (i := 450) (by decide +kernel)))
theorem u_451 (Z : a_Z a0 s0) : (Cond.code y_Hi_placeOfLiterals prog_6_method_6_code 2 (Option.some FieldType.int)).before a0 s0 = true := Z _ (List.mem_append_right _ (List.mem_of_getElem? (i := 451) (by decide +kernel)))
theorem u_452 (Z : a_Z a0 s0) : (Cond.methodLink "NarrowingPacker$History" 75 y_Hi_byteBefore).before a0 s0 = true := Z _ (List.mem_append_right _ (List.mem_of_getElem? (i := 452) (by decide +kernel)))
theorem u_453 (Z : a_Z a0 s0) : (Cond.instanceMethod y_Hi_byteBefore).before a0 s0 = true := Z _ (List.mem_append_right _ (List.mem_of_getElem? (i := 453) (by decide +kernel)))
theorem u_454 (Z : a_Z a0 s0) : (Cond.selects "NarrowingPacker$History" y_Hi_byteBefore y_Hi_byteBefore).before a0 s0 = true := Z _ (List.mem_append_right _ (List.mem_of_getElem? (i := 454) (by decide +kernel)))
theorem u_455 (Z : a_Z a0 s0) : (Cond.code y_Hi_byteBefore prog_6_method_4_code 3 (Option.some FieldType.int)).before a0 s0 = true := Z _ (List.mem_append_right _ (List.mem_of_getElem? (i := 455) (by decide +kernel)))
theorem u_456 (Z : a_Z a0 s0) : (Cond.methodLink "NarrowingPacker$PacketWriter" 59 y_Hi_byteBefore).before a0 s0 = true := Z _ (List.mem_append_right _ (List.mem_of_getElem? (i := 456) (by decide +kernel)))
theorem u_457 (Z : a_Z a0 s0) : (Cond.methodLink "NarrowingPacker$PacketWriter" 63 y_Hi_isBehindACopy).before a0 s0 = true := Z _ (List.mem_append_right _ (List.mem_of_getElem? (i := 457) (by decide +kernel)))
theorem u_458 (Z : a_Z a0 s0) : (Cond.instanceMethod y_Hi_isBehindACopy).before a0 s0 = true := Z _ (List.mem_append_right _ (List.mem_of_getElem? (i := 458) (by decide +kernel)))
theorem u_459 (Z : a_Z a0 s0) : (Cond.selects "NarrowingPacker$History" y_Hi_isBehindACopy y_Hi_isBehindACopy).before a0 s0 = true := Z _ (List.mem_append_right _ (List.mem_of_getElem? (i := 459) (by decide +kernel)))
theorem u_460 (Z : a_Z a0 s0) : (Cond.code y_Hi_isBehindACopy prog_6_method_5_code 1 (Option.some FieldType.boolean)).before a0 s0 = true := Z _ (List.mem_append_right _ (List.mem_of_getElem? (i := 460) (by decide +kernel)))
theorem u_461 (Z : a_Z a0 s0) : (Cond.methodLink "NarrowingPacker$PacketWriter" 40 y_Wr_writeMatch).before a0 s0 = true := Z _ (List.mem_append_right _ (List.mem_of_getElem? (i := 461) (by decide +kernel)))
theorem u_463 (Z : a_Z a0 s0) : (Cond.instanceMethod y_Wr_writeMatch).before a0 s0 = true := Z _ (List.mem_append_right _ (List.mem_of_getElem? (i := 463) (by decide +kernel)))
theorem u_464 (Z : a_Z a0 s0) : (Cond.code y_Wr_writeMatch prog_11_method_4_code 7 (Option.none : Option FieldType)).before a0 s0 = true := Z _ (List.mem_append_right _ (List.mem_of_getElem? (i := 464) (by decide +kernel)))
theorem u_465 (Z : a_Z a0 s0) : (Cond.methodLink "NarrowingPacker$PacketWriter" 73 y_Wr_bitsBelowHighest).before a0 s0 = true := Z _ (List.mem_append_right _ (List.mem_of_getElem? (i := 465) (by decide +kernel)))
theorem u_466 (Z : a_Z a0 s0) : (Cond.static y_Wr_bitsBelowHighest).before a0 s0 = true := Z _ (List.mem_append_right _ (List.mem_of_getElem? (i := 466) (by decide +kernel)))
theorem u_467 (Z : a_Z a0 s0) : (Cond.code y_Wr_bitsBelowHighest prog_11_method_8_code 3 (Option.some FieldType.int)).before a0 s0 = true := Z _ (List.mem_append_right _ (List.mem_of_getElem? (i := 467) (by decide +kernel)))
theorem u_468 (Z : a_Z a0 s0) : (Cond.methodLink "NarrowingPacker$PacketWriter" 76 y_Wr_writeLength).before a0 s0 = true := Z _ (List.mem_append_right _ (List.mem_of_getElem? (i := 468) (by decide +kernel)))
theorem u_470 (Z : a_Z a0 s0) : (Cond.instanceMethod y_Wr_writeLength).before a0 s0 = true := Z _ (List.mem_append_right _ (List.mem_of_getElem? (i := 470) (by decide +kernel)))
theorem u_471 (Z : a_Z a0 s0) : (Cond.code y_Wr_writeLength prog_11_method_7_code 3 (Option.none : Option FieldType)).before a0 s0 = true := Z _ (List.mem_append_right _ (List.mem_of_getElem? (i := 471) (by decide +kernel)))
theorem u_472 (Z : a_Z a0 s0) : (Cond.methodLink "NarrowingPacker$PacketWriter" 85 y_Na_writeTree).before a0 s0 = true := Z _ (List.mem_append_right _ (List.mem_of_getElem? (i := 472) (by decide +kernel)))
theorem u_473 (Z : a_Z a0 s0) : (Cond.instanceMethod y_Na_writeTree).before a0 s0 = true := Z _ (List.mem_append_right _ (List.mem_of_getElem? (i := 473) (by decide +kernel)))
theorem u_474 (Z : a_Z a0 s0) : (Cond.selects "NarrowingPacker$Narrower" y_Na_writeTree y_Na_writeTree).before a0 s0 = true := Z _ (List.mem_append_right _ (List.mem_of_getElem? (i := 474) (by decide +kernel)))
theorem u_475 (Z : a_Z a0 s0) : (Cond.code y_Na_writeTree prog_7_method_5_code 7 (Option.none : Option FieldType)).before a0 s0 = true := Z _ (List.mem_append_right _ (List.mem_of_getElem? (i := 475) (by decide +kernel)))
theorem u_476 (Z : a_Z a0 s0) : (Cond.methodLink "NarrowingPacker$Narrower" 55 y_Na_writeBit).before a0 s0 = true := Z _ (List.mem_append_right _ (List.mem_of_getElem? (i := 476) (by decide +kernel)))
theorem u_477 (Z : a_Z a0 s0) : (Cond.methodLink "NarrowingPacker$PacketWriter" 79 Lib.Math.min.name).before a0 s0 = true := Z _ (List.mem_append_right _ (List.mem_of_getElem? (i := 477) (by decide +kernel)))
theorem u_478 (Z : a_Z a0 s0) : (Cond.methodLink "NarrowingPacker$PacketWriter" 89 y_Na_writeRow).before a0 s0 = true := Z _ (List.mem_append_right _ (List.mem_of_getElem? (i := 478) (by decide +kernel)))
theorem u_479 (Z : a_Z a0 s0) : (Cond.instanceMethod y_Na_writeRow).before a0 s0 = true := Z _ (List.mem_append_right _ (List.mem_of_getElem? (i := 479) (by decide +kernel)))
theorem u_480 (Z : a_Z a0 s0) : (Cond.selects "NarrowingPacker$Narrower" y_Na_writeRow y_Na_writeRow).before a0 s0 = true := Z _ (List.mem_append_right _ (List.mem_of_getElem? (i := 480) (by decide +kernel)))
theorem u_481 (Z : a_Z a0 s0) : (Cond.code y_Na_writeRow prog_7_method_6_code 7 (Option.none : Option FieldType)).before a0 s0 = true := Z _ (List.mem_append_right _ (List.mem_of_getElem? (i := 481) (by decide +kernel)))
theorem u_482 (Z : a_Z a0 s0) : (Cond.methodLink "NarrowingPacker$PacketWriter" 44 y_Wr_writeEnd).before a0 s0 = true := Z _ (List.mem_append_right _ (List.mem_of_getElem? (i := 482) (by decide +kernel)))
theorem u_484 (Z : a_Z a0 s0) : (Cond.instanceMethod y_Wr_writeEnd).before a0 s0 = true := Z _ (List.mem_append_right _ (List.mem_of_getElem? (i := 484) (by decide +kernel)))
theorem u_485 (Z : a_Z a0 s0) : (Cond.code y_Wr_writeEnd prog_11_method_5_code 1 (Option.none : Option FieldType)).before a0 s0 = true := Z _ (List.mem_append_right _ (List.mem_of_getElem? (i := 485) (by decide +kernel)))
theorem u_486 (Z : a_Z a0 s0) : (Cond.methodLink "NarrowingPacker$PacketWriter" 47 y_Wr_writeRepeat).before a0 s0 = true := Z _ (List.mem_append_right _ (List.mem_of_getElem? (i := 486) (by decide +kernel)))
theorem u_488 (Z : a_Z a0 s0) : (Cond.instanceMethod y_Wr_writeRepeat).before a0 s0 = true := Z _ (List.mem_append_right _ (List.mem_of_getElem? (i := 488) (by decide +kernel)))
theorem u_489 (Z : a_Z a0 s0) : (Cond.code y_Wr_writeRepeat prog_11_method_6_code 3 (Option.none : Option FieldType)).before a0 s0 = true := Z _ (List.mem_append_right _ (List.mem_of_getElem? (i := 489) (by decide +kernel)))
theorem u_490 (Z : a_Z a0 s0) : (Cond.methodLink "NarrowingPacker" 176 y_Hi_tell).before a0 s0 = true := Z _ (List.mem_append_right _ (List.mem_of_getElem? (i := 490) (by decide +kernel)))
theorem u_491 (Z : a_Z a0 s0) : (Cond.instanceMethod y_Hi_tell).before a0 s0 = true := Z _ (List.mem_append_right _ (List.mem_of_getElem? (i := 491) (by decide +kernel)))
theorem u_492 (Z : a_Z a0 s0) : (Cond.selects "NarrowingPacker$History" y_Hi_tell y_Hi_tell).before a0 s0 = true := Z _ (List.mem_append_right _ (List.mem_of_getElem? (i := 492) (by decide +kernel)))
theorem u_493 (Z : a_Z a0 s0) : (Cond.code y_Hi_tell prog_6_method_3_code 2 (Option.none : Option FieldType)).before a0 s0 = true := Z _ (List.mem_append_right _ (List.mem_of_getElem? (i := 493) (by decide +kernel)))
theorem u_494 (Z : a_Z a0 s0) : (Cond.methodLink "NarrowingPacker$History" 46 y_By_append).before a0 s0 = true := Z _ (List.mem_append_right _ (List.mem_of_getElem? (i := 494) (by decide +kernel)))
theorem u_495 (Z : a_Z a0 s0) : (Cond.methodLink "NarrowingPacker$History" 56 y_Hi_repeat).before a0 s0 = true := Z _ (List.mem_append_right _ (List.mem_of_getElem? (i := 495) (by decide +kernel)))
theorem u_497 (Z : a_Z a0 s0) : (Cond.instanceMethod y_Hi_repeat).before a0 s0 = true := Z _ (List.mem_append_right _ (List.mem_of_getElem? (i := 497) (by decide +kernel)))
theorem u_498 (Z : a_Z a0 s0) : (Cond.code y_Hi_repeat prog_6_method_7_code 4 (Option.none : Option FieldType)).before a0 s0 = true := Z _ (List.mem_append_right _ (List.mem_of_getElem? (i := 498) (by decide +kernel)))
theorem u_499 (Z : a_Z a0 s0) : (Cond.methodLink "NarrowingPacker$History" 60 y_Hi_bringToFront).before a0 s0 = true := Z _ (List.mem_append_right _ (List.mem_of_getElem? (i := 499) (by decide +kernel)))
theorem u_501 (Z : a_Z a0 s0) : (Cond.instanceMethod y_Hi_bringToFront).before a0 s0 = true := Z _ (List.mem_append_right _ (List.mem_of_getElem? (i := 501) (by decide +kernel)))
theorem u_502 (Z : a_Z a0 s0) : (Cond.code y_Hi_bringToFront prog_6_method_8_code 4 (Option.none : Option FieldType)).before a0 s0 = true := Z _ (List.mem_append_right _ (List.mem_of_getElem? (i := 502) (by decide +kernel)))
theorem u_503 (Z : a_Z a0 s0) : (Cond.methodLink "NarrowingPacker$History" 66 y_Hi_stateBehind).before a0 s0 = true := Z _ (List.mem_append_right _ (List.mem_of_getElem? (i := 503) (by decide +kernel)))
theorem u_505 (Z : a_Z a0 s0) : (Cond.instanceMethod y_Hi_stateBehind).before a0 s0 = true := Z _ (List.mem_append_right _ (List.mem_of_getElem? (i := 505) (by decide +kernel)))
theorem u_506 (Z : a_Z a0 s0) : (Cond.code y_Hi_stateBehind prog_6_method_9_code 2 (Option.some FieldType.int)).before a0 s0 = true := Z _ (List.mem_append_right _ (List.mem_of_getElem? (i := 506) (by decide +kernel)))
theorem u_507 (Z : a_Z a0 s0) : (Cond.methodLink "NarrowingPacker$History" 78 y_Hi_stateBehindLiteral).before a0 s0 = true := Z _ (List.mem_append_right _ (List.mem_of_getElem? (i := 507) (by decide +kernel)))
theorem u_509 (Z : a_Z a0 s0) : (Cond.instanceMethod y_Hi_stateBehindLiteral).before a0 s0 = true := Z _ (List.mem_append_right _ (List.mem_of_getElem? (i := 509) (by decide +kernel)))
theorem u_510 (Z : a_Z a0 s0) : (Cond.code y_Hi_stateBehindLiteral prog_6_method_10_code 1 (Option.some FieldType.int)).before a0 s0 = true := Z _ (List.mem_append_right _ (List.mem_of_getElem? (i := 510) (by decide +kernel)))
theorem u_511 (Z : a_Z a0 s0) : (Cond.methodLink "NarrowingPacker$History" 82 y_Hi_isBehindACopy).before a0 s0 = true := Z _ (List.mem_append_right _ (List.mem_of_getElem? (i := 511) (by decide +kernel)))
theorem u_512 (Z : a_Z a0 s0) : (Cond.methodLink "NarrowingPacker" 197 y_Pl_append).before a0 s0 = true := Z _ (List.mem_append_right _ (List.mem_of_getElem? (i := 512) (by decide +kernel)))
theorem u_513 (Z : a_Z a0 s0) : (Cond.instanceMethod y_Pl_append).before a0 s0 = true := Z _ (List.mem_append_right _ (List.mem_of_getElem? (i := 513) (by decide +kernel)))
theorem u_514 (Z : a_Z a0 s0) : (Cond.selects "NarrowingPacker$PacketList" y_Pl_append y_Pl_append).before a0 s0 = true := Z _ (List.mem_append_right _ (List.mem_of_getElem? (i := 514) (by decide +kernel)))
theorem u_515 (Z : a_Z a0 s0) : (Cond.code y_Pl_append prog_9_method_3_code 2 (Option.none : Option FieldType)).before a0 s0 = true := Z _ (List.mem_append_right _ (List.mem_of_getElem? (i := 515) (by decide +kernel)))
theorem u_516 (Z : a_Z a0 s0) : (Cond.methodLink "NarrowingPacker" 199 y_Pa_becomeEnd).before a0 s0 = true := Z _ (List.mem_append_right _ (List.mem_of_getElem? (i := 516) (by decide +kernel)))
theorem u_517 (Z : a_Z a0 s0) : (Cond.instanceMethod y_Pa_becomeEnd).before a0 s0 = true := Z _ (List.mem_append_right _ (List.mem_of_getElem? (i := 517) (by decide +kernel)))
theorem u_518 (Z : a_Z a0 s0) : (Cond.selects "NarrowingPacker$Packet" y_Pa_becomeEnd y_Pa_becomeEnd).before a0 s0 = true := Z _ (List.mem_append_right _ (List.mem_of_getElem? (i := 518) (by decide +kernel)))
theorem u_519 (Z : a_Z a0 s0) : (Cond.code y_Pa_becomeEnd prog_8_method_6_code 1 (Option.none : Option FieldType)).before a0 s0 = true := Z _ (List.mem_append_right _ (List.mem_of_getElem? (i := 519) (by decide +kernel)))
theorem u_520 (Z : a_Z a0 s0) : (Cond.methodLink "NarrowingPacker" 106 y_Na_fits).before a0 s0 = true := Z _ (List.mem_append_right _ (List.mem_of_getElem? (i := 520) (by decide +kernel)))
theorem u_521 (Z : a_Z a0 s0) : (Cond.instanceMethod y_Na_fits).before a0 s0 = true := Z _ (List.mem_append_right _ (List.mem_of_getElem? (i := 521) (by decide +kernel)))
theorem u_522 (Z : a_Z a0 s0) : (Cond.selects "NarrowingPacker$Narrower" y_Na_fits y_Na_fits).before a0 s0 = true := Z _ (List.mem_append_right _ (List.mem_of_getElem? (i := 522) (by decide +kernel)))
theorem u_523 (Z : a_Z a0 s0) : (Cond.code y_Na_fits prog_7_method_3_code 1 (Option.some FieldType.boolean)).before a0 s0 = true := Z _ (List.mem_append_right _ (List.mem_of_getElem? (i := 523) (by decide +kernel)))
theorem u_524 (Z : a_Z a0 s0) : (Cond.classLink "NarrowingPacker" 110 "java/lang/IllegalStateException").before a0 s0 = true := Z _ (List.mem_append_right _ (List.mem_of_getElem? (i := 524) (by decide +kernel)))
theorem u_525 (Z : a_Z a0 s0) : (Cond.instantiable "java/lang/IllegalStateException" 6).before a0 s0 = true := Z _ (List.mem_append_right _ (List.mem_of_getElem? (i := 525) (by decide +kernel)))
theorem u_526 (Z : a_Z a0 s0) : (Cond.castable "java/lang/IllegalStateException" "java/lang/IllegalStateException").before a0 s0 = true := Z _ (List.mem_append_right _ (List.mem_of_getElem? (i := 526) (by decide +kernel)))
theorem u_527 (Z : a_Z a0 s0) : (Cond.declares ⟨"java/lang/RuntimeException", "<init>", "()V"⟩).before a0 s0 = true := Z _ (List.mem_append_right _ (List.mem_of_getElem? (i := 527) (by decide +kernel)))
theorem u_528 (Z : a_Z a0 s0) : (Cond.declares ⟨"java/lang/RuntimeException", "<init>", "(Ljava/lang/String;)V"⟩).before a0 s0 = true := Z _ (List.mem_append_right _ (List.mem_of_getElem? (i := 528) (by decide +kernel)))
theorem u_529 (Z : a_Z a0 s0) : (Cond.declares ⟨"java/lang/Exception", "<init>", "()V"⟩).before a0 s0 = true := Z _ (List.mem_append_right _ (List.mem_of_getElem? (i := 529) (by decide +kernel)))
theorem u_530 (Z : a_Z a0 s0) : (Cond.declares ⟨"java/lang/Exception", "<init>", "(Ljava/lang/String;)V"⟩).before a0 s0 = true := Z _ (List.mem_append_right _ (List.mem_of_getElem? (i := 530) (by decide +kernel)))
theorem u_531 (Z : a_Z a0 s0) : (Cond.declares ⟨"java/lang/Throwable", "<init>", "()V"⟩).before a0 s0 = true := Z _ (List.mem_append_right _ (List.mem_of_getElem? (i := 531) (by decide +kernel)))
theorem u_532 (Z : a_Z a0 s0) : (Cond.declares ⟨"java/lang/Throwable", "<init>", "(Ljava/lang/String;)V"⟩).before a0 s0 = true := Z _ (List.mem_append_right _ (List.mem_of_getElem? (i := 532) (by decide +kernel)))
theorem u_533 (Z : a_Z a0 s0) : (Cond.selects "java/lang/IllegalStateException" ⟨"java/lang/Throwable", "fillInStackTrace", "(I)Ljava/lang/Throwable;"⟩ ⟨"java/lang/Throwable", "fillInStackTrace", "(I)Ljava/lang/Throwable;"⟩).before a0 s0 = true := Z _ (List.mem_append_right _ (List.mem_of_getElem? (i := 533) (by decide +kernel)))
theorem u_534 (Z : a_Z a0 s0) : (Cond.selects "java/lang/IllegalStateException" ⟨"java/lang/Throwable", "fillInStackTrace", "()Ljava/lang/Throwable;"⟩ ⟨"java/lang/Throwable", "fillInStackTrace", "()Ljava/lang/Throwable;"⟩).before a0 s0 = true := Z _ (List.mem_append_right _ (List.mem_of_getElem? (i := 534) (by decide +kernel)))
theorem u_535 (Z : a_Z a0 s0) : (Cond.lays "java/lang/IllegalStateException" "java/lang/Throwable" "cause" "Ljava/lang/Throwable;").before a0 s0 = true := Z _ (List.mem_append_right _ (List.mem_of_getElem? (i := 535) (by decide +kernel)))
theorem u_536 (Z : a_Z a0 s0) : (Cond.lays "java/lang/Throwable" "java/lang/Throwable" "cause" "Ljava/lang/Throwable;").before a0 s0 = true := Z _ (List.mem_append_right _ (List.mem_of_getElem? (i := 536) (by decide +kernel)))
theorem u_537 (Z : a_Z a0 s0) : (Cond.lays "java/lang/IllegalStateException" "java/lang/Throwable" "stackTrace" "[Ljava/lang/StackTraceElement;").before a0 s0 = true := Z _ (List.mem_append_right _ (List.mem_of_getElem? (i := 537) (by decide +kernel)))
theorem u_538 (Z : a_Z a0 s0) : (Cond.lays "java/lang/Throwable" "java/lang/Throwable" "stackTrace" "[Ljava/lang/StackTraceElement;").before a0 s0 = true := Z _ (List.mem_append_right _ (List.mem_of_getElem? (i := 538) (by decide +kernel)))
theorem u_539 (Z : a_Z a0 s0) : (Cond.lays "java/lang/IllegalStateException" "java/lang/Throwable" "suppressedExceptions" "Ljava/util/List;").before a0 s0 = true := Z _ (List.mem_append_right _ (List.mem_of_getElem? (i := 539) (by decide +kernel)))
theorem u_540 (Z : a_Z a0 s0) : (Cond.lays "java/lang/Throwable" "java/lang/Throwable" "suppressedExceptions" "Ljava/util/List;").before a0 s0 = true := Z _ (List.mem_append_right _ (List.mem_of_getElem? (i := 540) (by decide +kernel)))
theorem u_541 (Z : a_Z a0 s0) : (Cond.lays "java/lang/IllegalStateException" "java/lang/Throwable" "detailMessage" "Ljava/lang/String;").before a0 s0 = true := Z _ (List.mem_append_right _ (List.mem_of_getElem? (i := 541) (by decide +kernel)))
theorem u_542 (Z : a_Z a0 s0) : (Cond.lays "java/lang/Throwable" "java/lang/Throwable" "detailMessage" "Ljava/lang/String;").before a0 s0 = true := Z _ (List.mem_append_right _ (List.mem_of_getElem? (i := 542) (by decide +kernel)))
theorem u_543 (Z : a_Z a0 s0) : (Cond.lays "java/lang/IllegalStateException" "java/lang/Throwable" "backtrace" "Ljava/lang/Object;").before a0 s0 = true := Z _ (List.mem_append_right _ (List.mem_of_getElem? (i := 543) (by decide +kernel)))
theorem u_544 (Z : a_Z a0 s0) : (Cond.lays "java/lang/Throwable" "java/lang/Throwable" "backtrace" "Ljava/lang/Object;").before a0 s0 = true := Z _ (List.mem_append_right _ (List.mem_of_getElem? (i := 544) (by decide +kernel)))
theorem u_545 (Z : a_Z a0 s0) : (Cond.fieldLink "java/lang/Throwable" 198 "java/lang/Throwable" "backtrace" "Ljava/lang/Object;").before a0 s0 = true := Z _ (List.mem_append_right _ (List.mem_of_getElem? (i := 545) (by decide +kernel)))
theorem u_547 (Z : a_Z a0 s0) : (Cond.instanceMethod ⟨"java/lang/Throwable", "<init>", "()V"⟩).before a0 s0 = true := Z _ (List.mem_append_right _ (List.mem_of_getElem? (i := 547) (by decide +kernel)))
theorem u_548 (Z : a_Z a0 s0) : (Cond.code ⟨"java/lang/Throwable", "<init>", "()V"⟩ prog_22_method_1_code 1 (Option.none : Option FieldType)).before a0 s0 = true := Z _ (List.mem_append_right _ (List.mem_of_getElem? (i := 548) (by decide +kernel)))
theorem u_549 (Z : a_Z a0 s0) : (Cond.methodLink "java/lang/Throwable" 1 Lib.objectInit).before a0 s0 = true := Z _ (List.mem_append_right _ (List.mem_of_getElem? (i := 549) (by decide +kernel)))
theorem u_550 (Z : a_Z a0 s0) : (Cond.fieldLink "java/lang/Throwable" 13 "java/lang/Throwable" "UNASSIGNED_STACK" "[Ljava/lang/StackTraceElement;").before a0 s0 = true := Z _ (List.mem_append_right _ (List.mem_of_getElem? (i := 550) (by decide +kernel)))
theorem u_551 (Z : a_Z a0 s0) : (Cond.laysStatic "java/lang/Throwable" "UNASSIGNED_STACK" "[Ljava/lang/StackTraceElement;").before a0 s0 = true := Z _ (List.mem_append_right _ (List.mem_of_getElem? (i := 551) (by decide +kernel)))
theorem u_552 (Z : a_Z a0 s0) : (Cond.fieldLink "java/lang/Throwable" 20 "java/lang/Throwable" "SUPPRESSED_SENTINEL" "Ljava/util/List;").before a0 s0 = true := Z _ (List.mem_append_right _ (List.mem_of_getElem? (i := 552) (by decide +kernel)))
theorem u_553 (Z : a_Z a0 s0) : (Cond.laysStatic "java/lang/Throwable" "SUPPRESSED_SENTINEL" "Ljava/util/List;").before a0 s0 = true := Z _ (List.mem_append_right _ (List.mem_of_getElem? (i := 553) (by decide +kernel)))
theorem u_554 (Z : a_Z a0 s0) : (Cond.methodLink "java/lang/Throwable" 27 ⟨"java/lang/Throwable", "fillInStackTrace", "()Ljava/lang/Throwable;"⟩).before a0 s0 = true := Z _ (List.mem_append_right _ (List.mem_of_getElem? (i := 554) (by decide +kernel)))
theorem u_555 (Z : a_Z a0 s0) : (Cond.instanceMethod ⟨"java/lang/Throwable", "fillInStackTrace", "()Ljava/lang/Throwable;"⟩).before a0 s0 = true := Z _ (List.mem_append_right _ (List.mem_of_getElem? (i := 555) (by decide +kernel)))
theorem u_556 (Z : a_Z a0 s0) : (Cond.sameMethod "java/lang/Throwable" "java/lang/Throwable" "fillInStackTrace" "()Ljava/lang/Throwable;").before a0 s0 = true := Z _ (List.mem_append_right _ (List.mem_of_getElem? (i := 556) (by decide +kernel)))
theorem u_557 (Z : a_Z a0 s0) : (Cond.selects "java/lang/IllegalArgumentException" ⟨"java/lang/Throwable", "fillInStackTrace", "()Ljava/lang/Throwable;"⟩ ⟨"java/lang/Throwable", "fillInStackTrace", "()Ljava/lang/Throwable;"⟩).before a0 s0 = true := Z _ (List.mem_append_right _ (List.mem_of_getElem? (i := 557) (by decide +kernel)))
theorem u_558 (Z : a_Z a0 s0) : (Cond.selects "java/lang/IndexOutOfBoundsException" ⟨"java/lang/Throwable", "fillInStackTrace", "()Ljava/lang/Throwable;"⟩ ⟨"java/lang/Throwable", "fillInStackTrace", "()Ljava/lang/Throwable;"⟩).before a0 s0 = true := Z _ (List.mem_append_right _ (List.mem_of_getElem? (i := 558) (by decide +kernel)))
theorem u_559 (Z : a_Z a0 s0) : (Cond.selects "java/util/NoSuchElementException" ⟨"java/lang/Throwable", "fillInStackTrace", "()Ljava/lang/Throwable;"⟩ ⟨"java/lang/Throwable", "fillInStackTrace", "()Ljava/lang/Throwable;"⟩).before a0 s0 = true := Z _ (List.mem_append_right _ (List.mem_of_getElem? (i := 559) (by decide +kernel)))
theorem u_560 (Z : a_Z a0 s0) : (Cond.codeSync ⟨"java/lang/Throwable", "fillInStackTrace", "()Ljava/lang/Throwable;"⟩ prog_22_method_18_code 1 (Option.some (FieldType.object "java/lang/Throwable"))).before a0 s0 = true := Z _ (List.mem_append_right _ (List.mem_of_getElem? (i := 560) (by decide +kernel)))
theorem u_561 (Z : a_Z a0 s0) : (Cond.methodLink "java/lang/Throwable" 202 ⟨"java/lang/Throwable", "fillInStackTrace", "(I)Ljava/lang/Throwable;"⟩).before a0 s0 = true := Z _ (List.mem_append_right _ (List.mem_of_getElem? (i := 561) (by decide +kernel)))
theorem u_563 (Z : a_Z a0 s0) : (Cond.instanceMethod ⟨"java/lang/Throwable", "fillInStackTrace", "(I)Ljava/lang/Throwable;"⟩).before a0 s0 = true := Z _ (List.mem_append_right _ (List.mem_of_getElem? (i := 563) (by decide +kernel)))
theorem u_564 (Z : a_Z a0 s0) : (Cond.instantiable "java/lang/Throwable" 6).before a0 s0 = true := Z _ (List.mem_append_right _ (List.mem_of_getElem? (i := 564) (by decide +kernel)))
theorem u_565 (Z : a_Z a0 s0) : (Cond.native ⟨"java/lang/Throwable", "fillInStackTrace", "(I)Ljava/lang/Throwable;"⟩).before a0 s0 = true := Z _ (List.mem_append_right _ (List.mem_of_getElem? (i := 565) (by decide +kernel)))
theorem u_566 (Z : a_Z a0 s0) : (Cond.stringRef "NarrowingPacker" 112 "more packed bytes than there is room for").before a0 s0 = true := Z _ (List.mem_append_right _ (List.mem_of_getElem? (i := 566) (by decide +kernel)))
theorem u_567 (Z : a_Z a0 s0) : (Cond.methodLink "NarrowingPacker" 114 ⟨"java/lang/IllegalStateException", "<init>", "(Ljava/lang/String;)V"⟩).before a0 s0 = true := Z _ (List.mem_append_right _ (List.mem_of_getElem? (i := 567) (by decide +kernel)))
theorem u_568 (Z : a_Z a0 s0) : (Cond.instanceMethod ⟨"java/lang/IllegalStateException", "<init>", "(Ljava/lang/String;)V"⟩).before a0 s0 = true := Z _ (List.mem_append_right _ (List.mem_of_getElem? (i := 568) (by decide +kernel)))
theorem u_569 (Z : a_Z a0 s0) : (Cond.code ⟨"java/lang/IllegalStateException", "<init>", "(Ljava/lang/String;)V"⟩ prog_16_method_2_code 2 (Option.none : Option FieldType)).before a0 s0 = true := Z _ (List.mem_append_right _ (List.mem_of_getElem? (i := 569) (by decide +kernel)))
theorem u_570 (Z : a_Z a0 s0) : (Cond.methodLink "java/lang/IllegalStateException" 7 ⟨"java/lang/RuntimeException", "<init>", "(Ljava/lang/String;)V"⟩).before a0 s0 = true := Z _ (List.mem_append_right _ (List.mem_of_getElem? (i := 570) (by decide +kernel)))
theorem u_571 (Z : a_Z a0 s0) : (Cond.instanceMethod ⟨"java/lang/RuntimeException", "<init>", "(Ljava/lang/String;)V"⟩).before a0 s0 = true := Z _ (List.mem_append_right _ (List.mem_of_getElem? (i := 571) (by decide +kernel)))
theorem u_572 (Z : a_Z a0 s0) : (Cond.code ⟨"java/lang/RuntimeException", "<init>", "(Ljava/lang/String;)V"⟩ prog_19_method_2_code 2 (Option.none : Option FieldType)).before a0 s0 = true := Z _ (List.mem_append_right _ (List.mem_of_getElem? (i := 572) (by decide +kernel)))
theorem u_573 (Z : a_Z a0 s0) : (Cond.methodLink "java/lang/RuntimeException" 7 ⟨"java/lang/Exception", "<init>", "(Ljava/lang/String;)V"⟩).before a0 s0 = true := Z _ (List.mem_append_right _ (List.mem_of_getElem? (i := 573) (by decide +kernel)))
theorem u_574 (Z : a_Z a0 s0) : (Cond.instanceMethod ⟨"java/lang/Exception", "<init>", "(Ljava/lang/String;)V"⟩).before a0 s0 = true := Z _ (List.mem_append_right _ (List.mem_of_getElem? (i := 574) (by decide +kernel)))
theorem u_575 (Z : a_Z a0 s0) : (Cond.code ⟨"java/lang/Exception", "<init>", "(Ljava/lang/String;)V"⟩ prog_14_method_2_code 2 (Option.none : Option FieldType)).before a0 s0 = true := Z _ (List.mem_append_right _ (List.mem_of_getElem? (i := 575) (by decide +kernel)))
theorem u_576 (Z : a_Z a0 s0) : (Cond.methodLink "java/lang/Exception" 7 ⟨"java/lang/Throwable", "<init>", "(Ljava/lang/String;)V"⟩).before a0 s0 = true := Z _ (List.mem_append_right _ (List.mem_of_getElem? (i := 576) (by decide +kernel)))
theorem u_577 (Z : a_Z a0 s0) : (Cond.instanceMethod ⟨"java/lang/Throwable", "<init>", "(Ljava/lang/String;)V"⟩).before a0 s0 = true := Z _ (List.mem_append_right _ (List.mem_of_getElem? (i := 577) (by decide +kernel)))
theorem u_578 (Z : a_Z a0 s0) : (Cond.code ⟨"java/lang/Throwable", "<init>", "(Ljava/lang/String;)V"⟩ prog_22_method_2_code 2 (Option.none : Option FieldType)).before a0 s0 = true := Z _ (List.mem_append_right _ (List.mem_of_getElem? (i := 578) (by decide +kernel)))
theorem u_579 (Z : a_Z a0 s0) : (Cond.fieldLink "java/lang/Throwable" 198 "java/lang/Throwable" "backtrace" "Ljava/lang/Object;").before a0 s0 = true := Z _ (List.mem_append_right _ (List.mem_of_getElem? (i := 579) (by decide +kernel)))
theorem u_580 (Z : a_Z a0 s0) : (Cond.fieldLink "java/lang/Throwable" 31 "java/lang/Throwable" "detailMessage" "Ljava/lang/String;").before a0 s0 = true := Z _ (List.mem_append_right _ (List.mem_of_getElem? (i := 580) (by decide +kernel)))
theorem u_581 (Z : a_Z a0 s0) : (Cond.fieldLink "java/lang/Throwable" 7 "java/lang/Throwable" "cause" "Ljava/lang/Throwable;").before a0 s0 = true := Z _ (List.mem_append_right _ (List.mem_of_getElem? (i := 581) (by decide +kernel)))
theorem u_582 (Z : a_Z a0 s0) : (Cond.fieldLink "java/lang/Throwable" 17 "java/lang/Throwable" "stackTrace" "[Ljava/lang/StackTraceElement;").before a0 s0 = true := Z _ (List.mem_append_right _ (List.mem_of_getElem? (i := 582) (by decide +kernel)))
theorem u_583 (Z : a_Z a0 s0) : (Cond.fieldLink "java/lang/Throwable" 24 "java/lang/Throwable" "suppressedExceptions" "Ljava/util/List;").before a0 s0 = true := Z _ (List.mem_append_right _ (List.mem_of_getElem? (i := 583) (by decide +kernel)))
theorem u_588 (Z : a_Z a0 s0) : (Cond.lays "java/lang/IllegalStateException" "java/lang/Throwable" "depth" "I").before a0 s0 = true := Z _ (List.mem_append_right _ (List.mem_of_getElem? (i := 588) (by decide +kernel)))
theorem u_592 (Z : a_Z a0 s0) : (Cond.arrayClass FieldType.byte).before a0 s0 = true := Z _ (List.mem_append_right _ (List.mem_of_getElem? (i := 592) (by decide +kernel)))
theorem u_593 (Z : a_Z a0 s0) : (Cond.methodLink "NarrowingPacker" 117 y_Np_keepPacking).before a0 s0 = true := Z _ (List.mem_append_right _ (List.mem_of_getElem? (i := 593) (by decide +kernel)))
theorem u_595 (Z : a_Z a0 s0) : (Cond.instanceMethod y_Np_keepPacking).before a0 s0 = true := Z _ (List.mem_append_right _ (List.mem_of_getElem? (i := 595) (by decide +kernel)))
theorem u_596 (Z : a_Z a0 s0) : (Cond.code y_Np_keepPacking prog_1_method_18_code 3 (Option.none : Option FieldType)).before a0 s0 = true := Z _ (List.mem_append_right _ (List.mem_of_getElem? (i := 596) (by decide +kernel)))
theorem u_597 (Z : a_Z a0 s0) : (Cond.methodLink "NarrowingPacker" 186 y_By_copy).before a0 s0 = true := Z _ (List.mem_append_right _ (List.mem_of_getElem? (i := 597) (by decide +kernel)))
theorem u_598 (Z : a_Z a0 s0) : (Cond.instanceMethod y_By_copy).before a0 s0 = true := Z _ (List.mem_append_right _ (List.mem_of_getElem? (i := 598) (by decide +kernel)))
theorem u_599 (Z : a_Z a0 s0) : (Cond.selects "NarrowingPacker$Bytes" y_By_copy y_By_copy).before a0 s0 = true := Z _ (List.mem_append_right _ (List.mem_of_getElem? (i := 599) (by decide +kernel)))
theorem u_600 (Z : a_Z a0 s0) : (Cond.code y_By_copy prog_2_method_6_code 3 (Option.none : Option FieldType)).before a0 s0 = true := Z _ (List.mem_append_right _ (List.mem_of_getElem? (i := 600) (by decide +kernel)))
theorem u_601 (Z : a_Z a0 s0) : (Cond.methodLink "NarrowingPacker$Bytes" 35 arraycopyName).before a0 s0 = true := Z _ (List.mem_append_right _ (List.mem_of_getElem? (i := 601) (by decide +kernel)))
theorem u_602 (Z : a_Z a0 s0) : (Cond.static arraycopyName).before a0 s0 = true := Z _ (List.mem_append_right _ (List.mem_of_getElem? (i := 602) (by decide +kernel)))
theorem u_603 (Z : a_Z a0 s0) : (Cond.native arraycopyName).before a0 s0 = true := Z _ (List.mem_append_right _ (List.mem_of_getElem? (i := 603) (by decide +kernel)))
theorem u_604 (Z : a_Z a0 s0) : (Cond.methodLink "NarrowingPacker" 215 arraycopyName).before a0 s0 = true := Z _ (List.mem_append_right _ (List.mem_of_getElem? (i := 604) (by decide +kernel)))
theorem u_605 (Z : a_Z a0 s0) : (Cond.methodLink "NarrowingPackerLaw" 84 y_La_put).before a0 s0 = true := Z _ (List.mem_append_right _ (List.mem_of_getElem? (i := 605) (by decide +kernel)))
theorem u_606 (Z : a_Z a0 s0) : (Cond.static y_La_put).before a0 s0 = true := Z _ (List.mem_append_right _ (List.mem_of_getElem? (i := 606) (by decide +kernel)))
theorem u_607 (Z : a_Z a0 s0) : (Cond.codeWith y_La_put method_4_code 5 (Option.some FieldType.int) [(0, 10, 13, 19), (0, 10, 17, 21)]).before a0 s0 = true := Z _ (List.mem_append_right _ (List.mem_of_getElem? (i := 607) (by decide +kernel)))
theorem u_608 (Z : a_Z a0 s0) : (Cond.classLink "NarrowingPackerLaw" 19 "java/lang/IndexOutOfBoundsException").before a0 s0 = true := Z _ (List.mem_append_right _ (List.mem_of_getElem? (i := 608) (by decide +kernel)))
theorem u_609 (Z : a_Z a0 s0) : (Cond.classLink "NarrowingPackerLaw" 21 "java/lang/IllegalArgumentException").before a0 s0 = true := Z _ (List.mem_append_right _ (List.mem_of_getElem? (i := 609) (by decide +kernel)))
theorem u_610 (Z : a_Z a0 s0) : (Cond.methodLink "NarrowingPackerLaw" 15 y_Np_put).before a0 s0 = true := Z _ (List.mem_append_right _ (List.mem_of_getElem? (i := 610) (by decide +kernel)))
theorem u_611 (Z : a_Z a0 s0) : (Cond.instanceMethod y_Np_put).before a0 s0 = true := Z _ (List.mem_append_right _ (List.mem_of_getElem? (i := 611) (by decide +kernel)))
theorem u_612 (Z : a_Z a0 s0) : (Cond.selects "NarrowingPacker" y_Np_put y_Np_put).before a0 s0 = true := Z _ (List.mem_append_right _ (List.mem_of_getElem? (i := 612) (by decide +kernel)))
theorem u_613 (Z : a_Z a0 s0) : (Cond.code y_Np_put prog_1_method_11_code 4 (Option.some FieldType.int)).before a0 s0 = true := Z _ (List.mem_append_right _ (List.mem_of_getElem? (i := 613) (by decide +kernel)))
theorem u_614 (Z : a_Z a0 s0) : (Cond.methodLink "NarrowingPacker" 136 y_By_has).before a0 s0 = true := Z _ (List.mem_append_right _ (List.mem_of_getElem? (i := 614) (by decide +kernel)))
theorem u_615 (Z : a_Z a0 s0) : (Cond.classLink "NarrowingPacker" 139 "java/lang/IndexOutOfBoundsException").before a0 s0 = true := Z _ (List.mem_append_right _ (List.mem_of_getElem? (i := 615) (by decide +kernel)))
theorem u_616 (Z : a_Z a0 s0) : (Cond.instantiable "java/lang/IndexOutOfBoundsException" 6).before a0 s0 = true := Z _ (List.mem_append_right _ (List.mem_of_getElem? (i := 616) (by decide +kernel)))
theorem u_617 (Z : a_Z a0 s0) : (Cond.castable "java/lang/IndexOutOfBoundsException" "java/lang/IndexOutOfBoundsException").before a0 s0 = true := Z _ (List.mem_append_right _ (List.mem_of_getElem? (i := 617) (by decide +kernel)))
theorem u_618 (Z : a_Z a0 s0) : (Cond.selects "java/lang/IndexOutOfBoundsException" ⟨"java/lang/Throwable", "fillInStackTrace", "(I)Ljava/lang/Throwable;"⟩ ⟨"java/lang/Throwable", "fillInStackTrace", "(I)Ljava/lang/Throwable;"⟩).before a0 s0 = true := Z _ (List.mem_append_right _ (List.mem_of_getElem? (i := 618) (by decide +kernel)))
theorem u_619 (Z : a_Z a0 s0) : (Cond.lays "java/lang/IndexOutOfBoundsException" "java/lang/Throwable" "cause" "Ljava/lang/Throwable;").before a0 s0 = true := Z _ (List.mem_append_right _ (List.mem_of_getElem? (i := 619) (by decide +kernel)))
theorem u_620 (Z : a_Z a0 s0) : (Cond.lays "java/lang/IndexOutOfBoundsException" "java/lang/Throwable" "stackTrace" "[Ljava/lang/StackTraceElement;").before a0 s0 = true := Z _ (List.mem_append_right _ (List.mem_of_getElem? (i := 620) (by decide +kernel)))
theorem u_621 (Z : a_Z a0 s0) : (Cond.lays "java/lang/IndexOutOfBoundsException" "java/lang/Throwable" "suppressedExceptions" "Ljava/util/List;").before a0 s0 = true := Z _ (List.mem_append_right _ (List.mem_of_getElem? (i := 621) (by decide +kernel)))
theorem u_622 (Z : a_Z a0 s0) : (Cond.lays "java/lang/IndexOutOfBoundsException" "java/lang/Throwable" "detailMessage" "Ljava/lang/String;").before a0 s0 = true := Z _ (List.mem_append_right _ (List.mem_of_getElem? (i := 622) (by decide +kernel)))
theorem u_623 (Z : a_Z a0 s0) : (Cond.lays "java/lang/IndexOutOfBoundsException" "java/lang/Throwable" "backtrace" "Ljava/lang/Object;").before a0 s0 = true := Z _ (List.mem_append_right _ (List.mem_of_getElem? (i := 623) (by decide +kernel)))
theorem u_624 (Z : a_Z a0 s0) : (Cond.stringRef "NarrowingPacker" 141 "no such packed byte").before a0 s0 = true := Z _ (List.mem_append_right _ (List.mem_of_getElem? (i := 624) (by decide +kernel)))
theorem u_625 (Z : a_Z a0 s0) : (Cond.methodLink "NarrowingPacker" 143 ⟨"java/lang/IndexOutOfBoundsException", "<init>", "(Ljava/lang/String;)V"⟩).before a0 s0 = true := Z _ (List.mem_append_right _ (List.mem_of_getElem? (i := 625) (by decide +kernel)))
theorem u_626 (Z : a_Z a0 s0) : (Cond.instanceMethod ⟨"java/lang/IndexOutOfBoundsException", "<init>", "(Ljava/lang/String;)V"⟩).before a0 s0 = true := Z _ (List.mem_append_right _ (List.mem_of_getElem? (i := 626) (by decide +kernel)))
theorem u_627 (Z : a_Z a0 s0) : (Cond.code ⟨"java/lang/IndexOutOfBoundsException", "<init>", "(Ljava/lang/String;)V"⟩ prog_17_method_2_code 2 (Option.none : Option FieldType)).before a0 s0 = true := Z _ (List.mem_append_right _ (List.mem_of_getElem? (i := 627) (by decide +kernel)))
theorem u_628 (Z : a_Z a0 s0) : (Cond.methodLink "java/lang/IndexOutOfBoundsException" 7 ⟨"java/lang/RuntimeException", "<init>", "(Ljava/lang/String;)V"⟩).before a0 s0 = true := Z _ (List.mem_append_right _ (List.mem_of_getElem? (i := 628) (by decide +kernel)))
theorem u_629 (Z : a_Z a0 s0) : (Cond.lays "java/lang/IndexOutOfBoundsException" "java/lang/Throwable" "depth" "I").before a0 s0 = true := Z _ (List.mem_append_right _ (List.mem_of_getElem? (i := 629) (by decide +kernel)))
theorem u_631 (Z : a_Z a0 s0) : (Cond.methodLink "NarrowingPacker" 144 y_Np_isByte).before a0 s0 = true := Z _ (List.mem_append_right _ (List.mem_of_getElem? (i := 631) (by decide +kernel)))
theorem u_632 (Z : a_Z a0 s0) : (Cond.classLink "NarrowingPacker" 147 "java/lang/IllegalArgumentException").before a0 s0 = true := Z _ (List.mem_append_right _ (List.mem_of_getElem? (i := 632) (by decide +kernel)))
theorem u_633 (Z : a_Z a0 s0) : (Cond.instantiable "java/lang/IllegalArgumentException" 6).before a0 s0 = true := Z _ (List.mem_append_right _ (List.mem_of_getElem? (i := 633) (by decide +kernel)))
theorem u_634 (Z : a_Z a0 s0) : (Cond.castable "java/lang/IllegalArgumentException" "java/lang/IllegalArgumentException").before a0 s0 = true := Z _ (List.mem_append_right _ (List.mem_of_getElem? (i := 634) (by decide +kernel)))
theorem u_635 (Z : a_Z a0 s0) : (Cond.selects "java/lang/IllegalArgumentException" ⟨"java/lang/Throwable", "fillInStackTrace", "(I)Ljava/lang/Throwable;"⟩ ⟨"java/lang/Throwable", "fillInStackTrace", "(I)Ljava/lang/Throwable;"⟩).before a0 s0 = true := Z _ (List.mem_append_right _ (List.mem_of_getElem? (i := 635) (by decide +kernel)))
theorem u_636 (Z : a_Z a0 s0) : (Cond.lays "java/lang/IllegalArgumentException" "java/lang/Throwable" "cause" "Ljava/lang/Throwable;").before a0 s0 = true := Z _ (List.mem_append_right _ (List.mem_of_getElem? (i := 636) (by decide +kernel)))
theorem u_637 (Z : a_Z a0 s0) : (Cond.lays "java/lang/IllegalArgumentException" "java/lang/Throwable" "stackTrace" "[Ljava/lang/StackTraceElement;").before a0 s0 = true := Z _ (List.mem_append_right _ (List.mem_of_getElem? (i := 637) (by decide +kernel)))
theorem u_638 (Z : a_Z a0 s0) : (Cond.lays "java/lang/IllegalArgumentException" "java/lang/Throwable" "suppressedExceptions" "Ljava/util/List;").before a0 s0 = true := Z _ (List.mem_append_right _ (List.mem_of_getElem? (i := 638) (by decide +kernel)))
theorem u_639 (Z : a_Z a0 s0) : (Cond.lays "java/lang/IllegalArgumentException" "java/lang/Throwable" "detailMessage" "Ljava/lang/String;").before a0 s0 = true := Z _ (List.mem_append_right _ (List.mem_of_getElem? (i := 639) (by decide +kernel)))
theorem u_640 (Z : a_Z a0 s0) : (Cond.lays "java/lang/IllegalArgumentException" "java/lang/Throwable" "backtrace" "Ljava/lang/Object;").before a0 s0 = true := Z _ (List.mem_append_right _ (List.mem_of_getElem? (i := 640) (by decide +kernel)))
theorem u_641 (Z : a_Z a0 s0) : (Cond.stringRef "NarrowingPacker" 149 "not a byte").before a0 s0 = true := Z _ (List.mem_append_right _ (List.mem_of_getElem? (i := 641) (by decide +kernel)))
theorem u_642 (Z : a_Z a0 s0) : (Cond.methodLink "NarrowingPacker" 151 ⟨"java/lang/IllegalArgumentException", "<init>", "(Ljava/lang/String;)V"⟩).before a0 s0 = true := Z _ (List.mem_append_right _ (List.mem_of_getElem? (i := 642) (by decide +kernel)))
theorem u_643 (Z : a_Z a0 s0) : (Cond.instanceMethod ⟨"java/lang/IllegalArgumentException", "<init>", "(Ljava/lang/String;)V"⟩).before a0 s0 = true := Z _ (List.mem_append_right _ (List.mem_of_getElem? (i := 643) (by decide +kernel)))
theorem u_644 (Z : a_Z a0 s0) : (Cond.code ⟨"java/lang/IllegalArgumentException", "<init>", "(Ljava/lang/String;)V"⟩ prog_15_method_2_code 2 (Option.none : Option FieldType)).before a0 s0 = true := Z _ (List.mem_append_right _ (List.mem_of_getElem? (i := 644) (by decide +kernel)))
theorem u_645 (Z : a_Z a0 s0) : (Cond.methodLink "java/lang/IllegalArgumentException" 7 ⟨"java/lang/RuntimeException", "<init>", "(Ljava/lang/String;)V"⟩).before a0 s0 = true := Z _ (List.mem_append_right _ (List.mem_of_getElem? (i := 645) (by decide +kernel)))
theorem u_646 (Z : a_Z a0 s0) : (Cond.lays "java/lang/IllegalArgumentException" "java/lang/Throwable" "depth" "I").before a0 s0 = true := Z _ (List.mem_append_right _ (List.mem_of_getElem? (i := 646) (by decide +kernel)))
theorem u_648 (Z : a_Z a0 s0) : (Cond.methodLink "NarrowingPackerLaw" 88 y_La_cut).before a0 s0 = true := Z _ (List.mem_append_right _ (List.mem_of_getElem? (i := 648) (by decide +kernel)))
theorem u_649 (Z : a_Z a0 s0) : (Cond.static y_La_cut).before a0 s0 = true := Z _ (List.mem_append_right _ (List.mem_of_getElem? (i := 649) (by decide +kernel)))
theorem u_650 (Z : a_Z a0 s0) : (Cond.codeWith y_La_cut method_5_code 4 (Option.some FieldType.int) [(0, 9, 12, 21)]).before a0 s0 = true := Z _ (List.mem_append_right _ (List.mem_of_getElem? (i := 650) (by decide +kernel)))
theorem u_651 (Z : a_Z a0 s0) : (Cond.methodLink "NarrowingPackerLaw" 23 y_Np_cut).before a0 s0 = true := Z _ (List.mem_append_right _ (List.mem_of_getElem? (i := 651) (by decide +kernel)))
theorem u_652 (Z : a_Z a0 s0) : (Cond.instanceMethod y_Np_cut).before a0 s0 = true := Z _ (List.mem_append_right _ (List.mem_of_getElem? (i := 652) (by decide +kernel)))
theorem u_653 (Z : a_Z a0 s0) : (Cond.selects "NarrowingPacker" y_Np_cut y_Np_cut).before a0 s0 = true := Z _ (List.mem_append_right _ (List.mem_of_getElem? (i := 653) (by decide +kernel)))
theorem u_654 (Z : a_Z a0 s0) : (Cond.code y_Np_cut prog_1_method_12_code 2 (Option.some FieldType.int)).before a0 s0 = true := Z _ (List.mem_append_right _ (List.mem_of_getElem? (i := 654) (by decide +kernel)))
theorem u_655 (Z : a_Z a0 s0) : (Cond.stringRef "NarrowingPacker" 155 "fewer than no bytes").before a0 s0 = true := Z _ (List.mem_append_right _ (List.mem_of_getElem? (i := 655) (by decide +kernel)))
theorem u_656 (Z : a_Z a0 s0) : (Cond.methodLink "NarrowingPackerLaw" 92 y_La_unpack).before a0 s0 = true := Z _ (List.mem_append_right _ (List.mem_of_getElem? (i := 656) (by decide +kernel)))
theorem u_657 (Z : a_Z a0 s0) : (Cond.static y_La_unpack).before a0 s0 = true := Z _ (List.mem_append_right _ (List.mem_of_getElem? (i := 657) (by decide +kernel)))
theorem u_658 (Z : a_Z a0 s0) : (Cond.codeWith y_La_unpack method_6_code 3 (Option.some FieldType.int) [(0, 8, 11, 30), (0, 8, 14, 21), (0, 8, 17, 19), (0, 8, 20, 13)]).before a0 s0 = true := Z _ (List.mem_append_right _ (List.mem_of_getElem? (i := 658) (by decide +kernel)))
theorem u_659 (Z : a_Z a0 s0) : (Cond.classLink "NarrowingPackerLaw" 30 "java/util/NoSuchElementException").before a0 s0 = true := Z _ (List.mem_append_right _ (List.mem_of_getElem? (i := 659) (by decide +kernel)))
theorem u_660 (Z : a_Z a0 s0) : (Cond.methodLink "NarrowingPackerLaw" 27 y_Np_unpack).before a0 s0 = true := Z _ (List.mem_append_right _ (List.mem_of_getElem? (i := 660) (by decide +kernel)))
theorem u_661 (Z : a_Z a0 s0) : (Cond.instanceMethod y_Np_unpack).before a0 s0 = true := Z _ (List.mem_append_right _ (List.mem_of_getElem? (i := 661) (by decide +kernel)))
theorem u_662 (Z : a_Z a0 s0) : (Cond.selects "NarrowingPacker" y_Np_unpack y_Np_unpack).before a0 s0 = true := Z _ (List.mem_append_right _ (List.mem_of_getElem? (i := 662) (by decide +kernel)))
theorem u_663 (Z : a_Z a0 s0) : (Cond.code y_Np_unpack prog_1_method_13_code 2 (Option.some FieldType.int)).before a0 s0 = true := Z _ (List.mem_append_right _ (List.mem_of_getElem? (i := 663) (by decide +kernel)))
theorem u_664 (Z : a_Z a0 s0) : (Cond.methodLink "NarrowingPacker" 161 y_Fo_restart).before a0 s0 = true := Z _ (List.mem_append_right _ (List.mem_of_getElem? (i := 664) (by decide +kernel)))
theorem u_665 (Z : a_Z a0 s0) : (Cond.instanceMethod y_Fo_restart).before a0 s0 = true := Z _ (List.mem_append_right _ (List.mem_of_getElem? (i := 665) (by decide +kernel)))
theorem u_666 (Z : a_Z a0 s0) : (Cond.selects "NarrowingPacker$Follower" y_Fo_restart y_Fo_restart).before a0 s0 = true := Z _ (List.mem_append_right _ (List.mem_of_getElem? (i := 666) (by decide +kernel)))
theorem u_667 (Z : a_Z a0 s0) : (Cond.code y_Fo_restart prog_5_method_2_code 3 (Option.none : Option FieldType)).before a0 s0 = true := Z _ (List.mem_append_right _ (List.mem_of_getElem? (i := 667) (by decide +kernel)))
theorem u_668 (Z : a_Z a0 s0) : (Cond.methodLink "NarrowingPacker$Follower" 27 y_Ch_forget).before a0 s0 = true := Z _ (List.mem_append_right _ (List.mem_of_getElem? (i := 668) (by decide +kernel)))
theorem u_669 (Z : a_Z a0 s0) : (Cond.methodLink "NarrowingPacker$Follower" 38 y_By_copy).before a0 s0 = true := Z _ (List.mem_append_right _ (List.mem_of_getElem? (i := 669) (by decide +kernel)))
theorem u_670 (Z : a_Z a0 s0) : (Cond.constantLong "NarrowingPacker$Follower" 49 (4294967295 : Int64)).before a0 s0 = true := Z _ (List.mem_append_right _ (List.mem_of_getElem? (i := 670) (by decide +kernel)))
theorem u_671 (Z : a_Z a0 s0) : (Cond.methodLink "NarrowingPacker$Follower" 54 y_Fo_takeByte).before a0 s0 = true := Z _ (List.mem_append_right _ (List.mem_of_getElem? (i := 671) (by decide +kernel)))
theorem u_673 (Z : a_Z a0 s0) : (Cond.instanceMethod y_Fo_takeByte).before a0 s0 = true := Z _ (List.mem_append_right _ (List.mem_of_getElem? (i := 673) (by decide +kernel)))
theorem u_674 (Z : a_Z a0 s0) : (Cond.code y_Fo_takeByte prog_5_method_7_code 1 (Option.none : Option FieldType)).before a0 s0 = true := Z _ (List.mem_append_right _ (List.mem_of_getElem? (i := 674) (by decide +kernel)))
theorem u_675 (Z : a_Z a0 s0) : (Cond.methodLink "NarrowingPacker$Follower" 80 y_By_has).before a0 s0 = true := Z _ (List.mem_append_right _ (List.mem_of_getElem? (i := 675) (by decide +kernel)))
theorem u_676 (Z : a_Z a0 s0) : (Cond.classLink "NarrowingPacker$Follower" 84 "java/util/NoSuchElementException").before a0 s0 = true := Z _ (List.mem_append_right _ (List.mem_of_getElem? (i := 676) (by decide +kernel)))
theorem u_677 (Z : a_Z a0 s0) : (Cond.instantiable "java/util/NoSuchElementException" 6).before a0 s0 = true := Z _ (List.mem_append_right _ (List.mem_of_getElem? (i := 677) (by decide +kernel)))
theorem u_678 (Z : a_Z a0 s0) : (Cond.castable "java/util/NoSuchElementException" "java/util/NoSuchElementException").before a0 s0 = true := Z _ (List.mem_append_right _ (List.mem_of_getElem? (i := 678) (by decide +kernel)))
theorem u_679 (Z : a_Z a0 s0) : (Cond.selects "java/util/NoSuchElementException" ⟨"java/lang/Throwable", "fillInStackTrace", "(I)Ljava/lang/Throwable;"⟩ ⟨"java/lang/Throwable", "fillInStackTrace", "(I)Ljava/lang/Throwable;"⟩).before a0 s0 = true := Z _ (List.mem_append_right _ (List.mem_of_getElem? (i := 679) (by decide +kernel)))
theorem u_680 (Z : a_Z a0 s0) : (Cond.lays "java/util/NoSuchElementException" "java/lang/Throwable" "cause" "Ljava/lang/Throwable;").before a0 s0 = true := Z _ (List.mem_append_right _ (List.mem_of_getElem? (i := 680) (by decide +kernel)))
theorem u_681 (Z : a_Z a0 s0) : (Cond.lays "java/util/NoSuchElementException" "java/lang/Throwable" "stackTrace" "[Ljava/lang/StackTraceElement;").before a0 s0 = true := Z _ (List.mem_append_right _ (List.mem_of_getElem? (i := 681) (by decide +kernel)))
theorem u_682 (Z : a_Z a0 s0) : (Cond.lays "java/util/NoSuchElementException" "java/lang/Throwable" "suppressedExceptions" "Ljava/util/List;").before a0 s0 = true := Z _ (List.mem_append_right _ (List.mem_of_getElem? (i := 682) (by decide +kernel)))
theorem u_683 (Z : a_Z a0 s0) : (Cond.lays "java/util/NoSuchElementException" "java/lang/Throwable" "detailMessage" "Ljava/lang/String;").before a0 s0 = true := Z _ (List.mem_append_right _ (List.mem_of_getElem? (i := 683) (by decide +kernel)))
theorem u_684 (Z : a_Z a0 s0) : (Cond.lays "java/util/NoSuchElementException" "java/lang/Throwable" "backtrace" "Ljava/lang/Object;").before a0 s0 = true := Z _ (List.mem_append_right _ (List.mem_of_getElem? (i := 684) (by decide +kernel)))
theorem u_685 (Z : a_Z a0 s0) : (Cond.stringRef "NarrowingPacker$Follower" 86 "a packed byte is missing").before a0 s0 = true := Z _ (List.mem_append_right _ (List.mem_of_getElem? (i := 685) (by decide +kernel)))
theorem u_686 (Z : a_Z a0 s0) : (Cond.methodLink "NarrowingPacker$Follower" 88 ⟨"java/util/NoSuchElementException", "<init>", "(Ljava/lang/String;)V"⟩).before a0 s0 = true := Z _ (List.mem_append_right _ (List.mem_of_getElem? (i := 686) (by decide +kernel)))
theorem u_687 (Z : a_Z a0 s0) : (Cond.instanceMethod ⟨"java/util/NoSuchElementException", "<init>", "(Ljava/lang/String;)V"⟩).before a0 s0 = true := Z _ (List.mem_append_right _ (List.mem_of_getElem? (i := 687) (by decide +kernel)))
theorem u_688 (Z : a_Z a0 s0) : (Cond.code ⟨"java/util/NoSuchElementException", "<init>", "(Ljava/lang/String;)V"⟩ prog_24_method_4_code 2 (Option.none : Option FieldType)).before a0 s0 = true := Z _ (List.mem_append_right _ (List.mem_of_getElem? (i := 688) (by decide +kernel)))
theorem u_689 (Z : a_Z a0 s0) : (Cond.methodLink "java/util/NoSuchElementException" 13 ⟨"java/lang/RuntimeException", "<init>", "(Ljava/lang/String;)V"⟩).before a0 s0 = true := Z _ (List.mem_append_right _ (List.mem_of_getElem? (i := 689) (by decide +kernel)))
theorem u_690 (Z : a_Z a0 s0) : (Cond.lays "java/util/NoSuchElementException" "java/lang/Throwable" "depth" "I").before a0 s0 = true := Z _ (List.mem_append_right _ (List.mem_of_getElem? (i := 690) (by decide +kernel)))
theorem u_692 (Z : a_Z a0 s0) : (Cond.classLink "NarrowingPacker$Follower" 57 "java/lang/IllegalArgumentException").before a0 s0 = true := Z _ (List.mem_append_right _ (List.mem_of_getElem? (i := 692) (by decide +kernel)))
theorem u_693 (Z : a_Z a0 s0) : (Cond.stringRef "NarrowingPacker$Follower" 59 "the first four bytes are all 255").before a0 s0 = true := Z _ (List.mem_append_right _ (List.mem_of_getElem? (i := 693) (by decide +kernel)))
theorem u_694 (Z : a_Z a0 s0) : (Cond.methodLink "NarrowingPacker$Follower" 61 ⟨"java/lang/IllegalArgumentException", "<init>", "(Ljava/lang/String;)V"⟩).before a0 s0 = true := Z _ (List.mem_append_right _ (List.mem_of_getElem? (i := 694) (by decide +kernel)))
theorem u_695 (Z : a_Z a0 s0) : (Cond.methodLink "NarrowingPacker" 166 y_Re_readPacket).before a0 s0 = true := Z _ (List.mem_append_right _ (List.mem_of_getElem? (i := 695) (by decide +kernel)))
theorem u_696 (Z : a_Z a0 s0) : (Cond.instanceMethod y_Re_readPacket).before a0 s0 = true := Z _ (List.mem_append_right _ (List.mem_of_getElem? (i := 696) (by decide +kernel)))
theorem u_697 (Z : a_Z a0 s0) : (Cond.selects "NarrowingPacker$PacketReader" y_Re_readPacket y_Re_readPacket).before a0 s0 = true := Z _ (List.mem_append_right _ (List.mem_of_getElem? (i := 697) (by decide +kernel)))
theorem u_698 (Z : a_Z a0 s0) : (Cond.code y_Re_readPacket prog_10_method_2_code 4 (Option.none : Option FieldType)).before a0 s0 = true := Z _ (List.mem_append_right _ (List.mem_of_getElem? (i := 698) (by decide +kernel)))
theorem u_699 (Z : a_Z a0 s0) : (Cond.methodLink "NarrowingPacker$PacketReader" 24 y_Fo_readBit).before a0 s0 = true := Z _ (List.mem_append_right _ (List.mem_of_getElem? (i := 699) (by decide +kernel)))
theorem u_700 (Z : a_Z a0 s0) : (Cond.instanceMethod y_Fo_readBit).before a0 s0 = true := Z _ (List.mem_append_right _ (List.mem_of_getElem? (i := 700) (by decide +kernel)))
theorem u_701 (Z : a_Z a0 s0) : (Cond.selects "NarrowingPacker$Follower" y_Fo_readBit y_Fo_readBit).before a0 s0 = true := Z _ (List.mem_append_right _ (List.mem_of_getElem? (i := 701) (by decide +kernel)))
theorem u_702 (Z : a_Z a0 s0) : (Cond.code y_Fo_readBit prog_5_method_3_code 5 (Option.some FieldType.int)).before a0 s0 = true := Z _ (List.mem_append_right _ (List.mem_of_getElem? (i := 702) (by decide +kernel)))
theorem u_703 (Z : a_Z a0 s0) : (Cond.methodLink "NarrowingPacker$Follower" 64 y_Ch_boundIn).before a0 s0 = true := Z _ (List.mem_append_right _ (List.mem_of_getElem? (i := 703) (by decide +kernel)))
theorem u_704 (Z : a_Z a0 s0) : (Cond.methodLink "NarrowingPacker$Follower" 68 y_Ch_learn).before a0 s0 = true := Z _ (List.mem_append_right _ (List.mem_of_getElem? (i := 704) (by decide +kernel)))
theorem u_705 (Z : a_Z a0 s0) : (Cond.constantLong "NarrowingPacker$Follower" 72 (16777216 : Int64)).before a0 s0 = true := Z _ (List.mem_append_right _ (List.mem_of_getElem? (i := 705) (by decide +kernel)))
theorem u_706 (Z : a_Z a0 s0) : (Cond.methodLink "NarrowingPacker$PacketReader" 28 y_Re_readLiteral).before a0 s0 = true := Z _ (List.mem_append_right _ (List.mem_of_getElem? (i := 706) (by decide +kernel)))
theorem u_708 (Z : a_Z a0 s0) : (Cond.instanceMethod y_Re_readLiteral).before a0 s0 = true := Z _ (List.mem_append_right _ (List.mem_of_getElem? (i := 708) (by decide +kernel)))
theorem u_709 (Z : a_Z a0 s0) : (Cond.code y_Re_readLiteral prog_10_method_3_code 10 (Option.some FieldType.int)).before a0 s0 = true := Z _ (List.mem_append_right _ (List.mem_of_getElem? (i := 709) (by decide +kernel)))
theorem u_710 (Z : a_Z a0 s0) : (Cond.methodLink "NarrowingPacker$PacketReader" 50 y_Hi_placeOfLiterals).before a0 s0 = true := Z _ (List.mem_append_right _ (List.mem_of_getElem? (i := 710) (by decide +kernel)))
theorem u_711 (Z : a_Z a0 s0) : (Cond.methodLink "NarrowingPacker$PacketReader" 54 y_Hi_byteBefore).before a0 s0 = true := Z _ (List.mem_append_right _ (List.mem_of_getElem? (i := 711) (by decide +kernel)))
theorem u_712 (Z : a_Z a0 s0) : (Cond.methodLink "NarrowingPacker$PacketReader" 57 y_Hi_isBehindACopy).before a0 s0 = true := Z _ (List.mem_append_right _ (List.mem_of_getElem? (i := 712) (by decide +kernel)))
theorem u_713 (Z : a_Z a0 s0) : (Cond.methodLink "NarrowingPacker$PacketReader" 32 y_Pa_becomeLiteral).before a0 s0 = true := Z _ (List.mem_append_right _ (List.mem_of_getElem? (i := 713) (by decide +kernel)))
theorem u_714 (Z : a_Z a0 s0) : (Cond.methodLink "NarrowingPacker$PacketReader" 38 y_Re_readMatchOrEnd).before a0 s0 = true := Z _ (List.mem_append_right _ (List.mem_of_getElem? (i := 714) (by decide +kernel)))
theorem u_716 (Z : a_Z a0 s0) : (Cond.instanceMethod y_Re_readMatchOrEnd).before a0 s0 = true := Z _ (List.mem_append_right _ (List.mem_of_getElem? (i := 716) (by decide +kernel)))
theorem u_717 (Z : a_Z a0 s0) : (Cond.code y_Re_readMatchOrEnd prog_10_method_4_code 4 (Option.none : Option FieldType)).before a0 s0 = true := Z _ (List.mem_append_right _ (List.mem_of_getElem? (i := 717) (by decide +kernel)))
theorem u_718 (Z : a_Z a0 s0) : (Cond.methodLink "NarrowingPacker$PacketReader" 61 y_Re_readLength).before a0 s0 = true := Z _ (List.mem_append_right _ (List.mem_of_getElem? (i := 718) (by decide +kernel)))
theorem u_720 (Z : a_Z a0 s0) : (Cond.instanceMethod y_Re_readLength).before a0 s0 = true := Z _ (List.mem_append_right _ (List.mem_of_getElem? (i := 720) (by decide +kernel)))
theorem u_721 (Z : a_Z a0 s0) : (Cond.code y_Re_readLength prog_10_method_7_code 2 (Option.some FieldType.int)).before a0 s0 = true := Z _ (List.mem_append_right _ (List.mem_of_getElem? (i := 721) (by decide +kernel)))
theorem u_722 (Z : a_Z a0 s0) : (Cond.methodLink "NarrowingPacker$PacketReader" 70 y_Fo_readTree).before a0 s0 = true := Z _ (List.mem_append_right _ (List.mem_of_getElem? (i := 722) (by decide +kernel)))
theorem u_723 (Z : a_Z a0 s0) : (Cond.instanceMethod y_Fo_readTree).before a0 s0 = true := Z _ (List.mem_append_right _ (List.mem_of_getElem? (i := 723) (by decide +kernel)))
theorem u_724 (Z : a_Z a0 s0) : (Cond.selects "NarrowingPacker$Follower" y_Fo_readTree y_Fo_readTree).before a0 s0 = true := Z _ (List.mem_append_right _ (List.mem_of_getElem? (i := 724) (by decide +kernel)))
theorem u_725 (Z : a_Z a0 s0) : (Cond.code y_Fo_readTree prog_5_method_4_code 5 (Option.some FieldType.int)).before a0 s0 = true := Z _ (List.mem_append_right _ (List.mem_of_getElem? (i := 725) (by decide +kernel)))
theorem u_726 (Z : a_Z a0 s0) : (Cond.methodLink "NarrowingPacker$Follower" 74 y_Fo_readBit).before a0 s0 = true := Z _ (List.mem_append_right _ (List.mem_of_getElem? (i := 726) (by decide +kernel)))
theorem u_727 (Z : a_Z a0 s0) : (Cond.methodLink "NarrowingPacker$PacketReader" 64 Lib.Math.min.name).before a0 s0 = true := Z _ (List.mem_append_right _ (List.mem_of_getElem? (i := 727) (by decide +kernel)))
theorem u_728 (Z : a_Z a0 s0) : (Cond.methodLink "NarrowingPacker$PacketReader" 73 y_Pa_becomeEnd).before a0 s0 = true := Z _ (List.mem_append_right _ (List.mem_of_getElem? (i := 728) (by decide +kernel)))
theorem u_729 (Z : a_Z a0 s0) : (Cond.classLink "NarrowingPacker$PacketReader" 76 "java/lang/IndexOutOfBoundsException").before a0 s0 = true := Z _ (List.mem_append_right _ (List.mem_of_getElem? (i := 729) (by decide +kernel)))
theorem u_730 (Z : a_Z a0 s0) : (Cond.stringRef "NarrowingPacker$PacketReader" 78 "a slot whose distances are all too far").before a0 s0 = true := Z _ (List.mem_append_right _ (List.mem_of_getElem? (i := 730) (by decide +kernel)))
theorem u_731 (Z : a_Z a0 s0) : (Cond.methodLink "NarrowingPacker$PacketReader" 80 ⟨"java/lang/IndexOutOfBoundsException", "<init>", "(Ljava/lang/String;)V"⟩).before a0 s0 = true := Z _ (List.mem_append_right _ (List.mem_of_getElem? (i := 731) (by decide +kernel)))
theorem u_732 (Z : a_Z a0 s0) : (Cond.methodLink "NarrowingPacker$PacketReader" 83 y_Re_readDistance).before a0 s0 = true := Z _ (List.mem_append_right _ (List.mem_of_getElem? (i := 732) (by decide +kernel)))
theorem u_734 (Z : a_Z a0 s0) : (Cond.instanceMethod y_Re_readDistance).before a0 s0 = true := Z _ (List.mem_append_right _ (List.mem_of_getElem? (i := 734) (by decide +kernel)))
theorem u_735 (Z : a_Z a0 s0) : (Cond.code y_Re_readDistance prog_10_method_5_code 5 (Option.some FieldType.int)).before a0 s0 = true := Z _ (List.mem_append_right _ (List.mem_of_getElem? (i := 735) (by decide +kernel)))
theorem u_736 (Z : a_Z a0 s0) : (Cond.methodLink "NarrowingPacker$PacketReader" 90 y_Fo_readRow).before a0 s0 = true := Z _ (List.mem_append_right _ (List.mem_of_getElem? (i := 736) (by decide +kernel)))
theorem u_737 (Z : a_Z a0 s0) : (Cond.instanceMethod y_Fo_readRow).before a0 s0 = true := Z _ (List.mem_append_right _ (List.mem_of_getElem? (i := 737) (by decide +kernel)))
theorem u_738 (Z : a_Z a0 s0) : (Cond.selects "NarrowingPacker$Follower" y_Fo_readRow y_Fo_readRow).before a0 s0 = true := Z _ (List.mem_append_right _ (List.mem_of_getElem? (i := 738) (by decide +kernel)))
theorem u_739 (Z : a_Z a0 s0) : (Cond.code y_Fo_readRow prog_5_method_5_code 7 (Option.some FieldType.int)).before a0 s0 = true := Z _ (List.mem_append_right _ (List.mem_of_getElem? (i := 739) (by decide +kernel)))
theorem u_740 (Z : a_Z a0 s0) : (Cond.methodLink "NarrowingPacker$PacketReader" 86 y_Pa_becomeMatch).before a0 s0 = true := Z _ (List.mem_append_right _ (List.mem_of_getElem? (i := 740) (by decide +kernel)))
theorem u_741 (Z : a_Z a0 s0) : (Cond.methodLink "NarrowingPacker$PacketReader" 46 y_Re_readRepeat).before a0 s0 = true := Z _ (List.mem_append_right _ (List.mem_of_getElem? (i := 741) (by decide +kernel)))
theorem u_743 (Z : a_Z a0 s0) : (Cond.instanceMethod y_Re_readRepeat).before a0 s0 = true := Z _ (List.mem_append_right _ (List.mem_of_getElem? (i := 743) (by decide +kernel)))
theorem u_744 (Z : a_Z a0 s0) : (Cond.code y_Re_readRepeat prog_10_method_6_code 6 (Option.none : Option FieldType)).before a0 s0 = true := Z _ (List.mem_append_right _ (List.mem_of_getElem? (i := 744) (by decide +kernel)))
theorem u_745 (Z : a_Z a0 s0) : (Cond.methodLink "NarrowingPacker$PacketReader" 93 y_Pa_becomeShort).before a0 s0 = true := Z _ (List.mem_append_right _ (List.mem_of_getElem? (i := 745) (by decide +kernel)))
theorem u_746 (Z : a_Z a0 s0) : (Cond.methodLink "NarrowingPacker$PacketReader" 96 y_Pa_becomeEcho).before a0 s0 = true := Z _ (List.mem_append_right _ (List.mem_of_getElem? (i := 746) (by decide +kernel)))
theorem u_747 (Z : a_Z a0 s0) : (Cond.methodLink "NarrowingPacker" 173 y_Np_refuseWhatCannotBeTold).before a0 s0 = true := Z _ (List.mem_append_right _ (List.mem_of_getElem? (i := 747) (by decide +kernel)))
theorem u_749 (Z : a_Z a0 s0) : (Cond.instanceMethod y_Np_refuseWhatCannotBeTold).before a0 s0 = true := Z _ (List.mem_append_right _ (List.mem_of_getElem? (i := 749) (by decide +kernel)))
theorem u_750 (Z : a_Z a0 s0) : (Cond.code y_Np_refuseWhatCannotBeTold prog_1_method_19_code 1 (Option.none : Option FieldType)).before a0 s0 = true := Z _ (List.mem_append_right _ (List.mem_of_getElem? (i := 750) (by decide +kernel)))
theorem u_751 (Z : a_Z a0 s0) : (Cond.stringRef "NarrowingPacker" 224 "a distance before the first byte").before a0 s0 = true := Z _ (List.mem_append_right _ (List.mem_of_getElem? (i := 751) (by decide +kernel)))
theorem u_752 (Z : a_Z a0 s0) : (Cond.stringRef "NarrowingPacker" 227 "more bytes told than there is room for").before a0 s0 = true := Z _ (List.mem_append_right _ (List.mem_of_getElem? (i := 752) (by decide +kernel)))
theorem u_753 (Z : a_Z a0 s0) : (Cond.methodLink "NarrowingPacker" 180 y_Fo_refuseWhatIsLeft).before a0 s0 = true := Z _ (List.mem_append_right _ (List.mem_of_getElem? (i := 753) (by decide +kernel)))
theorem u_754 (Z : a_Z a0 s0) : (Cond.instanceMethod y_Fo_refuseWhatIsLeft).before a0 s0 = true := Z _ (List.mem_append_right _ (List.mem_of_getElem? (i := 754) (by decide +kernel)))
theorem u_755 (Z : a_Z a0 s0) : (Cond.selects "NarrowingPacker$Follower" y_Fo_refuseWhatIsLeft y_Fo_refuseWhatIsLeft).before a0 s0 = true := Z _ (List.mem_append_right _ (List.mem_of_getElem? (i := 755) (by decide +kernel)))
theorem u_756 (Z : a_Z a0 s0) : (Cond.code y_Fo_refuseWhatIsLeft prog_5_method_6_code 1 (Option.none : Option FieldType)).before a0 s0 = true := Z _ (List.mem_append_right _ (List.mem_of_getElem? (i := 756) (by decide +kernel)))
theorem u_757 (Z : a_Z a0 s0) : (Cond.stringRef "NarrowingPacker$Follower" 78 "something is left behind the end").before a0 s0 = true := Z _ (List.mem_append_right _ (List.mem_of_getElem? (i := 757) (by decide +kernel)))
theorem u_758 (Z : a_Z a0 s0) : (Cond.classLink "NarrowingPackerLaw" 41 "NarrowingPackerModel").before a0 s0 = true := Z _ (List.mem_append_right _ (List.mem_of_getElem? (i := 758) (by decide +kernel)))
theorem u_759 (Z : a_Z a0 s0) : (Cond.instantiable "NarrowingPackerModel" 34).before a0 s0 = true := Z _ (List.mem_append_right _ (List.mem_of_getElem? (i := 759) (by decide +kernel)))
theorem u_760 (Z : a_Z a0 s0) : (Cond.methodLink "NarrowingPackerLaw" 43 y_Mo_init).before a0 s0 = true := Z _ (List.mem_append_right _ (List.mem_of_getElem? (i := 760) (by decide +kernel)))
theorem u_761 (Z : a_Z a0 s0) : (Cond.instanceMethod y_Mo_init).before a0 s0 = true := Z _ (List.mem_append_right _ (List.mem_of_getElem? (i := 761) (by decide +kernel)))
theorem u_762 (Z : a_Z a0 s0) : (Cond.code y_Mo_init prog_13_method_1_code 2 (Option.none : Option FieldType)).before a0 s0 = true := Z _ (List.mem_append_right _ (List.mem_of_getElem? (i := 762) (by decide +kernel)))
theorem u_763 (Z : a_Z a0 s0) : (Cond.methodLink "NarrowingPackerModel" 1 Lib.objectInit).before a0 s0 = true := Z _ (List.mem_append_right _ (List.mem_of_getElem? (i := 763) (by decide +kernel)))
theorem u_764 (Z : a_Z a0 s0) : (Cond.fieldLink "NarrowingPackerModel" 56 "NarrowingPackerModel" "fault" "I").before a0 s0 = true := Z _ (List.mem_append_right _ (List.mem_of_getElem? (i := 764) (by decide +kernel)))
theorem u_765 (Z : a_Z a0 s0) : (Cond.fieldLink "NarrowingPackerModel" 52 "NarrowingPackerModel" "limit" "I").before a0 s0 = true := Z _ (List.mem_append_right _ (List.mem_of_getElem? (i := 765) (by decide +kernel)))
theorem u_766 (Z : a_Z a0 s0) : (Cond.fieldLink "NarrowingPackerModel" 63 "NarrowingPackerModel" "typed" "I").before a0 s0 = true := Z _ (List.mem_append_right _ (List.mem_of_getElem? (i := 766) (by decide +kernel)))
theorem u_767 (Z : a_Z a0 s0) : (Cond.fieldLink "NarrowingPackerModel" 7 "NarrowingPackerModel" "source" "[I").before a0 s0 = true := Z _ (List.mem_append_right _ (List.mem_of_getElem? (i := 767) (by decide +kernel)))
theorem u_768 (Z : a_Z a0 s0) : (Cond.fieldLink "NarrowingPackerModel" 99 "NarrowingPackerModel" "size" "I").before a0 s0 = true := Z _ (List.mem_append_right _ (List.mem_of_getElem? (i := 768) (by decide +kernel)))
theorem u_769 (Z : a_Z a0 s0) : (Cond.fieldLink "NarrowingPackerModel" 13 "NarrowingPackerModel" "packed" "[I").before a0 s0 = true := Z _ (List.mem_append_right _ (List.mem_of_getElem? (i := 769) (by decide +kernel)))
theorem u_770 (Z : a_Z a0 s0) : (Cond.fieldLink "NarrowingPackerModel" 190 "NarrowingPackerModel" "told" "I").before a0 s0 = true := Z _ (List.mem_append_right _ (List.mem_of_getElem? (i := 770) (by decide +kernel)))
theorem u_771 (Z : a_Z a0 s0) : (Cond.fieldLink "NarrowingPackerModel" 16 "NarrowingPackerModel" "result" "[I").before a0 s0 = true := Z _ (List.mem_append_right _ (List.mem_of_getElem? (i := 771) (by decide +kernel)))
theorem u_772 (Z : a_Z a0 s0) : (Cond.fieldLink "NarrowingPackerModel" 184 "NarrowingPackerModel" "has" "Z").before a0 s0 = true := Z _ (List.mem_append_right _ (List.mem_of_getElem? (i := 772) (by decide +kernel)))
theorem u_773 (Z : a_Z a0 s0) : (Cond.fieldLink "NarrowingPackerModel" 187 "NarrowingPackerModel" "packets" "I").before a0 s0 = true := Z _ (List.mem_append_right _ (List.mem_of_getElem? (i := 773) (by decide +kernel)))
theorem u_774 (Z : a_Z a0 s0) : (Cond.fieldLink "NarrowingPackerModel" 19 "NarrowingPackerModel" "packetKind" "[I").before a0 s0 = true := Z _ (List.mem_append_right _ (List.mem_of_getElem? (i := 774) (by decide +kernel)))
theorem u_775 (Z : a_Z a0 s0) : (Cond.fieldLink "NarrowingPackerModel" 22 "NarrowingPackerModel" "packetLength" "[I").before a0 s0 = true := Z _ (List.mem_append_right _ (List.mem_of_getElem? (i := 775) (by decide +kernel)))
theorem u_776 (Z : a_Z a0 s0) : (Cond.fieldLink "NarrowingPackerModel" 25 "NarrowingPackerModel" "packetDistance" "[I").before a0 s0 = true := Z _ (List.mem_append_right _ (List.mem_of_getElem? (i := 776) (by decide +kernel)))
theorem u_777 (Z : a_Z a0 s0) : (Cond.fieldLink "NarrowingPackerModel" 28 "NarrowingPackerModel" "kept" "[I").before a0 s0 = true := Z _ (List.mem_append_right _ (List.mem_of_getElem? (i := 777) (by decide +kernel)))
theorem u_778 (Z : a_Z a0 s0) : (Cond.fieldLink "NarrowingPackerModel" 66 "NarrowingPackerModel" "packs" "Z").before a0 s0 = true := Z _ (List.mem_append_right _ (List.mem_of_getElem? (i := 778) (by decide +kernel)))
theorem u_779 (Z : a_Z a0 s0) : (Cond.fieldLink "NarrowingPackerModel" 70 "NarrowingPackerModel" "bad" "I").before a0 s0 = true := Z _ (List.mem_append_right _ (List.mem_of_getElem? (i := 779) (by decide +kernel)))
theorem u_780 (Z : a_Z a0 s0) : (Cond.fieldLink "NarrowingPackerModel" 31 "NarrowingPackerModel" "chances" "[I").before a0 s0 = true := Z _ (List.mem_append_right _ (List.mem_of_getElem? (i := 780) (by decide +kernel)))
theorem u_781 (Z : a_Z a0 s0) : (Cond.fieldLink "NarrowingPackerModel" 75 "NarrowingPackerModel" "range" "J").before a0 s0 = true := Z _ (List.mem_append_right _ (List.mem_of_getElem? (i := 781) (by decide +kernel)))
theorem u_782 (Z : a_Z a0 s0) : (Cond.fieldLink "NarrowingPackerModel" 88 "NarrowingPackerModel" "places" "I").before a0 s0 = true := Z _ (List.mem_append_right _ (List.mem_of_getElem? (i := 782) (by decide +kernel)))
theorem u_783 (Z : a_Z a0 s0) : (Cond.fieldLink "NarrowingPackerModel" 34 "NarrowingPackerModel" "digits" "[I").before a0 s0 = true := Z _ (List.mem_append_right _ (List.mem_of_getElem? (i := 783) (by decide +kernel)))
theorem u_784 (Z : a_Z a0 s0) : (Cond.fieldLink "NarrowingPackerModel" 91 "NarrowingPackerModel" "code" "J").before a0 s0 = true := Z _ (List.mem_append_right _ (List.mem_of_getElem? (i := 784) (by decide +kernel)))
theorem u_785 (Z : a_Z a0 s0) : (Cond.fieldLink "NarrowingPackerModel" 94 "NarrowingPackerModel" "next" "I").before a0 s0 = true := Z _ (List.mem_append_right _ (List.mem_of_getElem? (i := 785) (by decide +kernel)))
theorem u_786 (Z : a_Z a0 s0) : (Cond.fieldLink "NarrowingPackerModel" 79 "NarrowingPackerModel" "n" "I").before a0 s0 = true := Z _ (List.mem_append_right _ (List.mem_of_getElem? (i := 786) (by decide +kernel)))
theorem u_787 (Z : a_Z a0 s0) : (Cond.fieldLink "NarrowingPackerModel" 82 "NarrowingPackerModel" "state" "I").before a0 s0 = true := Z _ (List.mem_append_right _ (List.mem_of_getElem? (i := 787) (by decide +kernel)))
theorem u_788 (Z : a_Z a0 s0) : (Cond.fieldLink "NarrowingPackerModel" 37 "NarrowingPackerModel" "bytes" "[I").before a0 s0 = true := Z _ (List.mem_append_right _ (List.mem_of_getElem? (i := 788) (by decide +kernel)))
theorem u_789 (Z : a_Z a0 s0) : (Cond.fieldLink "NarrowingPackerModel" 40 "NarrowingPackerModel" "back" "[I").before a0 s0 = true := Z _ (List.mem_append_right _ (List.mem_of_getElem? (i := 789) (by decide +kernel)))
theorem u_790 (Z : a_Z a0 s0) : (Cond.fieldLink "NarrowingPackerModel" 85 "NarrowingPackerModel" "count" "I").before a0 s0 = true := Z _ (List.mem_append_right _ (List.mem_of_getElem? (i := 790) (by decide +kernel)))
theorem u_791 (Z : a_Z a0 s0) : (Cond.fieldLink "NarrowingPackerModel" 43 "NarrowingPackerModel" "kindOf" "[I").before a0 s0 = true := Z _ (List.mem_append_right _ (List.mem_of_getElem? (i := 791) (by decide +kernel)))
theorem u_792 (Z : a_Z a0 s0) : (Cond.fieldLink "NarrowingPackerModel" 46 "NarrowingPackerModel" "lengthOf" "[I").before a0 s0 = true := Z _ (List.mem_append_right _ (List.mem_of_getElem? (i := 792) (by decide +kernel)))
theorem u_793 (Z : a_Z a0 s0) : (Cond.fieldLink "NarrowingPackerModel" 49 "NarrowingPackerModel" "distanceOf" "[I").before a0 s0 = true := Z _ (List.mem_append_right _ (List.mem_of_getElem? (i := 793) (by decide +kernel)))
theorem u_794 (Z : a_Z a0 s0) : (Cond.fieldLink "NarrowingPackerModel" 139 "NarrowingPackerModel" "chosen" "I").before a0 s0 = true := Z _ (List.mem_append_right _ (List.mem_of_getElem? (i := 794) (by decide +kernel)))
theorem u_795 (Z : a_Z a0 s0) : (Cond.fieldLink "NarrowingPackerModel" 151 "NarrowingPackerModel" "long0" "I").before a0 s0 = true := Z _ (List.mem_append_right _ (List.mem_of_getElem? (i := 795) (by decide +kernel)))
theorem u_796 (Z : a_Z a0 s0) : (Cond.fieldLink "NarrowingPackerModel" 142 "NarrowingPackerModel" "far" "I").before a0 s0 = true := Z _ (List.mem_append_right _ (List.mem_of_getElem? (i := 796) (by decide +kernel)))
theorem u_797 (Z : a_Z a0 s0) : (Cond.fieldLink "NarrowingPackerModel" 164 "NarrowingPackerModel" "which" "I").before a0 s0 = true := Z _ (List.mem_append_right _ (List.mem_of_getElem? (i := 797) (by decide +kernel)))
theorem u_798 (Z : a_Z a0 s0) : (Cond.lays "NarrowingPackerModel" "NarrowingPackerModel" "fault" "I").before a0 s0 = true := Z _ (List.mem_append_right _ (List.mem_of_getElem? (i := 798) (by decide +kernel)))
theorem u_800 (Z : a_Z a0 s0) : (Cond.laysFinal "NarrowingPackerModel" "NarrowingPackerModel" "limit" "I").before a0 s0 = true := Z _ (List.mem_append_right _ (List.mem_of_getElem? (i := 800) (by decide +kernel)))
theorem u_802 (Z : a_Z a0 s0) : (Cond.lays "NarrowingPackerModel" "NarrowingPackerModel" "typed" "I").before a0 s0 = true := Z _ (List.mem_append_right _ (List.mem_of_getElem? (i := 802) (by decide +kernel)))
theorem u_804 (Z : a_Z a0 s0) : (Cond.laysFinal "NarrowingPackerModel" "NarrowingPackerModel" "source" "[I").before a0 s0 = true := Z _ (List.mem_append_right _ (List.mem_of_getElem? (i := 804) (by decide +kernel)))
theorem u_806 (Z : a_Z a0 s0) : (Cond.lays "NarrowingPackerModel" "NarrowingPackerModel" "size" "I").before a0 s0 = true := Z _ (List.mem_append_right _ (List.mem_of_getElem? (i := 806) (by decide +kernel)))
theorem u_808 (Z : a_Z a0 s0) : (Cond.laysFinal "NarrowingPackerModel" "NarrowingPackerModel" "packed" "[I").before a0 s0 = true := Z _ (List.mem_append_right _ (List.mem_of_getElem? (i := 808) (by decide +kernel)))
theorem u_810 (Z : a_Z a0 s0) : (Cond.lays "NarrowingPackerModel" "NarrowingPackerModel" "told" "I").before a0 s0 = true := Z _ (List.mem_append_right _ (List.mem_of_getElem? (i := 810) (by decide +kernel)))
theorem u_812 (Z : a_Z a0 s0) : (Cond.laysFinal "NarrowingPackerModel" "NarrowingPackerModel" "result" "[I").before a0 s0 = true := Z _ (List.mem_append_right _ (List.mem_of_getElem? (i := 812) (by decide +kernel)))
theorem u_814 (Z : a_Z a0 s0) : (Cond.lays "NarrowingPackerModel" "NarrowingPackerModel" "has" "Z").before a0 s0 = true := Z _ (List.mem_append_right _ (List.mem_of_getElem? (i := 814) (by decide +kernel)))
theorem u_816 (Z : a_Z a0 s0) : (Cond.lays "NarrowingPackerModel" "NarrowingPackerModel" "packets" "I").before a0 s0 = true := Z _ (List.mem_append_right _ (List.mem_of_getElem? (i := 816) (by decide +kernel)))
theorem u_818 (Z : a_Z a0 s0) : (Cond.laysFinal "NarrowingPackerModel" "NarrowingPackerModel" "packetKind" "[I").before a0 s0 = true := Z _ (List.mem_append_right _ (List.mem_of_getElem? (i := 818) (by decide +kernel)))
theorem u_820 (Z : a_Z a0 s0) : (Cond.laysFinal "NarrowingPackerModel" "NarrowingPackerModel" "packetLength" "[I").before a0 s0 = true := Z _ (List.mem_append_right _ (List.mem_of_getElem? (i := 820) (by decide +kernel)))
theorem u_822 (Z : a_Z a0 s0) : (Cond.laysFinal "NarrowingPackerModel" "NarrowingPackerModel" "packetDistance" "[I").before a0 s0 = true := Z _ (List.mem_append_right _ (List.mem_of_getElem? (i := 822) (by decide +kernel)))
theorem u_824 (Z : a_Z a0 s0) : (Cond.laysFinal "NarrowingPackerModel" "NarrowingPackerModel" "kept" "[I").before a0 s0 = true := Z _ (List.mem_append_right _ (List.mem_of_getElem? (i := 824) (by decide +kernel)))
theorem u_826 (Z : a_Z a0 s0) : (Cond.lays "NarrowingPackerModel" "NarrowingPackerModel" "packs" "Z").before a0 s0 = true := Z _ (List.mem_append_right _ (List.mem_of_getElem? (i := 826) (by decide +kernel)))
theorem u_828 (Z : a_Z a0 s0) : (Cond.lays "NarrowingPackerModel" "NarrowingPackerModel" "bad" "I").before a0 s0 = true := Z _ (List.mem_append_right _ (List.mem_of_getElem? (i := 828) (by decide +kernel)))
theorem u_830 (Z : a_Z a0 s0) : (Cond.laysFinal "NarrowingPackerModel" "NarrowingPackerModel" "chances" "[I").before a0 s0 = true := Z _ (List.mem_append_right _ (List.mem_of_getElem? (i := 830) (by decide +kernel)))
theorem u_832 (Z : a_Z a0 s0) : (Cond.lays "NarrowingPackerModel" "NarrowingPackerModel" "range" "J").before a0 s0 = true := Z _ (List.mem_append_right _ (List.mem_of_getElem? (i := 832) (by decide +kernel)))
theorem u_834 (Z : a_Z a0 s0) : (Cond.lays "NarrowingPackerModel" "NarrowingPackerModel" "places" "I").before a0 s0 = true := Z _ (List.mem_append_right _ (List.mem_of_getElem? (i := 834) (by decide +kernel)))
theorem u_836 (Z : a_Z a0 s0) : (Cond.laysFinal "NarrowingPackerModel" "NarrowingPackerModel" "digits" "[I").before a0 s0 = true := Z _ (List.mem_append_right _ (List.mem_of_getElem? (i := 836) (by decide +kernel)))
theorem u_838 (Z : a_Z a0 s0) : (Cond.lays "NarrowingPackerModel" "NarrowingPackerModel" "code" "J").before a0 s0 = true := Z _ (List.mem_append_right _ (List.mem_of_getElem? (i := 838) (by decide +kernel)))
theorem u_840 (Z : a_Z a0 s0) : (Cond.lays "NarrowingPackerModel" "NarrowingPackerModel" "next" "I").before a0 s0 = true := Z _ (List.mem_append_right _ (List.mem_of_getElem? (i := 840) (by decide +kernel)))
theorem u_842 (Z : a_Z a0 s0) : (Cond.lays "NarrowingPackerModel" "NarrowingPackerModel" "n" "I").before a0 s0 = true := Z _ (List.mem_append_right _ (List.mem_of_getElem? (i := 842) (by decide +kernel)))
theorem u_844 (Z : a_Z a0 s0) : (Cond.lays "NarrowingPackerModel" "NarrowingPackerModel" "state" "I").before a0 s0 = true := Z _ (List.mem_append_right _ (List.mem_of_getElem? (i := 844) (by decide +kernel)))
theorem u_846 (Z : a_Z a0 s0) : (Cond.laysFinal "NarrowingPackerModel" "NarrowingPackerModel" "bytes" "[I").before a0 s0 = true := Z _ (List.mem_append_right _ (List.mem_of_getElem? (i := 846) (by decide +kernel)))
theorem u_848 (Z : a_Z a0 s0) : (Cond.laysFinal "NarrowingPackerModel" "NarrowingPackerModel" "back" "[I").before a0 s0 = true := Z _ (List.mem_append_right _ (List.mem_of_getElem? (i := 848) (by decide +kernel)))
theorem u_850 (Z : a_Z a0 s0) : (Cond.lays "NarrowingPackerModel" "NarrowingPackerModel" "count" "I").before a0 s0 = true := Z _ (List.mem_append_right _ (List.mem_of_getElem? (i := 850) (by decide +kernel)))
theorem u_852 (Z : a_Z a0 s0) : (Cond.laysFinal "NarrowingPackerModel" "NarrowingPackerModel" "kindOf" "[I").before a0 s0 = true := Z _ (List.mem_append_right _ (List.mem_of_getElem? (i := 852) (by decide +kernel)))
theorem u_854 (Z : a_Z a0 s0) : (Cond.laysFinal "NarrowingPackerModel" "NarrowingPackerModel" "lengthOf" "[I").before a0 s0 = true := Z _ (List.mem_append_right _ (List.mem_of_getElem? (i := 854) (by decide +kernel)))
theorem u_856 (Z : a_Z a0 s0) : (Cond.laysFinal "NarrowingPackerModel" "NarrowingPackerModel" "distanceOf" "[I").before a0 s0 = true := Z _ (List.mem_append_right _ (List.mem_of_getElem? (i := 856) (by decide +kernel)))
theorem u_858 (Z : a_Z a0 s0) : (Cond.lays "NarrowingPackerModel" "NarrowingPackerModel" "chosen" "I").before a0 s0 = true := Z _ (List.mem_append_right _ (List.mem_of_getElem? (i := 858) (by decide +kernel)))
theorem u_860 (Z : a_Z a0 s0) : (Cond.lays "NarrowingPackerModel" "NarrowingPackerModel" "long0" "I").before a0 s0 = true := Z _ (List.mem_append_right _ (List.mem_of_getElem? (i := 860) (by decide +kernel)))
theorem u_862 (Z : a_Z a0 s0) : (Cond.lays "NarrowingPackerModel" "NarrowingPackerModel" "far" "I").before a0 s0 = true := Z _ (List.mem_append_right _ (List.mem_of_getElem? (i := 862) (by decide +kernel)))
theorem u_864 (Z : a_Z a0 s0) : (Cond.lays "NarrowingPackerModel" "NarrowingPackerModel" "which" "I").before a0 s0 = true := Z _ (List.mem_append_right _ (List.mem_of_getElem? (i := 864) (by decide +kernel)))
theorem u_867 (Z : a_Z a0 s0) : (Cond.methodLink "NarrowingPackerLaw" 57 y_Mo_thrown).before a0 s0 = true := Z _ (List.mem_append_right _ (List.mem_of_getElem? (i := 867) (by decide +kernel)))
theorem u_868 (Z : a_Z a0 s0) : (Cond.instanceMethod y_Mo_thrown).before a0 s0 = true := Z _ (List.mem_append_right _ (List.mem_of_getElem? (i := 868) (by decide +kernel)))
theorem u_869 (Z : a_Z a0 s0) : (Cond.selects "NarrowingPackerModel" y_Mo_thrown y_Mo_thrown).before a0 s0 = true := Z _ (List.mem_append_right _ (List.mem_of_getElem? (i := 869) (by decide +kernel)))
theorem u_870 (Z : a_Z a0 s0) : (Cond.code y_Mo_thrown prog_13_method_2_code 1 (Option.some FieldType.int)).before a0 s0 = true := Z _ (List.mem_append_right _ (List.mem_of_getElem? (i := 870) (by decide +kernel)))
theorem u_871 (Z : a_Z a0 s0) : (Cond.methodLink "NarrowingPackerLaw" 48 y_Mo_type).before a0 s0 = true := Z _ (List.mem_append_right _ (List.mem_of_getElem? (i := 871) (by decide +kernel)))
theorem u_872 (Z : a_Z a0 s0) : (Cond.instanceMethod y_Mo_type).before a0 s0 = true := Z _ (List.mem_append_right _ (List.mem_of_getElem? (i := 872) (by decide +kernel)))
theorem u_873 (Z : a_Z a0 s0) : (Cond.selects "NarrowingPackerModel" y_Mo_type y_Mo_type).before a0 s0 = true := Z _ (List.mem_append_right _ (List.mem_of_getElem? (i := 873) (by decide +kernel)))
theorem u_874 (Z : a_Z a0 s0) : (Cond.code y_Mo_type prog_13_method_4_code 2 (Option.some FieldType.boolean)).before a0 s0 = true := Z _ (List.mem_append_right _ (List.mem_of_getElem? (i := 874) (by decide +kernel)))
theorem u_875 (Z : a_Z a0 s0) : (Cond.methodLink "NarrowingPackerModel" 59 y_Mo_isByte).before a0 s0 = true := Z _ (List.mem_append_right _ (List.mem_of_getElem? (i := 875) (by decide +kernel)))
theorem u_876 (Z : a_Z a0 s0) : (Cond.static y_Mo_isByte).before a0 s0 = true := Z _ (List.mem_append_right _ (List.mem_of_getElem? (i := 876) (by decide +kernel)))
theorem u_877 (Z : a_Z a0 s0) : (Cond.code y_Mo_isByte prog_13_method_3_code 1 (Option.some FieldType.boolean)).before a0 s0 = true := Z _ (List.mem_append_right _ (List.mem_of_getElem? (i := 877) (by decide +kernel)))
theorem u_878 (Z : a_Z a0 s0) : (Cond.methodLink "NarrowingPackerLaw" 52 y_Mo_wipe).before a0 s0 = true := Z _ (List.mem_append_right _ (List.mem_of_getElem? (i := 878) (by decide +kernel)))
theorem u_879 (Z : a_Z a0 s0) : (Cond.instanceMethod y_Mo_wipe).before a0 s0 = true := Z _ (List.mem_append_right _ (List.mem_of_getElem? (i := 879) (by decide +kernel)))
theorem u_880 (Z : a_Z a0 s0) : (Cond.selects "NarrowingPackerModel" y_Mo_wipe y_Mo_wipe).before a0 s0 = true := Z _ (List.mem_append_right _ (List.mem_of_getElem? (i := 880) (by decide +kernel)))
theorem u_881 (Z : a_Z a0 s0) : (Cond.code y_Mo_wipe prog_13_method_5_code 2 (Option.some FieldType.int)).before a0 s0 = true := Z _ (List.mem_append_right _ (List.mem_of_getElem? (i := 881) (by decide +kernel)))
theorem u_882 (Z : a_Z a0 s0) : (Cond.methodLink "NarrowingPackerLaw" 56 y_Mo_pack).before a0 s0 = true := Z _ (List.mem_append_right _ (List.mem_of_getElem? (i := 882) (by decide +kernel)))
theorem u_883 (Z : a_Z a0 s0) : (Cond.instanceMethod y_Mo_pack).before a0 s0 = true := Z _ (List.mem_append_right _ (List.mem_of_getElem? (i := 883) (by decide +kernel)))
theorem u_884 (Z : a_Z a0 s0) : (Cond.selects "NarrowingPackerModel" y_Mo_pack y_Mo_pack).before a0 s0 = true := Z _ (List.mem_append_right _ (List.mem_of_getElem? (i := 884) (by decide +kernel)))
theorem u_885 (Z : a_Z a0 s0) : (Cond.code y_Mo_pack prog_13_method_25_code 2 (Option.some FieldType.int)).before a0 s0 = true := Z _ (List.mem_append_right _ (List.mem_of_getElem? (i := 885) (by decide +kernel)))
theorem u_886 (Z : a_Z a0 s0) : (Cond.methodLink "NarrowingPackerModel" 173 y_Mo_begin).before a0 s0 = true := Z _ (List.mem_append_right _ (List.mem_of_getElem? (i := 886) (by decide +kernel)))
theorem u_888 (Z : a_Z a0 s0) : (Cond.instanceMethod y_Mo_begin).before a0 s0 = true := Z _ (List.mem_append_right _ (List.mem_of_getElem? (i := 888) (by decide +kernel)))
theorem u_889 (Z : a_Z a0 s0) : (Cond.code y_Mo_begin prog_13_method_6_code 3 (Option.none : Option FieldType)).before a0 s0 = true := Z _ (List.mem_append_right _ (List.mem_of_getElem? (i := 889) (by decide +kernel)))
theorem u_890 (Z : a_Z a0 s0) : (Cond.constantLong "NarrowingPackerModel" 73 (4294967295 : Int64)).before a0 s0 = true := Z _ (List.mem_append_right _ (List.mem_of_getElem? (i := 890) (by decide +kernel)))
theorem u_891 (Z : a_Z a0 s0) : (Cond.methodLink "NarrowingPackerModel" 177 y_Mo_choose).before a0 s0 = true := Z _ (List.mem_append_right _ (List.mem_of_getElem? (i := 891) (by decide +kernel)))
theorem u_893 (Z : a_Z a0 s0) : (Cond.instanceMethod y_Mo_choose).before a0 s0 = true := Z _ (List.mem_append_right _ (List.mem_of_getElem? (i := 893) (by decide +kernel)))
theorem u_894 (Z : a_Z a0 s0) : (Cond.code y_Mo_choose prog_13_method_24_code 8 (Option.none : Option FieldType)).before a0 s0 = true := Z _ (List.mem_append_right _ (List.mem_of_getElem? (i := 894) (by decide +kernel)))
theorem u_895 (Z : a_Z a0 s0) : (Cond.methodLink "NarrowingPackerModel" 170 y_Mo_agree).before a0 s0 = true := Z _ (List.mem_append_right _ (List.mem_of_getElem? (i := 895) (by decide +kernel)))
theorem u_897 (Z : a_Z a0 s0) : (Cond.instanceMethod y_Mo_agree).before a0 s0 = true := Z _ (List.mem_append_right _ (List.mem_of_getElem? (i := 897) (by decide +kernel)))
theorem u_898 (Z : a_Z a0 s0) : (Cond.code y_Mo_agree prog_13_method_23_code 4 (Option.some FieldType.int)).before a0 s0 = true := Z _ (List.mem_append_right _ (List.mem_of_getElem? (i := 898) (by decide +kernel)))
theorem u_899 (Z : a_Z a0 s0) : (Cond.methodLink "NarrowingPackerModel" 180 y_Mo_packet0).before a0 s0 = true := Z _ (List.mem_append_right _ (List.mem_of_getElem? (i := 899) (by decide +kernel)))
theorem u_901 (Z : a_Z a0 s0) : (Cond.instanceMethod y_Mo_packet0).before a0 s0 = true := Z _ (List.mem_append_right _ (List.mem_of_getElem? (i := 901) (by decide +kernel)))
theorem u_902 (Z : a_Z a0 s0) : (Cond.code y_Mo_packet0 prog_13_method_22_code 3 (Option.some FieldType.boolean)).before a0 s0 = true := Z _ (List.mem_append_right _ (List.mem_of_getElem? (i := 902) (by decide +kernel)))
theorem u_903 (Z : a_Z a0 s0) : (Cond.methodLink "NarrowingPackerModel" 116 y_Mo_bit).before a0 s0 = true := Z _ (List.mem_append_right _ (List.mem_of_getElem? (i := 903) (by decide +kernel)))
theorem u_905 (Z : a_Z a0 s0) : (Cond.instanceMethod y_Mo_bit).before a0 s0 = true := Z _ (List.mem_append_right _ (List.mem_of_getElem? (i := 905) (by decide +kernel)))
theorem u_906 (Z : a_Z a0 s0) : (Cond.code y_Mo_bit prog_13_method_10_code 7 (Option.some FieldType.int)).before a0 s0 = true := Z _ (List.mem_append_right _ (List.mem_of_getElem? (i := 906) (by decide +kernel)))
theorem u_907 (Z : a_Z a0 s0) : (Cond.constantLong "NarrowingPackerModel" 107 (2048 : Int64)).before a0 s0 = true := Z _ (List.mem_append_right _ (List.mem_of_getElem? (i := 907) (by decide +kernel)))
theorem u_908 (Z : a_Z a0 s0) : (Cond.methodLink "NarrowingPackerModel" 109 y_Mo_grow).before a0 s0 = true := Z _ (List.mem_append_right _ (List.mem_of_getElem? (i := 908) (by decide +kernel)))
theorem u_910 (Z : a_Z a0 s0) : (Cond.instanceMethod y_Mo_grow).before a0 s0 = true := Z _ (List.mem_append_right _ (List.mem_of_getElem? (i := 910) (by decide +kernel)))
theorem u_911 (Z : a_Z a0 s0) : (Cond.code y_Mo_grow prog_13_method_7_code 6 (Option.none : Option FieldType)).before a0 s0 = true := Z _ (List.mem_append_right _ (List.mem_of_getElem? (i := 911) (by decide +kernel)))
theorem u_912 (Z : a_Z a0 s0) : (Cond.constantLong "NarrowingPackerModel" 97 (256 : Int64)).before a0 s0 = true := Z _ (List.mem_append_right _ (List.mem_of_getElem? (i := 912) (by decide +kernel)))
theorem u_913 (Z : a_Z a0 s0) : (Cond.methodLink "NarrowingPackerModel" 113 y_Mo_widen).before a0 s0 = true := Z _ (List.mem_append_right _ (List.mem_of_getElem? (i := 913) (by decide +kernel)))
theorem u_915 (Z : a_Z a0 s0) : (Cond.instanceMethod y_Mo_widen).before a0 s0 = true := Z _ (List.mem_append_right _ (List.mem_of_getElem? (i := 915) (by decide +kernel)))
theorem u_916 (Z : a_Z a0 s0) : (Cond.code y_Mo_widen prog_13_method_9_code 1 (Option.none : Option FieldType)).before a0 s0 = true := Z _ (List.mem_append_right _ (List.mem_of_getElem? (i := 916) (by decide +kernel)))
theorem u_917 (Z : a_Z a0 s0) : (Cond.constantLong "NarrowingPackerModel" 102 (16777216 : Int64)).before a0 s0 = true := Z _ (List.mem_append_right _ (List.mem_of_getElem? (i := 917) (by decide +kernel)))
theorem u_918 (Z : a_Z a0 s0) : (Cond.methodLink "NarrowingPackerModel" 104 y_Mo_read).before a0 s0 = true := Z _ (List.mem_append_right _ (List.mem_of_getElem? (i := 918) (by decide +kernel)))
theorem u_920 (Z : a_Z a0 s0) : (Cond.instanceMethod y_Mo_read).before a0 s0 = true := Z _ (List.mem_append_right _ (List.mem_of_getElem? (i := 920) (by decide +kernel)))
theorem u_921 (Z : a_Z a0 s0) : (Cond.code y_Mo_read prog_13_method_8_code 1 (Option.none : Option FieldType)).before a0 s0 = true := Z _ (List.mem_append_right _ (List.mem_of_getElem? (i := 921) (by decide +kernel)))
theorem u_922 (Z : a_Z a0 s0) : (Cond.methodLink "NarrowingPackerModel" 145 y_Mo_literal).before a0 s0 = true := Z _ (List.mem_append_right _ (List.mem_of_getElem? (i := 922) (by decide +kernel)))
theorem u_924 (Z : a_Z a0 s0) : (Cond.instanceMethod y_Mo_literal).before a0 s0 = true := Z _ (List.mem_append_right _ (List.mem_of_getElem? (i := 924) (by decide +kernel)))
theorem u_925 (Z : a_Z a0 s0) : (Cond.code y_Mo_literal prog_13_method_13_code 10 (Option.some FieldType.int)).before a0 s0 = true := Z _ (List.mem_append_right _ (List.mem_of_getElem? (i := 925) (by decide +kernel)))
theorem u_926 (Z : a_Z a0 s0) : (Cond.methodLink "NarrowingPackerModel" 120 y_Mo_tree).before a0 s0 = true := Z _ (List.mem_append_right _ (List.mem_of_getElem? (i := 926) (by decide +kernel)))
theorem u_928 (Z : a_Z a0 s0) : (Cond.instanceMethod y_Mo_tree).before a0 s0 = true := Z _ (List.mem_append_right _ (List.mem_of_getElem? (i := 928) (by decide +kernel)))
theorem u_929 (Z : a_Z a0 s0) : (Cond.code y_Mo_tree prog_13_method_11_code 6 (Option.some FieldType.int)).before a0 s0 = true := Z _ (List.mem_append_right _ (List.mem_of_getElem? (i := 929) (by decide +kernel)))
theorem u_930 (Z : a_Z a0 s0) : (Cond.methodLink "NarrowingPackerModel" 148 y_Mo_tellLiteral).before a0 s0 = true := Z _ (List.mem_append_right _ (List.mem_of_getElem? (i := 930) (by decide +kernel)))
theorem u_932 (Z : a_Z a0 s0) : (Cond.instanceMethod y_Mo_tellLiteral).before a0 s0 = true := Z _ (List.mem_append_right _ (List.mem_of_getElem? (i := 932) (by decide +kernel)))
theorem u_933 (Z : a_Z a0 s0) : (Cond.code y_Mo_tellLiteral prog_13_method_20_code 2 (Option.none : Option FieldType)).before a0 s0 = true := Z _ (List.mem_append_right _ (List.mem_of_getElem? (i := 933) (by decide +kernel)))
theorem u_934 (Z : a_Z a0 s0) : (Cond.methodLink "NarrowingPackerModel" 131 y_Mo_note).before a0 s0 = true := Z _ (List.mem_append_right _ (List.mem_of_getElem? (i := 934) (by decide +kernel)))
theorem u_936 (Z : a_Z a0 s0) : (Cond.instanceMethod y_Mo_note).before a0 s0 = true := Z _ (List.mem_append_right _ (List.mem_of_getElem? (i := 936) (by decide +kernel)))
theorem u_937 (Z : a_Z a0 s0) : (Cond.code y_Mo_note prog_13_method_19_code 4 (Option.none : Option FieldType)).before a0 s0 = true := Z _ (List.mem_append_right _ (List.mem_of_getElem? (i := 937) (by decide +kernel)))
theorem u_938 (Z : a_Z a0 s0) : (Cond.methodLink "NarrowingPackerModel" 135 y_Mo_tell).before a0 s0 = true := Z _ (List.mem_append_right _ (List.mem_of_getElem? (i := 938) (by decide +kernel)))
theorem u_940 (Z : a_Z a0 s0) : (Cond.instanceMethod y_Mo_tell).before a0 s0 = true := Z _ (List.mem_append_right _ (List.mem_of_getElem? (i := 940) (by decide +kernel)))
theorem u_941 (Z : a_Z a0 s0) : (Cond.code y_Mo_tell prog_13_method_18_code 2 (Option.none : Option FieldType)).before a0 s0 = true := Z _ (List.mem_append_right _ (List.mem_of_getElem? (i := 941) (by decide +kernel)))
theorem u_942 (Z : a_Z a0 s0) : (Cond.methodLink "NarrowingPackerModel" 154 y_Mo_length).before a0 s0 = true := Z _ (List.mem_append_right _ (List.mem_of_getElem? (i := 942) (by decide +kernel)))
theorem u_944 (Z : a_Z a0 s0) : (Cond.instanceMethod y_Mo_length).before a0 s0 = true := Z _ (List.mem_append_right _ (List.mem_of_getElem? (i := 944) (by decide +kernel)))
theorem u_945 (Z : a_Z a0 s0) : (Cond.code y_Mo_length prog_13_method_14_code 4 (Option.some FieldType.int)).before a0 s0 = true := Z _ (List.mem_append_right _ (List.mem_of_getElem? (i := 945) (by decide +kernel)))
theorem u_946 (Z : a_Z a0 s0) : (Cond.methodLink "NarrowingPackerModel" 157 y_Mo_distance).before a0 s0 = true := Z _ (List.mem_append_right _ (List.mem_of_getElem? (i := 946) (by decide +kernel)))
theorem u_948 (Z : a_Z a0 s0) : (Cond.instanceMethod y_Mo_distance).before a0 s0 = true := Z _ (List.mem_append_right _ (List.mem_of_getElem? (i := 948) (by decide +kernel)))
theorem u_949 (Z : a_Z a0 s0) : (Cond.code y_Mo_distance prog_13_method_16_code 8 (Option.some FieldType.int)).before a0 s0 = true := Z _ (List.mem_append_right _ (List.mem_of_getElem? (i := 949) (by decide +kernel)))
theorem u_950 (Z : a_Z a0 s0) : (Cond.methodLink "NarrowingPackerModel" 124 y_Mo_below).before a0 s0 = true := Z _ (List.mem_append_right _ (List.mem_of_getElem? (i := 950) (by decide +kernel)))
theorem u_951 (Z : a_Z a0 s0) : (Cond.static y_Mo_below).before a0 s0 = true := Z _ (List.mem_append_right _ (List.mem_of_getElem? (i := 951) (by decide +kernel)))
theorem u_952 (Z : a_Z a0 s0) : (Cond.code y_Mo_below prog_13_method_15_code 2 (Option.some FieldType.int)).before a0 s0 = true := Z _ (List.mem_append_right _ (List.mem_of_getElem? (i := 952) (by decide +kernel)))
theorem u_953 (Z : a_Z a0 s0) : (Cond.methodLink "NarrowingPackerModel" 128 y_Mo_row).before a0 s0 = true := Z _ (List.mem_append_right _ (List.mem_of_getElem? (i := 953) (by decide +kernel)))
theorem u_955 (Z : a_Z a0 s0) : (Cond.instanceMethod y_Mo_row).before a0 s0 = true := Z _ (List.mem_append_right _ (List.mem_of_getElem? (i := 955) (by decide +kernel)))
theorem u_956 (Z : a_Z a0 s0) : (Cond.code y_Mo_row prog_13_method_12_code 8 (Option.some FieldType.int)).before a0 s0 = true := Z _ (List.mem_append_right _ (List.mem_of_getElem? (i := 956) (by decide +kernel)))
theorem u_957 (Z : a_Z a0 s0) : (Cond.methodLink "NarrowingPackerModel" 160 y_Mo_tellFar).before a0 s0 = true := Z _ (List.mem_append_right _ (List.mem_of_getElem? (i := 957) (by decide +kernel)))
theorem u_959 (Z : a_Z a0 s0) : (Cond.instanceMethod y_Mo_tellFar).before a0 s0 = true := Z _ (List.mem_append_right _ (List.mem_of_getElem? (i := 959) (by decide +kernel)))
theorem u_960 (Z : a_Z a0 s0) : (Cond.code y_Mo_tellFar prog_13_method_21_code 7 (Option.none : Option FieldType)).before a0 s0 = true := Z _ (List.mem_append_right _ (List.mem_of_getElem? (i := 960) (by decide +kernel)))
theorem u_961 (Z : a_Z a0 s0) : (Cond.methodLink "NarrowingPackerModel" 167 y_Mo_echo).before a0 s0 = true := Z _ (List.mem_append_right _ (List.mem_of_getElem? (i := 961) (by decide +kernel)))
theorem u_963 (Z : a_Z a0 s0) : (Cond.instanceMethod y_Mo_echo).before a0 s0 = true := Z _ (List.mem_append_right _ (List.mem_of_getElem? (i := 963) (by decide +kernel)))
theorem u_964 (Z : a_Z a0 s0) : (Cond.code y_Mo_echo prog_13_method_17_code 2 (Option.some FieldType.int)).before a0 s0 = true := Z _ (List.mem_append_right _ (List.mem_of_getElem? (i := 964) (by decide +kernel)))
theorem u_965 (Z : a_Z a0 s0) : (Cond.methodLink "NarrowingPackerLaw" 94 y_Mo_unpack).before a0 s0 = true := Z _ (List.mem_append_right _ (List.mem_of_getElem? (i := 965) (by decide +kernel)))
theorem u_966 (Z : a_Z a0 s0) : (Cond.instanceMethod y_Mo_unpack).before a0 s0 = true := Z _ (List.mem_append_right _ (List.mem_of_getElem? (i := 966) (by decide +kernel)))
theorem u_967 (Z : a_Z a0 s0) : (Cond.selects "NarrowingPackerModel" y_Mo_unpack y_Mo_unpack).before a0 s0 = true := Z _ (List.mem_append_right _ (List.mem_of_getElem? (i := 967) (by decide +kernel)))
theorem u_968 (Z : a_Z a0 s0) : (Cond.code y_Mo_unpack prog_13_method_26_code 3 (Option.some FieldType.int)).before a0 s0 = true := Z _ (List.mem_append_right _ (List.mem_of_getElem? (i := 968) (by decide +kernel)))
theorem u_969 (Z : a_Z a0 s0) : (Cond.methodLink "NarrowingPackerLaw" 63 y_Mo_packets).before a0 s0 = true := Z _ (List.mem_append_right _ (List.mem_of_getElem? (i := 969) (by decide +kernel)))
theorem u_970 (Z : a_Z a0 s0) : (Cond.instanceMethod y_Mo_packets).before a0 s0 = true := Z _ (List.mem_append_right _ (List.mem_of_getElem? (i := 970) (by decide +kernel)))
theorem u_971 (Z : a_Z a0 s0) : (Cond.selects "NarrowingPackerModel" y_Mo_packets y_Mo_packets).before a0 s0 = true := Z _ (List.mem_append_right _ (List.mem_of_getElem? (i := 971) (by decide +kernel)))
theorem u_972 (Z : a_Z a0 s0) : (Cond.code y_Mo_packets prog_13_method_27_code 1 (Option.some FieldType.int)).before a0 s0 = true := Z _ (List.mem_append_right _ (List.mem_of_getElem? (i := 972) (by decide +kernel)))
theorem u_973 (Z : a_Z a0 s0) : (Cond.methodLink "NarrowingPackerLaw" 67 y_Mo_packet2).before a0 s0 = true := Z _ (List.mem_append_right _ (List.mem_of_getElem? (i := 973) (by decide +kernel)))
theorem u_974 (Z : a_Z a0 s0) : (Cond.instanceMethod y_Mo_packet2).before a0 s0 = true := Z _ (List.mem_append_right _ (List.mem_of_getElem? (i := 974) (by decide +kernel)))
theorem u_975 (Z : a_Z a0 s0) : (Cond.selects "NarrowingPackerModel" y_Mo_packet2 y_Mo_packet2).before a0 s0 = true := Z _ (List.mem_append_right _ (List.mem_of_getElem? (i := 975) (by decide +kernel)))
theorem u_976 (Z : a_Z a0 s0) : (Cond.code y_Mo_packet2 prog_13_method_28_code 3 (Option.some FieldType.int)).before a0 s0 = true := Z _ (List.mem_append_right _ (List.mem_of_getElem? (i := 976) (by decide +kernel)))
theorem u_977 (Z : a_Z a0 s0) : (Cond.methodLink "NarrowingPackerLaw" 71 y_Mo_chance).before a0 s0 = true := Z _ (List.mem_append_right _ (List.mem_of_getElem? (i := 977) (by decide +kernel)))
theorem u_978 (Z : a_Z a0 s0) : (Cond.instanceMethod y_Mo_chance).before a0 s0 = true := Z _ (List.mem_append_right _ (List.mem_of_getElem? (i := 978) (by decide +kernel)))
theorem u_979 (Z : a_Z a0 s0) : (Cond.selects "NarrowingPackerModel" y_Mo_chance y_Mo_chance).before a0 s0 = true := Z _ (List.mem_append_right _ (List.mem_of_getElem? (i := 979) (by decide +kernel)))
theorem u_980 (Z : a_Z a0 s0) : (Cond.code y_Mo_chance prog_13_method_29_code 3 (Option.some FieldType.int)).before a0 s0 = true := Z _ (List.mem_append_right _ (List.mem_of_getElem? (i := 980) (by decide +kernel)))
theorem u_981 (Z : a_Z a0 s0) : (Cond.methodLink "NarrowingPackerLaw" 75 y_Mo_size).before a0 s0 = true := Z _ (List.mem_append_right _ (List.mem_of_getElem? (i := 981) (by decide +kernel)))
theorem u_982 (Z : a_Z a0 s0) : (Cond.instanceMethod y_Mo_size).before a0 s0 = true := Z _ (List.mem_append_right _ (List.mem_of_getElem? (i := 982) (by decide +kernel)))
theorem u_983 (Z : a_Z a0 s0) : (Cond.selects "NarrowingPackerModel" y_Mo_size y_Mo_size).before a0 s0 = true := Z _ (List.mem_append_right _ (List.mem_of_getElem? (i := 983) (by decide +kernel)))
theorem u_984 (Z : a_Z a0 s0) : (Cond.code y_Mo_size prog_13_method_30_code 1 (Option.some FieldType.int)).before a0 s0 = true := Z _ (List.mem_append_right _ (List.mem_of_getElem? (i := 984) (by decide +kernel)))
theorem u_985 (Z : a_Z a0 s0) : (Cond.methodLink "NarrowingPackerLaw" 79 y_Mo_at).before a0 s0 = true := Z _ (List.mem_append_right _ (List.mem_of_getElem? (i := 985) (by decide +kernel)))
theorem u_986 (Z : a_Z a0 s0) : (Cond.instanceMethod y_Mo_at).before a0 s0 = true := Z _ (List.mem_append_right _ (List.mem_of_getElem? (i := 986) (by decide +kernel)))
theorem u_987 (Z : a_Z a0 s0) : (Cond.selects "NarrowingPackerModel" y_Mo_at y_Mo_at).before a0 s0 = true := Z _ (List.mem_append_right _ (List.mem_of_getElem? (i := 987) (by decide +kernel)))
theorem u_988 (Z : a_Z a0 s0) : (Cond.code y_Mo_at prog_13_method_31_code 2 (Option.some FieldType.int)).before a0 s0 = true := Z _ (List.mem_append_right _ (List.mem_of_getElem? (i := 988) (by decide +kernel)))
theorem u_989 (Z : a_Z a0 s0) : (Cond.methodLink "NarrowingPackerLaw" 83 y_Mo_add).before a0 s0 = true := Z _ (List.mem_append_right _ (List.mem_of_getElem? (i := 989) (by decide +kernel)))
theorem u_990 (Z : a_Z a0 s0) : (Cond.instanceMethod y_Mo_add).before a0 s0 = true := Z _ (List.mem_append_right _ (List.mem_of_getElem? (i := 990) (by decide +kernel)))
theorem u_991 (Z : a_Z a0 s0) : (Cond.selects "NarrowingPackerModel" y_Mo_add y_Mo_add).before a0 s0 = true := Z _ (List.mem_append_right _ (List.mem_of_getElem? (i := 991) (by decide +kernel)))
theorem u_992 (Z : a_Z a0 s0) : (Cond.code y_Mo_add prog_13_method_32_code 2 (Option.some FieldType.boolean)).before a0 s0 = true := Z _ (List.mem_append_right _ (List.mem_of_getElem? (i := 992) (by decide +kernel)))
theorem u_993 (Z : a_Z a0 s0) : (Cond.methodLink "NarrowingPackerLaw" 87 y_Mo_put).before a0 s0 = true := Z _ (List.mem_append_right _ (List.mem_of_getElem? (i := 993) (by decide +kernel)))
theorem u_994 (Z : a_Z a0 s0) : (Cond.instanceMethod y_Mo_put).before a0 s0 = true := Z _ (List.mem_append_right _ (List.mem_of_getElem? (i := 994) (by decide +kernel)))
theorem u_995 (Z : a_Z a0 s0) : (Cond.selects "NarrowingPackerModel" y_Mo_put y_Mo_put).before a0 s0 = true := Z _ (List.mem_append_right _ (List.mem_of_getElem? (i := 995) (by decide +kernel)))
theorem u_996 (Z : a_Z a0 s0) : (Cond.code y_Mo_put prog_13_method_33_code 4 (Option.some FieldType.int)).before a0 s0 = true := Z _ (List.mem_append_right _ (List.mem_of_getElem? (i := 996) (by decide +kernel)))
theorem u_997 (Z : a_Z a0 s0) : (Cond.methodLink "NarrowingPackerLaw" 91 y_Mo_cut).before a0 s0 = true := Z _ (List.mem_append_right _ (List.mem_of_getElem? (i := 997) (by decide +kernel)))
theorem u_998 (Z : a_Z a0 s0) : (Cond.instanceMethod y_Mo_cut).before a0 s0 = true := Z _ (List.mem_append_right _ (List.mem_of_getElem? (i := 998) (by decide +kernel)))
theorem u_999 (Z : a_Z a0 s0) : (Cond.selects "NarrowingPackerModel" y_Mo_cut y_Mo_cut).before a0 s0 = true := Z _ (List.mem_append_right _ (List.mem_of_getElem? (i := 999) (by decide +kernel)))
theorem u_1000 (Z : a_Z a0 s0) : (Cond.code y_Mo_cut prog_13_method_34_code 3 (Option.some FieldType.int)).before a0 s0 = true := Z _ (List.mem_append_right _ (List.mem_of_getElem? (i := 1000) (by decide +kernel)))
theorem u_1001 (Z : a_Z a0 s0) : (Cond.methodLink "NarrowingPackerLaw" 98 y_Mo_told).before a0 s0 = true := Z _ (List.mem_append_right _ (List.mem_of_getElem? (i := 1001) (by decide +kernel)))
theorem u_1002 (Z : a_Z a0 s0) : (Cond.instanceMethod y_Mo_told).before a0 s0 = true := Z _ (List.mem_append_right _ (List.mem_of_getElem? (i := 1002) (by decide +kernel)))
theorem u_1003 (Z : a_Z a0 s0) : (Cond.selects "NarrowingPackerModel" y_Mo_told y_Mo_told).before a0 s0 = true := Z _ (List.mem_append_right _ (List.mem_of_getElem? (i := 1003) (by decide +kernel)))
theorem u_1004 (Z : a_Z a0 s0) : (Cond.code y_Mo_told prog_13_method_35_code 1 (Option.some FieldType.int)).before a0 s0 = true := Z _ (List.mem_append_right _ (List.mem_of_getElem? (i := 1004) (by decide +kernel)))
theorem u_1005 (Z : a_Z a0 s0) : (Cond.methodLink "NarrowingPackerLaw" 102 y_Mo_byteAt).before a0 s0 = true := Z _ (List.mem_append_right _ (List.mem_of_getElem? (i := 1005) (by decide +kernel)))
theorem u_1006 (Z : a_Z a0 s0) : (Cond.instanceMethod y_Mo_byteAt).before a0 s0 = true := Z _ (List.mem_append_right _ (List.mem_of_getElem? (i := 1006) (by decide +kernel)))
theorem u_1007 (Z : a_Z a0 s0) : (Cond.selects "NarrowingPackerModel" y_Mo_byteAt y_Mo_byteAt).before a0 s0 = true := Z _ (List.mem_append_right _ (List.mem_of_getElem? (i := 1007) (by decide +kernel)))
theorem u_1008 (Z : a_Z a0 s0) : (Cond.code y_Mo_byteAt prog_13_method_36_code 2 (Option.some FieldType.int)).before a0 s0 = true := Z _ (List.mem_append_right _ (List.mem_of_getElem? (i := 1008) (by decide +kernel)))
theorem u_1009 (Z : a_Z a0 s0) : (Cond.arrayClass FieldType.long).before a0 s0 = true := Z _ (List.mem_append_right _ (List.mem_of_getElem? (i := 1009) (by decide +kernel)))
theorem u_1010 (Z : a_Z a0 s0) : (Cond.sameMethod "java/lang/Throwable" "java/lang/Throwable" "fillInStackTrace" "(I)Ljava/lang/Throwable;").before a0 s0 = true := Z _ (List.mem_append_right _ (List.mem_of_getElem? (i := 1010) (by decide +kernel)))
theorem us_0 (Z : a_Z a0 s0) : (Cond.selects "NarrowingPacker" y_Np_writeSource y_Np_writeSource).before a0 s0 = true := Z _ (List.mem_append_left _ (List.mem_of_getElem? (i := 0) (by decide +kernel)))
theorem us_1 (Z : a_Z a0 s0) : (Cond.selects "NarrowingPacker$Chooser" y_Co_findMatch y_Co_findMatch).before a0 s0 = true := Z _ (List.mem_append_left _ (List.mem_of_getElem? (i := 1) (by decide +kernel)))
theorem us_2 (Z : a_Z a0 s0) : (Cond.selects "NarrowingPacker$Chooser" y_Co_findEcho y_Co_findEcho).before a0 s0 = true := Z _ (List.mem_append_left _ (List.mem_of_getElem? (i := 2) (by decide +kernel)))
theorem us_3 (Z : a_Z a0 s0) : (Cond.selects "NarrowingPacker$Packet" y_Pa_become y_Pa_become).before a0 s0 = true := Z _ (List.mem_append_left _ (List.mem_of_getElem? (i := 3) (by decide +kernel)))
theorem us_4 (Z : a_Z a0 s0) : (Cond.selects "NarrowingPacker$Narrower" y_Na_raiseLow y_Na_raiseLow).before a0 s0 = true := Z _ (List.mem_append_left _ (List.mem_of_getElem? (i := 4) (by decide +kernel)))
theorem us_5 (Z : a_Z a0 s0) : (Cond.selects "NarrowingPacker$PacketWriter" y_Wr_writeLiteral y_Wr_writeLiteral).before a0 s0 = true := Z _ (List.mem_append_left _ (List.mem_of_getElem? (i := 5) (by decide +kernel)))
theorem us_6 (Z : a_Z a0 s0) : (Cond.selects "NarrowingPacker$PacketWriter" y_Wr_writeMatch y_Wr_writeMatch).before a0 s0 = true := Z _ (List.mem_append_left _ (List.mem_of_getElem? (i := 6) (by decide +kernel)))
theorem us_7 (Z : a_Z a0 s0) : (Cond.selects "NarrowingPacker$PacketWriter" y_Wr_writeLength y_Wr_writeLength).before a0 s0 = true := Z _ (List.mem_append_left _ (List.mem_of_getElem? (i := 7) (by decide +kernel)))
theorem us_8 (Z : a_Z a0 s0) : (Cond.selects "NarrowingPacker$PacketWriter" y_Wr_writeEnd y_Wr_writeEnd).before a0 s0 = true := Z _ (List.mem_append_left _ (List.mem_of_getElem? (i := 8) (by decide +kernel)))
theorem us_9 (Z : a_Z a0 s0) : (Cond.selects "NarrowingPacker$PacketWriter" y_Wr_writeRepeat y_Wr_writeRepeat).before a0 s0 = true := Z _ (List.mem_append_left _ (List.mem_of_getElem? (i := 9) (by decide +kernel)))
theorem us_10 (Z : a_Z a0 s0) : (Cond.selects "NarrowingPacker$History" y_Hi_repeat y_Hi_repeat).before a0 s0 = true := Z _ (List.mem_append_left _ (List.mem_of_getElem? (i := 10) (by decide +kernel)))
theorem us_11 (Z : a_Z a0 s0) : (Cond.selects "NarrowingPacker$History" y_Hi_bringToFront y_Hi_bringToFront).before a0 s0 = true := Z _ (List.mem_append_left _ (List.mem_of_getElem? (i := 11) (by decide +kernel)))
theorem us_12 (Z : a_Z a0 s0) : (Cond.selects "NarrowingPacker$History" y_Hi_stateBehind y_Hi_stateBehind).before a0 s0 = true := Z _ (List.mem_append_left _ (List.mem_of_getElem? (i := 12) (by decide +kernel)))
theorem us_13 (Z : a_Z a0 s0) : (Cond.selects "NarrowingPacker$History" y_Hi_stateBehindLiteral y_Hi_stateBehindLiteral).before a0 s0 = true := Z _ (List.mem_append_left _ (List.mem_of_getElem? (i := 13) (by decide +kernel)))
theorem us_14 (Z : a_Z a0 s0) : (Cond.selects "java/lang/Throwable" ⟨"java/lang/Throwable", "fillInStackTrace", "(I)Ljava/lang/Throwable;"⟩ ⟨"java/lang/Throwable", "fillInStackTrace", "(I)Ljava/lang/Throwable;"⟩).before a0 s0 = true := Z _ (List.mem_append_left _ (List.mem_of_getElem? (i := 14) (by decide +kernel)))
theorem us_15 (Z : a_Z a0 s0) : (Cond.selects "NarrowingPacker" y_Np_keepPacking y_Np_keepPacking).before a0 s0 = true := Z _ (List.mem_append_left _ (List.mem_of_getElem? (i := 15) (by decide +kernel)))
theorem us_16 (Z : a_Z a0 s0) : (Cond.selects "NarrowingPacker$Follower" y_Fo_takeByte y_Fo_takeByte).before a0 s0 = true := Z _ (List.mem_append_left _ (List.mem_of_getElem? (i := 16) (by decide +kernel)))
theorem us_17 (Z : a_Z a0 s0) : (Cond.selects "NarrowingPacker$PacketReader" y_Re_readLiteral y_Re_readLiteral).before a0 s0 = true := Z _ (List.mem_append_left _ (List.mem_of_getElem? (i := 17) (by decide +kernel)))
theorem us_18 (Z : a_Z a0 s0) : (Cond.selects "NarrowingPacker$PacketReader" y_Re_readMatchOrEnd y_Re_readMatchOrEnd).before a0 s0 = true := Z _ (List.mem_append_left _ (List.mem_of_getElem? (i := 18) (by decide +kernel)))
theorem us_19 (Z : a_Z a0 s0) : (Cond.selects "NarrowingPacker$PacketReader" y_Re_readLength y_Re_readLength).before a0 s0 = true := Z _ (List.mem_append_left _ (List.mem_of_getElem? (i := 19) (by decide +kernel)))
theorem us_20 (Z : a_Z a0 s0) : (Cond.selects "NarrowingPacker$PacketReader" y_Re_readDistance y_Re_readDistance).before a0 s0 = true := Z _ (List.mem_append_left _ (List.mem_of_getElem? (i := 20) (by decide +kernel)))
theorem us_21 (Z : a_Z a0 s0) : (Cond.selects "NarrowingPacker$PacketReader" y_Re_readRepeat y_Re_readRepeat).before a0 s0 = true := Z _ (List.mem_append_left _ (List.mem_of_getElem? (i := 21) (by decide +kernel)))
theorem us_22 (Z : a_Z a0 s0) : (Cond.selects "NarrowingPacker" y_Np_refuseWhatCannotBeTold y_Np_refuseWhatCannotBeTold).before a0 s0 = true := Z _ (List.mem_append_left _ (List.mem_of_getElem? (i := 22) (by decide +kernel)))
theorem us_23 (Z : a_Z a0 s0) : (Cond.selects "NarrowingPackerModel" y_Mo_begin y_Mo_begin).before a0 s0 = true := Z _ (List.mem_append_left _ (List.mem_of_getElem? (i := 23) (by decide +kernel)))
theorem us_24 (Z : a_Z a0 s0) : (Cond.selects "NarrowingPackerModel" y_Mo_choose y_Mo_choose).before a0 s0 = true := Z _ (List.mem_append_left _ (List.mem_of_getElem? (i := 24) (by decide +kernel)))
theorem us_25 (Z : a_Z a0 s0) : (Cond.selects "NarrowingPackerModel" y_Mo_agree y_Mo_agree).before a0 s0 = true := Z _ (List.mem_append_left _ (List.mem_of_getElem? (i := 25) (by decide +kernel)))
theorem us_26 (Z : a_Z a0 s0) : (Cond.selects "NarrowingPackerModel" y_Mo_packet0 y_Mo_packet0).before a0 s0 = true := Z _ (List.mem_append_left _ (List.mem_of_getElem? (i := 26) (by decide +kernel)))
theorem us_27 (Z : a_Z a0 s0) : (Cond.selects "NarrowingPackerModel" y_Mo_bit y_Mo_bit).before a0 s0 = true := Z _ (List.mem_append_left _ (List.mem_of_getElem? (i := 27) (by decide +kernel)))
theorem us_28 (Z : a_Z a0 s0) : (Cond.selects "NarrowingPackerModel" y_Mo_grow y_Mo_grow).before a0 s0 = true := Z _ (List.mem_append_left _ (List.mem_of_getElem? (i := 28) (by decide +kernel)))
theorem us_29 (Z : a_Z a0 s0) : (Cond.selects "NarrowingPackerModel" y_Mo_widen y_Mo_widen).before a0 s0 = true := Z _ (List.mem_append_left _ (List.mem_of_getElem? (i := 29) (by decide +kernel)))
theorem us_30 (Z : a_Z a0 s0) : (Cond.selects "NarrowingPackerModel" y_Mo_read y_Mo_read).before a0 s0 = true := Z _ (List.mem_append_left _ (List.mem_of_getElem? (i := 30) (by decide +kernel)))
theorem us_31 (Z : a_Z a0 s0) : (Cond.selects "NarrowingPackerModel" y_Mo_literal y_Mo_literal).before a0 s0 = true := Z _ (List.mem_append_left _ (List.mem_of_getElem? (i := 31) (by decide +kernel)))
theorem us_32 (Z : a_Z a0 s0) : (Cond.selects "NarrowingPackerModel" y_Mo_tree y_Mo_tree).before a0 s0 = true := Z _ (List.mem_append_left _ (List.mem_of_getElem? (i := 32) (by decide +kernel)))
theorem us_33 (Z : a_Z a0 s0) : (Cond.selects "NarrowingPackerModel" y_Mo_tellLiteral y_Mo_tellLiteral).before a0 s0 = true := Z _ (List.mem_append_left _ (List.mem_of_getElem? (i := 33) (by decide +kernel)))
theorem us_34 (Z : a_Z a0 s0) : (Cond.selects "NarrowingPackerModel" y_Mo_note y_Mo_note).before a0 s0 = true := Z _ (List.mem_append_left _ (List.mem_of_getElem? (i := 34) (by decide +kernel)))
theorem us_35 (Z : a_Z a0 s0) : (Cond.selects "NarrowingPackerModel" y_Mo_tell y_Mo_tell).before a0 s0 = true := Z _ (List.mem_append_left _ (List.mem_of_getElem? (i := 35) (by decide +kernel)))
theorem us_36 (Z : a_Z a0 s0) : (Cond.selects "NarrowingPackerModel" y_Mo_length y_Mo_length).before a0 s0 = true := Z _ (List.mem_append_left _ (List.mem_of_getElem? (i := 36) (by decide +kernel)))
theorem us_37 (Z : a_Z a0 s0) : (Cond.selects "NarrowingPackerModel" y_Mo_distance y_Mo_distance).before a0 s0 = true := Z _ (List.mem_append_left _ (List.mem_of_getElem? (i := 37) (by decide +kernel)))
theorem us_38 (Z : a_Z a0 s0) : (Cond.selects "NarrowingPackerModel" y_Mo_row y_Mo_row).before a0 s0 = true := Z _ (List.mem_append_left _ (List.mem_of_getElem? (i := 38) (by decide +kernel)))
theorem us_39 (Z : a_Z a0 s0) : (Cond.selects "NarrowingPackerModel" y_Mo_tellFar y_Mo_tellFar).before a0 s0 = true := Z _ (List.mem_append_left _ (List.mem_of_getElem? (i := 39) (by decide +kernel)))
theorem us_40 (Z : a_Z a0 s0) : (Cond.selects "NarrowingPackerModel" y_Mo_echo y_Mo_echo).before a0 s0 = true := Z _ (List.mem_append_left _ (List.mem_of_getElem? (i := 40) (by decide +kernel)))
end Words
end
section
theorem d_Np_init_0 : decode prog_1_method_1_code 0 = .ok (.aload_n 0, 1) := by decide +kernel
theorem d_Np_init_1 : decode prog_1_method_1_code 1 = .ok (.invokespecial 3, 3) := by decide +kernel
theorem d_Np_init_4 : decode prog_1_method_1_code 4 = .ok (.aload_n 0, 1) := by decide +kernel
theorem d_Np_init_5 : decode prog_1_method_1_code 5 = .ok (.new 9, 3) := by decide +kernel
theorem d_Np_init_8 : decode prog_1_method_1_code 8 = .ok (.dup, 1) := by decide +kernel
theorem d_Np_init_9 : decode prog_1_method_1_code 9 = .ok (.bipush 120, 2) := by decide +kernel
theorem d_Np_init_11 : decode prog_1_method_1_code 11 = .ok (.invokespecial 11, 3) := by decide +kernel
theorem d_Np_init_14 : decode prog_1_method_1_code 14 = .ok (.putfield 14, 3) := by decide +kernel
theorem d_Np_init_17 : decode prog_1_method_1_code 17 = .ok (.aload_n 0, 1) := by decide +kernel
theorem d_Np_init_18 : decode prog_1_method_1_code 18 = .ok (.new 9, 3) := by decide +kernel
theorem d_Np_init_21 : decode prog_1_method_1_code 21 = .ok (.dup, 1) := by decide +kernel
theorem d_Np_init_22 : decode prog_1_method_1_code 22 = .ok (.sipush 200, 3) := by decide +kernel
theorem d_Np_init_25 : decode prog_1_method_1_code 25 = .ok (.invokespecial 11, 3) := by decide +kernel
theorem d_Np_init_28 : decode prog_1_method_1_code 28 = .ok (.putfield 18, 3) := by decide +kernel
theorem d_Np_init_31 : decode prog_1_method_1_code 31 = .ok (.aload_n 0, 1) := by decide +kernel
theorem d_Np_init_32 : decode prog_1_method_1_code 32 = .ok (.new 9, 3) := by decide +kernel
theorem d_Np_init_35 : decode prog_1_method_1_code 35 = .ok (.dup, 1) := by decide +kernel
theorem d_Np_init_36 : decode prog_1_method_1_code 36 = .ok (.bipush 120, 2) := by decide +kernel
theorem d_Np_init_38 : decode prog_1_method_1_code 38 = .ok (.invokespecial 11, 3) := by decide +kernel
theorem d_Np_init_41 : decode prog_1_method_1_code 41 = .ok (.putfield 21, 3) := by decide +kernel
theorem d_Np_init_44 : decode prog_1_method_1_code 44 = .ok (.aload_n 0, 1) := by decide +kernel
theorem d_Np_init_45 : decode prog_1_method_1_code 45 = .ok (.bipush 72, 2) := by decide +kernel
theorem d_Np_init_47 : decode prog_1_method_1_code 47 = .ok (.newarray .int, 2) := by decide +kernel
theorem d_Np_init_49 : decode prog_1_method_1_code 49 = .ok (.putfield 24, 3) := by decide +kernel
theorem d_Np_init_52 : decode prog_1_method_1_code 52 = .ok (.aload_n 0, 1) := by decide +kernel
theorem d_Np_init_53 : decode prog_1_method_1_code 53 = .ok (.new 28, 3) := by decide +kernel
theorem d_Np_init_56 : decode prog_1_method_1_code 56 = .ok (.dup, 1) := by decide +kernel
theorem d_Np_init_57 : decode prog_1_method_1_code 57 = .ok (.invokespecial 30, 3) := by decide +kernel
theorem d_Np_init_60 : decode prog_1_method_1_code 60 = .ok (.putfield 31, 3) := by decide +kernel
theorem d_Np_init_63 : decode prog_1_method_1_code 63 = .ok (.aload_n 0, 1) := by decide +kernel
theorem d_Np_init_64 : decode prog_1_method_1_code 64 = .ok (.new 28, 3) := by decide +kernel
theorem d_Np_init_67 : decode prog_1_method_1_code 67 = .ok (.dup, 1) := by decide +kernel
theorem d_Np_init_68 : decode prog_1_method_1_code 68 = .ok (.invokespecial 30, 3) := by decide +kernel
theorem d_Np_init_71 : decode prog_1_method_1_code 71 = .ok (.putfield 35, 3) := by decide +kernel
theorem d_Np_init_74 : decode prog_1_method_1_code 74 = .ok (.aload_n 0, 1) := by decide +kernel
theorem d_Np_init_75 : decode prog_1_method_1_code 75 = .ok (.new 38, 3) := by decide +kernel
theorem d_Np_init_78 : decode prog_1_method_1_code 78 = .ok (.dup, 1) := by decide +kernel
theorem d_Np_init_79 : decode prog_1_method_1_code 79 = .ok (.invokespecial 40, 3) := by decide +kernel
theorem d_Np_init_82 : decode prog_1_method_1_code 82 = .ok (.putfield 41, 3) := by decide +kernel
theorem d_Np_init_85 : decode prog_1_method_1_code 85 = .ok (.aload_n 0, 1) := by decide +kernel
theorem d_Np_init_86 : decode prog_1_method_1_code 86 = .ok (.new 45, 3) := by decide +kernel
theorem d_Np_init_89 : decode prog_1_method_1_code 89 = .ok (.dup, 1) := by decide +kernel
theorem d_Np_init_90 : decode prog_1_method_1_code 90 = .ok (.invokespecial 47, 3) := by decide +kernel
theorem d_Np_init_93 : decode prog_1_method_1_code 93 = .ok (.putfield 48, 3) := by decide +kernel
theorem d_Np_init_96 : decode prog_1_method_1_code 96 = .ok (.aload_n 0, 1) := by decide +kernel
theorem d_Np_init_97 : decode prog_1_method_1_code 97 = .ok (.new 52, 3) := by decide +kernel
theorem d_Np_init_100 : decode prog_1_method_1_code 100 = .ok (.dup, 1) := by decide +kernel
theorem d_Np_init_101 : decode prog_1_method_1_code 101 = .ok (.iconst 1, 1) := by decide +kernel
theorem d_Np_init_102 : decode prog_1_method_1_code 102 = .ok (.bipush 16, 2) := by decide +kernel
theorem d_Np_init_104 : decode prog_1_method_1_code 104 = .ok (.iload_n 1, 1) := by decide +kernel
theorem d_Np_init_105 : decode prog_1_method_1_code 105 = .ok (.invokestatic 54, 3) := by decide +kernel
theorem d_Np_init_108 : decode prog_1_method_1_code 108 = .ok (.invokestatic 60, 3) := by decide +kernel
theorem d_Np_init_111 : decode prog_1_method_1_code 111 = .ok (.invokespecial 63, 3) := by decide +kernel
theorem d_Np_init_114 : decode prog_1_method_1_code 114 = .ok (.putfield 64, 3) := by decide +kernel
theorem d_Np_init_117 : decode prog_1_method_1_code 117 = .ok (.aload_n 0, 1) := by decide +kernel
theorem d_Np_init_118 : decode prog_1_method_1_code 118 = .ok (.new 68, 3) := by decide +kernel
theorem d_Np_init_121 : decode prog_1_method_1_code 121 = .ok (.dup, 1) := by decide +kernel
theorem d_Np_init_122 : decode prog_1_method_1_code 122 = .ok (.invokespecial 70, 3) := by decide +kernel
theorem d_Np_init_125 : decode prog_1_method_1_code 125 = .ok (.putfield 71, 3) := by decide +kernel
theorem d_Np_init_128 : decode prog_1_method_1_code 128 = .ok (.aload_n 0, 1) := by decide +kernel
theorem d_Np_init_129 : decode prog_1_method_1_code 129 = .ok (.new 75, 3) := by decide +kernel
theorem d_Np_init_132 : decode prog_1_method_1_code 132 = .ok (.dup, 1) := by decide +kernel
theorem d_Np_init_133 : decode prog_1_method_1_code 133 = .ok (.invokespecial 77, 3) := by decide +kernel
theorem d_Np_init_136 : decode prog_1_method_1_code 136 = .ok (.putfield 78, 3) := by decide +kernel
theorem d_Np_init_139 : decode prog_1_method_1_code 139 = .ok (.return_, 1) := by decide +kernel
theorem d_Np_type_0 : decode prog_1_method_2_code 0 = .ok (.aload_n 0, 1) := by decide +kernel
theorem d_Np_type_1 : decode prog_1_method_2_code 1 = .ok (.getfield 14, 3) := by decide +kernel
theorem d_Np_type_4 : decode prog_1_method_2_code 4 = .ok (.iload_n 1, 1) := by decide +kernel
theorem d_Np_type_5 : decode prog_1_method_2_code 5 = .ok (.invokevirtual 82, 3) := by decide +kernel
theorem d_Np_type_8 : decode prog_1_method_2_code 8 = .ok (.ireturn, 1) := by decide +kernel
theorem d_Np_wipe_0 : decode prog_1_method_3_code 0 = .ok (.aload_n 0, 1) := by decide +kernel
theorem d_Np_wipe_1 : decode prog_1_method_3_code 1 = .ok (.getfield 14, 3) := by decide +kernel
theorem d_Np_wipe_4 : decode prog_1_method_3_code 4 = .ok (.iconst 0, 1) := by decide +kernel
theorem d_Np_wipe_5 : decode prog_1_method_3_code 5 = .ok (.invokevirtual 86, 3) := by decide +kernel
theorem d_Np_wipe_8 : decode prog_1_method_3_code 8 = .ok (.ireturn, 1) := by decide +kernel
theorem d_Np_pack_0 : decode prog_1_method_4_code 0 = .ok (.aload_n 0, 1) := by decide +kernel
theorem d_Np_pack_1 : decode prog_1_method_4_code 1 = .ok (.getfield 48, 3) := by decide +kernel
theorem d_Np_pack_4 : decode prog_1_method_4_code 4 = .ok (.invokevirtual 90, 3) := by decide +kernel
theorem d_Np_pack_7 : decode prog_1_method_4_code 7 = .ok (.aload_n 0, 1) := by decide +kernel
theorem d_Np_pack_8 : decode prog_1_method_4_code 8 = .ok (.getfield 35, 3) := by decide +kernel
theorem d_Np_pack_11 : decode prog_1_method_4_code 11 = .ok (.invokevirtual 93, 3) := by decide +kernel
theorem d_Np_pack_14 : decode prog_1_method_4_code 14 = .ok (.aload_n 0, 1) := by decide +kernel
theorem d_Np_pack_15 : decode prog_1_method_4_code 15 = .ok (.getfield 71, 3) := by decide +kernel
theorem d_Np_pack_18 : decode prog_1_method_4_code 18 = .ok (.getfield 96, 3) := by decide +kernel
theorem d_Np_pack_21 : decode prog_1_method_4_code 21 = .ok (.invokevirtual 100, 3) := by decide +kernel
theorem d_Np_pack_24 : decode prog_1_method_4_code 24 = .ok (.aload_n 0, 1) := by decide +kernel
theorem d_Np_pack_25 : decode prog_1_method_4_code 25 = .ok (.invokevirtual 103, 3) := by decide +kernel
theorem d_Np_pack_28 : decode prog_1_method_4_code 28 = .ok (.aload_n 0, 1) := by decide +kernel
theorem d_Np_pack_29 : decode prog_1_method_4_code 29 = .ok (.getfield 71, 3) := by decide +kernel
theorem d_Np_pack_32 : decode prog_1_method_4_code 32 = .ok (.getfield 96, 3) := by decide +kernel
theorem d_Np_pack_35 : decode prog_1_method_4_code 35 = .ok (.invokevirtual 106, 3) := by decide +kernel
theorem d_Np_pack_38 : decode prog_1_method_4_code 38 = .ok (.ifCond .ne 13, 3) := by decide +kernel
theorem d_Np_pack_41 : decode prog_1_method_4_code 41 = .ok (.new 110, 3) := by decide +kernel
theorem d_Np_pack_44 : decode prog_1_method_4_code 44 = .ok (.dup, 1) := by decide +kernel
theorem d_Np_pack_45 : decode prog_1_method_4_code 45 = .ok (.ldc 112, 2) := by decide +kernel
theorem d_Np_pack_47 : decode prog_1_method_4_code 47 = .ok (.invokespecial 114, 3) := by decide +kernel
theorem d_Np_pack_50 : decode prog_1_method_4_code 50 = .ok (.athrow, 1) := by decide +kernel
theorem d_Np_pack_51 : decode prog_1_method_4_code 51 = .ok (.aload_n 0, 1) := by decide +kernel
theorem d_Np_pack_52 : decode prog_1_method_4_code 52 = .ok (.aload_n 0, 1) := by decide +kernel
theorem d_Np_pack_53 : decode prog_1_method_4_code 53 = .ok (.getfield 71, 3) := by decide +kernel
theorem d_Np_pack_56 : decode prog_1_method_4_code 56 = .ok (.getfield 96, 3) := by decide +kernel
theorem d_Np_pack_59 : decode prog_1_method_4_code 59 = .ok (.invokevirtual 117, 3) := by decide +kernel
theorem d_Np_pack_62 : decode prog_1_method_4_code 62 = .ok (.aload_n 0, 1) := by decide +kernel
theorem d_Np_pack_63 : decode prog_1_method_4_code 63 = .ok (.getfield 18, 3) := by decide +kernel
theorem d_Np_pack_66 : decode prog_1_method_4_code 66 = .ok (.getfield 121, 3) := by decide +kernel
theorem d_Np_pack_69 : decode prog_1_method_4_code 69 = .ok (.ireturn, 1) := by decide +kernel
theorem d_Np_packets_0 : decode prog_1_method_5_code 0 = .ok (.aload_n 0, 1) := by decide +kernel
theorem d_Np_packets_1 : decode prog_1_method_5_code 1 = .ok (.getfield 31, 3) := by decide +kernel
theorem d_Np_packets_4 : decode prog_1_method_5_code 4 = .ok (.getfield 125, 3) := by decide +kernel
theorem d_Np_packets_7 : decode prog_1_method_5_code 7 = .ok (.ireturn, 1) := by decide +kernel
theorem d_Np_packet_0 : decode prog_1_method_6_code 0 = .ok (.aload_n 0, 1) := by decide +kernel
theorem d_Np_packet_1 : decode prog_1_method_6_code 1 = .ok (.getfield 31, 3) := by decide +kernel
theorem d_Np_packet_4 : decode prog_1_method_6_code 4 = .ok (.iload_n 1, 1) := by decide +kernel
theorem d_Np_packet_5 : decode prog_1_method_6_code 5 = .ok (.iload_n 2, 1) := by decide +kernel
theorem d_Np_packet_6 : decode prog_1_method_6_code 6 = .ok (.invokevirtual 126, 3) := by decide +kernel
theorem d_Np_packet_9 : decode prog_1_method_6_code 9 = .ok (.ireturn, 1) := by decide +kernel
theorem d_Np_chance_0 : decode prog_1_method_7_code 0 = .ok (.aload_n 0, 1) := by decide +kernel
theorem d_Np_chance_1 : decode prog_1_method_7_code 1 = .ok (.getfield 129, 3) := by decide +kernel
theorem d_Np_chance_4 : decode prog_1_method_7_code 4 = .ok (.ifCond .eq 13, 3) := by decide +kernel
theorem d_Np_chance_7 : decode prog_1_method_7_code 7 = .ok (.iload_n 1, 1) := by decide +kernel
theorem d_Np_chance_8 : decode prog_1_method_7_code 8 = .ok (.ifCond .lt 9, 3) := by decide +kernel
theorem d_Np_chance_11 : decode prog_1_method_7_code 11 = .ok (.iload_n 1, 1) := by decide +kernel
theorem d_Np_chance_12 : decode prog_1_method_7_code 12 = .ok (.bipush 6, 2) := by decide +kernel
theorem d_Np_chance_14 : decode prog_1_method_7_code 14 = .ok (.if_icmp .lt 5, 3) := by decide +kernel
theorem d_Np_chance_17 : decode prog_1_method_7_code 17 = .ok (.iconst (-1), 1) := by decide +kernel
theorem d_Np_chance_18 : decode prog_1_method_7_code 18 = .ok (.ireturn, 1) := by decide +kernel
theorem d_Np_chance_19 : decode prog_1_method_7_code 19 = .ok (.iload_n 2, 1) := by decide +kernel
theorem d_Np_chance_20 : decode prog_1_method_7_code 20 = .ok (.ifCond .lt 9, 3) := by decide +kernel
theorem d_Np_chance_23 : decode prog_1_method_7_code 23 = .ok (.iload_n 2, 1) := by decide +kernel
theorem d_Np_chance_24 : decode prog_1_method_7_code 24 = .ok (.bipush 12, 2) := by decide +kernel
theorem d_Np_chance_26 : decode prog_1_method_7_code 26 = .ok (.if_icmp .lt 5, 3) := by decide +kernel
theorem d_Np_chance_29 : decode prog_1_method_7_code 29 = .ok (.iconst (-1), 1) := by decide +kernel
theorem d_Np_chance_30 : decode prog_1_method_7_code 30 = .ok (.ireturn, 1) := by decide +kernel
theorem d_Np_chance_31 : decode prog_1_method_7_code 31 = .ok (.aload_n 0, 1) := by decide +kernel
theorem d_Np_chance_32 : decode prog_1_method_7_code 32 = .ok (.getfield 24, 3) := by decide +kernel
theorem d_Np_chance_35 : decode prog_1_method_7_code 35 = .ok (.iload_n 1, 1) := by decide +kernel
theorem d_Np_chance_36 : decode prog_1_method_7_code 36 = .ok (.bipush 12, 2) := by decide +kernel
theorem d_Np_chance_38 : decode prog_1_method_7_code 38 = .ok (.imul, 1) := by decide +kernel
theorem d_Np_chance_39 : decode prog_1_method_7_code 39 = .ok (.iload_n 2, 1) := by decide +kernel
theorem d_Np_chance_40 : decode prog_1_method_7_code 40 = .ok (.iadd, 1) := by decide +kernel
theorem d_Np_chance_41 : decode prog_1_method_7_code 41 = .ok (.iaload, 1) := by decide +kernel
theorem d_Np_chance_42 : decode prog_1_method_7_code 42 = .ok (.ireturn, 1) := by decide +kernel
theorem d_Np_size_0 : decode prog_1_method_8_code 0 = .ok (.aload_n 0, 1) := by decide +kernel
theorem d_Np_size_1 : decode prog_1_method_8_code 1 = .ok (.getfield 18, 3) := by decide +kernel
theorem d_Np_size_4 : decode prog_1_method_8_code 4 = .ok (.getfield 121, 3) := by decide +kernel
theorem d_Np_size_7 : decode prog_1_method_8_code 7 = .ok (.ireturn, 1) := by decide +kernel
theorem d_Np_at_0 : decode prog_1_method_9_code 0 = .ok (.aload_n 0, 1) := by decide +kernel
theorem d_Np_at_1 : decode prog_1_method_9_code 1 = .ok (.getfield 18, 3) := by decide +kernel
theorem d_Np_at_4 : decode prog_1_method_9_code 4 = .ok (.iload_n 1, 1) := by decide +kernel
theorem d_Np_at_5 : decode prog_1_method_9_code 5 = .ok (.invokevirtual 133, 3) := by decide +kernel
theorem d_Np_at_8 : decode prog_1_method_9_code 8 = .ok (.ireturn, 1) := by decide +kernel
theorem d_Np_add_0 : decode prog_1_method_10_code 0 = .ok (.aload_n 0, 1) := by decide +kernel
theorem d_Np_add_1 : decode prog_1_method_10_code 1 = .ok (.getfield 18, 3) := by decide +kernel
theorem d_Np_add_4 : decode prog_1_method_10_code 4 = .ok (.iload_n 1, 1) := by decide +kernel
theorem d_Np_add_5 : decode prog_1_method_10_code 5 = .ok (.invokevirtual 82, 3) := by decide +kernel
theorem d_Np_add_8 : decode prog_1_method_10_code 8 = .ok (.ireturn, 1) := by decide +kernel
theorem d_Np_put_0 : decode prog_1_method_11_code 0 = .ok (.aload_n 0, 1) := by decide +kernel
theorem d_Np_put_1 : decode prog_1_method_11_code 1 = .ok (.getfield 18, 3) := by decide +kernel
theorem d_Np_put_4 : decode prog_1_method_11_code 4 = .ok (.iload_n 1, 1) := by decide +kernel
theorem d_Np_put_5 : decode prog_1_method_11_code 5 = .ok (.invokevirtual 136, 3) := by decide +kernel
theorem d_Np_put_8 : decode prog_1_method_11_code 8 = .ok (.ifCond .ne 13, 3) := by decide +kernel
theorem d_Np_put_11 : decode prog_1_method_11_code 11 = .ok (.new 139, 3) := by decide +kernel
theorem d_Np_put_14 : decode prog_1_method_11_code 14 = .ok (.dup, 1) := by decide +kernel
theorem d_Np_put_15 : decode prog_1_method_11_code 15 = .ok (.ldc 141, 2) := by decide +kernel
theorem d_Np_put_17 : decode prog_1_method_11_code 17 = .ok (.invokespecial 143, 3) := by decide +kernel
theorem d_Np_put_20 : decode prog_1_method_11_code 20 = .ok (.athrow, 1) := by decide +kernel
theorem d_Np_put_21 : decode prog_1_method_11_code 21 = .ok (.iload_n 2, 1) := by decide +kernel
theorem d_Np_put_22 : decode prog_1_method_11_code 22 = .ok (.invokestatic 144, 3) := by decide +kernel
theorem d_Np_put_25 : decode prog_1_method_11_code 25 = .ok (.ifCond .ne 13, 3) := by decide +kernel
theorem d_Np_put_28 : decode prog_1_method_11_code 28 = .ok (.new 147, 3) := by decide +kernel
theorem d_Np_put_31 : decode prog_1_method_11_code 31 = .ok (.dup, 1) := by decide +kernel
theorem d_Np_put_32 : decode prog_1_method_11_code 32 = .ok (.ldc 149, 2) := by decide +kernel
theorem d_Np_put_34 : decode prog_1_method_11_code 34 = .ok (.invokespecial 151, 3) := by decide +kernel
theorem d_Np_put_37 : decode prog_1_method_11_code 37 = .ok (.athrow, 1) := by decide +kernel
theorem d_Np_put_38 : decode prog_1_method_11_code 38 = .ok (.aload_n 0, 1) := by decide +kernel
theorem d_Np_put_39 : decode prog_1_method_11_code 39 = .ok (.getfield 18, 3) := by decide +kernel
theorem d_Np_put_42 : decode prog_1_method_11_code 42 = .ok (.getfield 152, 3) := by decide +kernel
theorem d_Np_put_45 : decode prog_1_method_11_code 45 = .ok (.iload_n 1, 1) := by decide +kernel
theorem d_Np_put_46 : decode prog_1_method_11_code 46 = .ok (.iaload, 1) := by decide +kernel
theorem d_Np_put_47 : decode prog_1_method_11_code 47 = .ok (.istore_n 3, 1) := by decide +kernel
theorem d_Np_put_48 : decode prog_1_method_11_code 48 = .ok (.aload_n 0, 1) := by decide +kernel
theorem d_Np_put_49 : decode prog_1_method_11_code 49 = .ok (.getfield 18, 3) := by decide +kernel
theorem d_Np_put_52 : decode prog_1_method_11_code 52 = .ok (.getfield 152, 3) := by decide +kernel
theorem d_Np_put_55 : decode prog_1_method_11_code 55 = .ok (.iload_n 1, 1) := by decide +kernel
theorem d_Np_put_56 : decode prog_1_method_11_code 56 = .ok (.iload_n 2, 1) := by decide +kernel
theorem d_Np_put_57 : decode prog_1_method_11_code 57 = .ok (.iastore, 1) := by decide +kernel
theorem d_Np_put_58 : decode prog_1_method_11_code 58 = .ok (.iload_n 3, 1) := by decide +kernel
theorem d_Np_put_59 : decode prog_1_method_11_code 59 = .ok (.ireturn, 1) := by decide +kernel
theorem d_Np_cut_0 : decode prog_1_method_12_code 0 = .ok (.iload_n 1, 1) := by decide +kernel
theorem d_Np_cut_1 : decode prog_1_method_12_code 1 = .ok (.ifCond .ge 13, 3) := by decide +kernel
theorem d_Np_cut_4 : decode prog_1_method_12_code 4 = .ok (.new 147, 3) := by decide +kernel
theorem d_Np_cut_7 : decode prog_1_method_12_code 7 = .ok (.dup, 1) := by decide +kernel
theorem d_Np_cut_8 : decode prog_1_method_12_code 8 = .ok (.ldc 155, 2) := by decide +kernel
theorem d_Np_cut_10 : decode prog_1_method_12_code 10 = .ok (.invokespecial 151, 3) := by decide +kernel
theorem d_Np_cut_13 : decode prog_1_method_12_code 13 = .ok (.athrow, 1) := by decide +kernel
theorem d_Np_cut_14 : decode prog_1_method_12_code 14 = .ok (.aload_n 0, 1) := by decide +kernel
theorem d_Np_cut_15 : decode prog_1_method_12_code 15 = .ok (.getfield 18, 3) := by decide +kernel
theorem d_Np_cut_18 : decode prog_1_method_12_code 18 = .ok (.iload_n 1, 1) := by decide +kernel
theorem d_Np_cut_19 : decode prog_1_method_12_code 19 = .ok (.invokevirtual 86, 3) := by decide +kernel
theorem d_Np_cut_22 : decode prog_1_method_12_code 22 = .ok (.ireturn, 1) := by decide +kernel
theorem d_Np_unpack_0 : decode prog_1_method_13_code 0 = .ok (.aload_n 0, 1) := by decide +kernel
theorem d_Np_unpack_1 : decode prog_1_method_13_code 1 = .ok (.getfield 48, 3) := by decide +kernel
theorem d_Np_unpack_4 : decode prog_1_method_13_code 4 = .ok (.invokevirtual 90, 3) := by decide +kernel
theorem d_Np_unpack_7 : decode prog_1_method_13_code 7 = .ok (.aload_n 0, 1) := by decide +kernel
theorem d_Np_unpack_8 : decode prog_1_method_13_code 8 = .ok (.getfield 78, 3) := by decide +kernel
theorem d_Np_unpack_11 : decode prog_1_method_13_code 11 = .ok (.getfield 157, 3) := by decide +kernel
theorem d_Np_unpack_14 : decode prog_1_method_13_code 14 = .ok (.aload_n 0, 1) := by decide +kernel
theorem d_Np_unpack_15 : decode prog_1_method_13_code 15 = .ok (.getfield 18, 3) := by decide +kernel
theorem d_Np_unpack_18 : decode prog_1_method_13_code 18 = .ok (.invokevirtual 161, 3) := by decide +kernel
theorem d_Np_unpack_21 : decode prog_1_method_13_code 21 = .ok (.iconst 0, 1) := by decide +kernel
theorem d_Np_unpack_22 : decode prog_1_method_13_code 22 = .ok (.istore_n 1, 1) := by decide +kernel
theorem d_Np_unpack_23 : decode prog_1_method_13_code 23 = .ok (.iload_n 1, 1) := by decide +kernel
theorem d_Np_unpack_24 : decode prog_1_method_13_code 24 = .ok (.bipush 120, 2) := by decide +kernel
theorem d_Np_unpack_26 : decode prog_1_method_13_code 26 = .ok (.if_icmp .gt 53, 3) := by decide +kernel
theorem d_Np_unpack_29 : decode prog_1_method_13_code 29 = .ok (.aload_n 0, 1) := by decide +kernel
theorem d_Np_unpack_30 : decode prog_1_method_13_code 30 = .ok (.getfield 78, 3) := by decide +kernel
theorem d_Np_unpack_33 : decode prog_1_method_13_code 33 = .ok (.aload_n 0, 1) := by decide +kernel
theorem d_Np_unpack_34 : decode prog_1_method_13_code 34 = .ok (.getfield 41, 3) := by decide +kernel
theorem d_Np_unpack_37 : decode prog_1_method_13_code 37 = .ok (.aload_n 0, 1) := by decide +kernel
theorem d_Np_unpack_38 : decode prog_1_method_13_code 38 = .ok (.getfield 48, 3) := by decide +kernel
theorem d_Np_unpack_41 : decode prog_1_method_13_code 41 = .ok (.invokevirtual 166, 3) := by decide +kernel
theorem d_Np_unpack_44 : decode prog_1_method_13_code 44 = .ok (.aload_n 0, 1) := by decide +kernel
theorem d_Np_unpack_45 : decode prog_1_method_13_code 45 = .ok (.getfield 41, 3) := by decide +kernel
theorem d_Np_unpack_48 : decode prog_1_method_13_code 48 = .ok (.getfield 170, 3) := by decide +kernel
theorem d_Np_unpack_51 : decode prog_1_method_13_code 51 = .ok (.iconst 4, 1) := by decide +kernel
theorem d_Np_unpack_52 : decode prog_1_method_13_code 52 = .ok (.if_icmp .ne 6, 3) := by decide +kernel
theorem d_Np_unpack_55 : decode prog_1_method_13_code 55 = .ok (.goto 24, 3) := by decide +kernel
theorem d_Np_unpack_58 : decode prog_1_method_13_code 58 = .ok (.aload_n 0, 1) := by decide +kernel
theorem d_Np_unpack_59 : decode prog_1_method_13_code 59 = .ok (.invokevirtual 173, 3) := by decide +kernel
theorem d_Np_unpack_62 : decode prog_1_method_13_code 62 = .ok (.aload_n 0, 1) := by decide +kernel
theorem d_Np_unpack_63 : decode prog_1_method_13_code 63 = .ok (.getfield 48, 3) := by decide +kernel
theorem d_Np_unpack_66 : decode prog_1_method_13_code 66 = .ok (.aload_n 0, 1) := by decide +kernel
theorem d_Np_unpack_67 : decode prog_1_method_13_code 67 = .ok (.getfield 41, 3) := by decide +kernel
theorem d_Np_unpack_70 : decode prog_1_method_13_code 70 = .ok (.invokevirtual 176, 3) := by decide +kernel
theorem d_Np_unpack_73 : decode prog_1_method_13_code 73 = .ok (.iinc 1 1, 3) := by decide +kernel
theorem d_Np_unpack_76 : decode prog_1_method_13_code 76 = .ok (.goto (-53), 3) := by decide +kernel
theorem d_Np_unpack_79 : decode prog_1_method_13_code 79 = .ok (.aload_n 0, 1) := by decide +kernel
theorem d_Np_unpack_80 : decode prog_1_method_13_code 80 = .ok (.getfield 78, 3) := by decide +kernel
theorem d_Np_unpack_83 : decode prog_1_method_13_code 83 = .ok (.getfield 157, 3) := by decide +kernel
theorem d_Np_unpack_86 : decode prog_1_method_13_code 86 = .ok (.invokevirtual 180, 3) := by decide +kernel
theorem d_Np_unpack_89 : decode prog_1_method_13_code 89 = .ok (.aload_n 0, 1) := by decide +kernel
theorem d_Np_unpack_90 : decode prog_1_method_13_code 90 = .ok (.getfield 21, 3) := by decide +kernel
theorem d_Np_unpack_93 : decode prog_1_method_13_code 93 = .ok (.aload_n 0, 1) := by decide +kernel
theorem d_Np_unpack_94 : decode prog_1_method_13_code 94 = .ok (.getfield 48, 3) := by decide +kernel
theorem d_Np_unpack_97 : decode prog_1_method_13_code 97 = .ok (.getfield 183, 3) := by decide +kernel
theorem d_Np_unpack_100 : decode prog_1_method_13_code 100 = .ok (.getfield 152, 3) := by decide +kernel
theorem d_Np_unpack_103 : decode prog_1_method_13_code 103 = .ok (.aload_n 0, 1) := by decide +kernel
theorem d_Np_unpack_104 : decode prog_1_method_13_code 104 = .ok (.getfield 48, 3) := by decide +kernel
theorem d_Np_unpack_107 : decode prog_1_method_13_code 107 = .ok (.getfield 183, 3) := by decide +kernel
theorem d_Np_unpack_110 : decode prog_1_method_13_code 110 = .ok (.getfield 121, 3) := by decide +kernel
theorem d_Np_unpack_113 : decode prog_1_method_13_code 113 = .ok (.invokevirtual 186, 3) := by decide +kernel
theorem d_Np_unpack_116 : decode prog_1_method_13_code 116 = .ok (.aload_n 0, 1) := by decide +kernel
theorem d_Np_unpack_117 : decode prog_1_method_13_code 117 = .ok (.getfield 21, 3) := by decide +kernel
theorem d_Np_unpack_120 : decode prog_1_method_13_code 120 = .ok (.getfield 121, 3) := by decide +kernel
theorem d_Np_unpack_123 : decode prog_1_method_13_code 123 = .ok (.ireturn, 1) := by decide +kernel
theorem d_Np_told_0 : decode prog_1_method_14_code 0 = .ok (.aload_n 0, 1) := by decide +kernel
theorem d_Np_told_1 : decode prog_1_method_14_code 1 = .ok (.getfield 21, 3) := by decide +kernel
theorem d_Np_told_4 : decode prog_1_method_14_code 4 = .ok (.getfield 121, 3) := by decide +kernel
theorem d_Np_told_7 : decode prog_1_method_14_code 7 = .ok (.ireturn, 1) := by decide +kernel
theorem d_Np_byteAt_0 : decode prog_1_method_15_code 0 = .ok (.aload_n 0, 1) := by decide +kernel
theorem d_Np_byteAt_1 : decode prog_1_method_15_code 1 = .ok (.getfield 21, 3) := by decide +kernel
theorem d_Np_byteAt_4 : decode prog_1_method_15_code 4 = .ok (.iload_n 1, 1) := by decide +kernel
theorem d_Np_byteAt_5 : decode prog_1_method_15_code 5 = .ok (.invokevirtual 133, 3) := by decide +kernel
theorem d_Np_byteAt_8 : decode prog_1_method_15_code 8 = .ok (.ireturn, 1) := by decide +kernel
theorem d_Np_isByte_0 : decode prog_1_method_16_code 0 = .ok (.iload_n 0, 1) := by decide +kernel
theorem d_Np_isByte_1 : decode prog_1_method_16_code 1 = .ok (.ifCond .lt 14, 3) := by decide +kernel
theorem d_Np_isByte_4 : decode prog_1_method_16_code 4 = .ok (.iload_n 0, 1) := by decide +kernel
theorem d_Np_isByte_5 : decode prog_1_method_16_code 5 = .ok (.sipush 255, 3) := by decide +kernel
theorem d_Np_isByte_8 : decode prog_1_method_16_code 8 = .ok (.if_icmp .gt 7, 3) := by decide +kernel
theorem d_Np_isByte_11 : decode prog_1_method_16_code 11 = .ok (.iconst 1, 1) := by decide +kernel
theorem d_Np_isByte_12 : decode prog_1_method_16_code 12 = .ok (.goto 4, 3) := by decide +kernel
theorem d_Np_isByte_15 : decode prog_1_method_16_code 15 = .ok (.iconst 0, 1) := by decide +kernel
theorem d_Np_isByte_16 : decode prog_1_method_16_code 16 = .ok (.ireturn, 1) := by decide +kernel
theorem d_Np_writeSource_0 : decode prog_1_method_17_code 0 = .ok (.iconst 0, 1) := by decide +kernel
theorem d_Np_writeSource_1 : decode prog_1_method_17_code 1 = .ok (.istore_n 1, 1) := by decide +kernel
theorem d_Np_writeSource_2 : decode prog_1_method_17_code 2 = .ok (.iload_n 1, 1) := by decide +kernel
theorem d_Np_writeSource_3 : decode prog_1_method_17_code 3 = .ok (.bipush 120, 2) := by decide +kernel
theorem d_Np_writeSource_5 : decode prog_1_method_17_code 5 = .ok (.if_icmp .ge 85, 3) := by decide +kernel
theorem d_Np_writeSource_8 : decode prog_1_method_17_code 8 = .ok (.aload_n 0, 1) := by decide +kernel
theorem d_Np_writeSource_9 : decode prog_1_method_17_code 9 = .ok (.getfield 48, 3) := by decide +kernel
theorem d_Np_writeSource_12 : decode prog_1_method_17_code 12 = .ok (.getfield 183, 3) := by decide +kernel
theorem d_Np_writeSource_15 : decode prog_1_method_17_code 15 = .ok (.getfield 121, 3) := by decide +kernel
theorem d_Np_writeSource_18 : decode prog_1_method_17_code 18 = .ok (.aload_n 0, 1) := by decide +kernel
theorem d_Np_writeSource_19 : decode prog_1_method_17_code 19 = .ok (.getfield 14, 3) := by decide +kernel
theorem d_Np_writeSource_22 : decode prog_1_method_17_code 22 = .ok (.getfield 121, 3) := by decide +kernel
theorem d_Np_writeSource_25 : decode prog_1_method_17_code 25 = .ok (.if_icmp .ge 65, 3) := by decide +kernel
theorem d_Np_writeSource_28 : decode prog_1_method_17_code 28 = .ok (.aload_n 0, 1) := by decide +kernel
theorem d_Np_writeSource_29 : decode prog_1_method_17_code 29 = .ok (.getfield 64, 3) := by decide +kernel
theorem d_Np_writeSource_32 : decode prog_1_method_17_code 32 = .ok (.aload_n 0, 1) := by decide +kernel
theorem d_Np_writeSource_33 : decode prog_1_method_17_code 33 = .ok (.getfield 41, 3) := by decide +kernel
theorem d_Np_writeSource_36 : decode prog_1_method_17_code 36 = .ok (.aload_n 0, 1) := by decide +kernel
theorem d_Np_writeSource_37 : decode prog_1_method_17_code 37 = .ok (.getfield 14, 3) := by decide +kernel
theorem d_Np_writeSource_40 : decode prog_1_method_17_code 40 = .ok (.aload_n 0, 1) := by decide +kernel
theorem d_Np_writeSource_41 : decode prog_1_method_17_code 41 = .ok (.getfield 48, 3) := by decide +kernel
theorem d_Np_writeSource_44 : decode prog_1_method_17_code 44 = .ok (.invokevirtual 190, 3) := by decide +kernel
theorem d_Np_writeSource_47 : decode prog_1_method_17_code 47 = .ok (.aload_n 0, 1) := by decide +kernel
theorem d_Np_writeSource_48 : decode prog_1_method_17_code 48 = .ok (.getfield 71, 3) := by decide +kernel
theorem d_Np_writeSource_51 : decode prog_1_method_17_code 51 = .ok (.aload_n 0, 1) := by decide +kernel
theorem d_Np_writeSource_52 : decode prog_1_method_17_code 52 = .ok (.getfield 41, 3) := by decide +kernel
theorem d_Np_writeSource_55 : decode prog_1_method_17_code 55 = .ok (.aload_n 0, 1) := by decide +kernel
theorem d_Np_writeSource_56 : decode prog_1_method_17_code 56 = .ok (.getfield 48, 3) := by decide +kernel
theorem d_Np_writeSource_59 : decode prog_1_method_17_code 59 = .ok (.invokevirtual 194, 3) := by decide +kernel
theorem d_Np_writeSource_62 : decode prog_1_method_17_code 62 = .ok (.aload_n 0, 1) := by decide +kernel
theorem d_Np_writeSource_63 : decode prog_1_method_17_code 63 = .ok (.getfield 48, 3) := by decide +kernel
theorem d_Np_writeSource_66 : decode prog_1_method_17_code 66 = .ok (.aload_n 0, 1) := by decide +kernel
theorem d_Np_writeSource_67 : decode prog_1_method_17_code 67 = .ok (.getfield 41, 3) := by decide +kernel
theorem d_Np_writeSource_70 : decode prog_1_method_17_code 70 = .ok (.invokevirtual 176, 3) := by decide +kernel
theorem d_Np_writeSource_73 : decode prog_1_method_17_code 73 = .ok (.aload_n 0, 1) := by decide +kernel
theorem d_Np_writeSource_74 : decode prog_1_method_17_code 74 = .ok (.getfield 35, 3) := by decide +kernel
theorem d_Np_writeSource_77 : decode prog_1_method_17_code 77 = .ok (.aload_n 0, 1) := by decide +kernel
theorem d_Np_writeSource_78 : decode prog_1_method_17_code 78 = .ok (.getfield 41, 3) := by decide +kernel
theorem d_Np_writeSource_81 : decode prog_1_method_17_code 81 = .ok (.invokevirtual 197, 3) := by decide +kernel
theorem d_Np_writeSource_84 : decode prog_1_method_17_code 84 = .ok (.iinc 1 1, 3) := by decide +kernel
theorem d_Np_writeSource_87 : decode prog_1_method_17_code 87 = .ok (.goto (-85), 3) := by decide +kernel
theorem d_Np_writeSource_90 : decode prog_1_method_17_code 90 = .ok (.aload_n 0, 1) := by decide +kernel
theorem d_Np_writeSource_91 : decode prog_1_method_17_code 91 = .ok (.getfield 41, 3) := by decide +kernel
theorem d_Np_writeSource_94 : decode prog_1_method_17_code 94 = .ok (.invokevirtual 199, 3) := by decide +kernel
theorem d_Np_writeSource_97 : decode prog_1_method_17_code 97 = .ok (.aload_n 0, 1) := by decide +kernel
theorem d_Np_writeSource_98 : decode prog_1_method_17_code 98 = .ok (.getfield 71, 3) := by decide +kernel
theorem d_Np_writeSource_101 : decode prog_1_method_17_code 101 = .ok (.aload_n 0, 1) := by decide +kernel
theorem d_Np_writeSource_102 : decode prog_1_method_17_code 102 = .ok (.getfield 41, 3) := by decide +kernel
theorem d_Np_writeSource_105 : decode prog_1_method_17_code 105 = .ok (.aload_n 0, 1) := by decide +kernel
theorem d_Np_writeSource_106 : decode prog_1_method_17_code 106 = .ok (.getfield 48, 3) := by decide +kernel
theorem d_Np_writeSource_109 : decode prog_1_method_17_code 109 = .ok (.invokevirtual 194, 3) := by decide +kernel
theorem d_Np_writeSource_112 : decode prog_1_method_17_code 112 = .ok (.return_, 1) := by decide +kernel
theorem d_Np_keepPacking_0 : decode prog_1_method_18_code 0 = .ok (.aload_n 0, 1) := by decide +kernel
theorem d_Np_keepPacking_1 : decode prog_1_method_18_code 1 = .ok (.getfield 18, 3) := by decide +kernel
theorem d_Np_keepPacking_4 : decode prog_1_method_18_code 4 = .ok (.aload_n 1, 1) := by decide +kernel
theorem d_Np_keepPacking_5 : decode prog_1_method_18_code 5 = .ok (.getfield 202, 3) := by decide +kernel
theorem d_Np_keepPacking_8 : decode prog_1_method_18_code 8 = .ok (.aload_n 1, 1) := by decide +kernel
theorem d_Np_keepPacking_9 : decode prog_1_method_18_code 9 = .ok (.getfield 205, 3) := by decide +kernel
theorem d_Np_keepPacking_12 : decode prog_1_method_18_code 12 = .ok (.invokevirtual 186, 3) := by decide +kernel
theorem d_Np_keepPacking_15 : decode prog_1_method_18_code 15 = .ok (.aload_n 1, 1) := by decide +kernel
theorem d_Np_keepPacking_16 : decode prog_1_method_18_code 16 = .ok (.getfield 208, 3) := by decide +kernel
theorem d_Np_keepPacking_19 : decode prog_1_method_18_code 19 = .ok (.getfield 212, 3) := by decide +kernel
theorem d_Np_keepPacking_22 : decode prog_1_method_18_code 22 = .ok (.iconst 0, 1) := by decide +kernel
theorem d_Np_keepPacking_23 : decode prog_1_method_18_code 23 = .ok (.aload_n 0, 1) := by decide +kernel
theorem d_Np_keepPacking_24 : decode prog_1_method_18_code 24 = .ok (.getfield 24, 3) := by decide +kernel
theorem d_Np_keepPacking_27 : decode prog_1_method_18_code 27 = .ok (.iconst 0, 1) := by decide +kernel
theorem d_Np_keepPacking_28 : decode prog_1_method_18_code 28 = .ok (.bipush 72, 2) := by decide +kernel
theorem d_Np_keepPacking_30 : decode prog_1_method_18_code 30 = .ok (.invokestatic 215, 3) := by decide +kernel
theorem d_Np_keepPacking_33 : decode prog_1_method_18_code 33 = .ok (.aload_n 0, 1) := by decide +kernel
theorem d_Np_keepPacking_34 : decode prog_1_method_18_code 34 = .ok (.getfield 31, 3) := by decide +kernel
theorem d_Np_keepPacking_37 : decode prog_1_method_18_code 37 = .ok (.astore_n 2, 1) := by decide +kernel
theorem d_Np_keepPacking_38 : decode prog_1_method_18_code 38 = .ok (.aload_n 0, 1) := by decide +kernel
theorem d_Np_keepPacking_39 : decode prog_1_method_18_code 39 = .ok (.aload_n 0, 1) := by decide +kernel
theorem d_Np_keepPacking_40 : decode prog_1_method_18_code 40 = .ok (.getfield 35, 3) := by decide +kernel
theorem d_Np_keepPacking_43 : decode prog_1_method_18_code 43 = .ok (.putfield 31, 3) := by decide +kernel
theorem d_Np_keepPacking_46 : decode prog_1_method_18_code 46 = .ok (.aload_n 0, 1) := by decide +kernel
theorem d_Np_keepPacking_47 : decode prog_1_method_18_code 47 = .ok (.aload_n 2, 1) := by decide +kernel
theorem d_Np_keepPacking_48 : decode prog_1_method_18_code 48 = .ok (.putfield 35, 3) := by decide +kernel
theorem d_Np_keepPacking_51 : decode prog_1_method_18_code 51 = .ok (.aload_n 0, 1) := by decide +kernel
theorem d_Np_keepPacking_52 : decode prog_1_method_18_code 52 = .ok (.iconst 1, 1) := by decide +kernel
theorem d_Np_keepPacking_53 : decode prog_1_method_18_code 53 = .ok (.putfield 129, 3) := by decide +kernel
theorem d_Np_keepPacking_56 : decode prog_1_method_18_code 56 = .ok (.return_, 1) := by decide +kernel
theorem d_Np_refuseWhatCannotBeTold_0 : decode prog_1_method_19_code 0 = .ok (.aload_n 0, 1) := by decide +kernel
theorem d_Np_refuseWhatCannotBeTold_1 : decode prog_1_method_19_code 1 = .ok (.getfield 41, 3) := by decide +kernel
theorem d_Np_refuseWhatCannotBeTold_4 : decode prog_1_method_19_code 4 = .ok (.getfield 170, 3) := by decide +kernel
theorem d_Np_refuseWhatCannotBeTold_7 : decode prog_1_method_19_code 7 = .ok (.ifCond .eq 33, 3) := by decide +kernel
theorem d_Np_refuseWhatCannotBeTold_10 : decode prog_1_method_19_code 10 = .ok (.aload_n 0, 1) := by decide +kernel
theorem d_Np_refuseWhatCannotBeTold_11 : decode prog_1_method_19_code 11 = .ok (.getfield 41, 3) := by decide +kernel
theorem d_Np_refuseWhatCannotBeTold_14 : decode prog_1_method_19_code 14 = .ok (.getfield 221, 3) := by decide +kernel
theorem d_Np_refuseWhatCannotBeTold_17 : decode prog_1_method_19_code 17 = .ok (.aload_n 0, 1) := by decide +kernel
theorem d_Np_refuseWhatCannotBeTold_18 : decode prog_1_method_19_code 18 = .ok (.getfield 48, 3) := by decide +kernel
theorem d_Np_refuseWhatCannotBeTold_21 : decode prog_1_method_19_code 21 = .ok (.getfield 183, 3) := by decide +kernel
theorem d_Np_refuseWhatCannotBeTold_24 : decode prog_1_method_19_code 24 = .ok (.getfield 121, 3) := by decide +kernel
theorem d_Np_refuseWhatCannotBeTold_27 : decode prog_1_method_19_code 27 = .ok (.if_icmp .le 13, 3) := by decide +kernel
theorem d_Np_refuseWhatCannotBeTold_30 : decode prog_1_method_19_code 30 = .ok (.new 139, 3) := by decide +kernel
theorem d_Np_refuseWhatCannotBeTold_33 : decode prog_1_method_19_code 33 = .ok (.dup, 1) := by decide +kernel
theorem d_Np_refuseWhatCannotBeTold_34 : decode prog_1_method_19_code 34 = .ok (.ldc 224, 2) := by decide +kernel
theorem d_Np_refuseWhatCannotBeTold_36 : decode prog_1_method_19_code 36 = .ok (.invokespecial 143, 3) := by decide +kernel
theorem d_Np_refuseWhatCannotBeTold_39 : decode prog_1_method_19_code 39 = .ok (.athrow, 1) := by decide +kernel
theorem d_Np_refuseWhatCannotBeTold_40 : decode prog_1_method_19_code 40 = .ok (.aload_n 0, 1) := by decide +kernel
theorem d_Np_refuseWhatCannotBeTold_41 : decode prog_1_method_19_code 41 = .ok (.getfield 41, 3) := by decide +kernel
theorem d_Np_refuseWhatCannotBeTold_44 : decode prog_1_method_19_code 44 = .ok (.getfield 226, 3) := by decide +kernel
theorem d_Np_refuseWhatCannotBeTold_47 : decode prog_1_method_19_code 47 = .ok (.bipush 120, 2) := by decide +kernel
theorem d_Np_refuseWhatCannotBeTold_49 : decode prog_1_method_19_code 49 = .ok (.aload_n 0, 1) := by decide +kernel
theorem d_Np_refuseWhatCannotBeTold_50 : decode prog_1_method_19_code 50 = .ok (.getfield 48, 3) := by decide +kernel
theorem d_Np_refuseWhatCannotBeTold_53 : decode prog_1_method_19_code 53 = .ok (.getfield 183, 3) := by decide +kernel
theorem d_Np_refuseWhatCannotBeTold_56 : decode prog_1_method_19_code 56 = .ok (.getfield 121, 3) := by decide +kernel
theorem d_Np_refuseWhatCannotBeTold_59 : decode prog_1_method_19_code 59 = .ok (.isub, 1) := by decide +kernel
theorem d_Np_refuseWhatCannotBeTold_60 : decode prog_1_method_19_code 60 = .ok (.if_icmp .le 13, 3) := by decide +kernel
theorem d_Np_refuseWhatCannotBeTold_63 : decode prog_1_method_19_code 63 = .ok (.new 110, 3) := by decide +kernel
theorem d_Np_refuseWhatCannotBeTold_66 : decode prog_1_method_19_code 66 = .ok (.dup, 1) := by decide +kernel
theorem d_Np_refuseWhatCannotBeTold_67 : decode prog_1_method_19_code 67 = .ok (.ldc 227, 2) := by decide +kernel
theorem d_Np_refuseWhatCannotBeTold_69 : decode prog_1_method_19_code 69 = .ok (.invokespecial 114, 3) := by decide +kernel
theorem d_Np_refuseWhatCannotBeTold_72 : decode prog_1_method_19_code 72 = .ok (.athrow, 1) := by decide +kernel
theorem d_Np_refuseWhatCannotBeTold_73 : decode prog_1_method_19_code 73 = .ok (.return_, 1) := by decide +kernel
theorem d_Mo_init_0 : decode prog_13_method_1_code 0 = .ok (.aload_n 0, 1) := by decide +kernel
theorem d_Mo_init_1 : decode prog_13_method_1_code 1 = .ok (.invokespecial 1, 3) := by decide +kernel
theorem d_Mo_init_4 : decode prog_13_method_1_code 4 = .ok (.aload_n 0, 1) := by decide +kernel
theorem d_Mo_init_5 : decode prog_13_method_1_code 5 = .ok (.bipush 120, 2) := by decide +kernel
theorem d_Mo_init_7 : decode prog_13_method_1_code 7 = .ok (.newarray .int, 2) := by decide +kernel
theorem d_Mo_init_9 : decode prog_13_method_1_code 9 = .ok (.putfield 7, 3) := by decide +kernel
theorem d_Mo_init_12 : decode prog_13_method_1_code 12 = .ok (.aload_n 0, 1) := by decide +kernel
theorem d_Mo_init_13 : decode prog_13_method_1_code 13 = .ok (.sipush 200, 3) := by decide +kernel
theorem d_Mo_init_16 : decode prog_13_method_1_code 16 = .ok (.newarray .int, 2) := by decide +kernel
theorem d_Mo_init_18 : decode prog_13_method_1_code 18 = .ok (.putfield 13, 3) := by decide +kernel
theorem d_Mo_init_21 : decode prog_13_method_1_code 21 = .ok (.aload_n 0, 1) := by decide +kernel
theorem d_Mo_init_22 : decode prog_13_method_1_code 22 = .ok (.bipush 120, 2) := by decide +kernel
theorem d_Mo_init_24 : decode prog_13_method_1_code 24 = .ok (.newarray .int, 2) := by decide +kernel
theorem d_Mo_init_26 : decode prog_13_method_1_code 26 = .ok (.putfield 16, 3) := by decide +kernel
theorem d_Mo_init_29 : decode prog_13_method_1_code 29 = .ok (.aload_n 0, 1) := by decide +kernel
theorem d_Mo_init_30 : decode prog_13_method_1_code 30 = .ok (.bipush 121, 2) := by decide +kernel
theorem d_Mo_init_32 : decode prog_13_method_1_code 32 = .ok (.newarray .int, 2) := by decide +kernel
theorem d_Mo_init_34 : decode prog_13_method_1_code 34 = .ok (.putfield 19, 3) := by decide +kernel
theorem d_Mo_init_37 : decode prog_13_method_1_code 37 = .ok (.aload_n 0, 1) := by decide +kernel
theorem d_Mo_init_38 : decode prog_13_method_1_code 38 = .ok (.bipush 121, 2) := by decide +kernel
theorem d_Mo_init_40 : decode prog_13_method_1_code 40 = .ok (.newarray .int, 2) := by decide +kernel
theorem d_Mo_init_42 : decode prog_13_method_1_code 42 = .ok (.putfield 22, 3) := by decide +kernel
theorem d_Mo_init_45 : decode prog_13_method_1_code 45 = .ok (.aload_n 0, 1) := by decide +kernel
theorem d_Mo_init_46 : decode prog_13_method_1_code 46 = .ok (.bipush 121, 2) := by decide +kernel
theorem d_Mo_init_48 : decode prog_13_method_1_code 48 = .ok (.newarray .int, 2) := by decide +kernel
theorem d_Mo_init_50 : decode prog_13_method_1_code 50 = .ok (.putfield 25, 3) := by decide +kernel
theorem d_Mo_init_53 : decode prog_13_method_1_code 53 = .ok (.aload_n 0, 1) := by decide +kernel
theorem d_Mo_init_54 : decode prog_13_method_1_code 54 = .ok (.bipush 72, 2) := by decide +kernel
theorem d_Mo_init_56 : decode prog_13_method_1_code 56 = .ok (.newarray .int, 2) := by decide +kernel
theorem d_Mo_init_58 : decode prog_13_method_1_code 58 = .ok (.putfield 28, 3) := by decide +kernel
theorem d_Mo_init_61 : decode prog_13_method_1_code 61 = .ok (.aload_n 0, 1) := by decide +kernel
theorem d_Mo_init_62 : decode prog_13_method_1_code 62 = .ok (.sipush 3948, 3) := by decide +kernel
theorem d_Mo_init_65 : decode prog_13_method_1_code 65 = .ok (.newarray .int, 2) := by decide +kernel
theorem d_Mo_init_67 : decode prog_13_method_1_code 67 = .ok (.putfield 31, 3) := by decide +kernel
theorem d_Mo_init_70 : decode prog_13_method_1_code 70 = .ok (.aload_n 0, 1) := by decide +kernel
theorem d_Mo_init_71 : decode prog_13_method_1_code 71 = .ok (.sipush 1600, 3) := by decide +kernel
theorem d_Mo_init_74 : decode prog_13_method_1_code 74 = .ok (.newarray .int, 2) := by decide +kernel
theorem d_Mo_init_76 : decode prog_13_method_1_code 76 = .ok (.putfield 34, 3) := by decide +kernel
theorem d_Mo_init_79 : decode prog_13_method_1_code 79 = .ok (.aload_n 0, 1) := by decide +kernel
theorem d_Mo_init_80 : decode prog_13_method_1_code 80 = .ok (.bipush 120, 2) := by decide +kernel
theorem d_Mo_init_82 : decode prog_13_method_1_code 82 = .ok (.newarray .int, 2) := by decide +kernel
theorem d_Mo_init_84 : decode prog_13_method_1_code 84 = .ok (.putfield 37, 3) := by decide +kernel
theorem d_Mo_init_87 : decode prog_13_method_1_code 87 = .ok (.aload_n 0, 1) := by decide +kernel
theorem d_Mo_init_88 : decode prog_13_method_1_code 88 = .ok (.iconst 4, 1) := by decide +kernel
theorem d_Mo_init_89 : decode prog_13_method_1_code 89 = .ok (.newarray .int, 2) := by decide +kernel
theorem d_Mo_init_91 : decode prog_13_method_1_code 91 = .ok (.putfield 40, 3) := by decide +kernel
theorem d_Mo_init_94 : decode prog_13_method_1_code 94 = .ok (.aload_n 0, 1) := by decide +kernel
theorem d_Mo_init_95 : decode prog_13_method_1_code 95 = .ok (.bipush 121, 2) := by decide +kernel
theorem d_Mo_init_97 : decode prog_13_method_1_code 97 = .ok (.newarray .int, 2) := by decide +kernel
theorem d_Mo_init_99 : decode prog_13_method_1_code 99 = .ok (.putfield 43, 3) := by decide +kernel
theorem d_Mo_init_102 : decode prog_13_method_1_code 102 = .ok (.aload_n 0, 1) := by decide +kernel
theorem d_Mo_init_103 : decode prog_13_method_1_code 103 = .ok (.bipush 121, 2) := by decide +kernel
theorem d_Mo_init_105 : decode prog_13_method_1_code 105 = .ok (.newarray .int, 2) := by decide +kernel
theorem d_Mo_init_107 : decode prog_13_method_1_code 107 = .ok (.putfield 46, 3) := by decide +kernel
theorem d_Mo_init_110 : decode prog_13_method_1_code 110 = .ok (.aload_n 0, 1) := by decide +kernel
theorem d_Mo_init_111 : decode prog_13_method_1_code 111 = .ok (.bipush 121, 2) := by decide +kernel
theorem d_Mo_init_113 : decode prog_13_method_1_code 113 = .ok (.newarray .int, 2) := by decide +kernel
theorem d_Mo_init_115 : decode prog_13_method_1_code 115 = .ok (.putfield 49, 3) := by decide +kernel
theorem d_Mo_init_118 : decode prog_13_method_1_code 118 = .ok (.aload_n 0, 1) := by decide +kernel
theorem d_Mo_init_119 : decode prog_13_method_1_code 119 = .ok (.iload_n 1, 1) := by decide +kernel
theorem d_Mo_init_120 : decode prog_13_method_1_code 120 = .ok (.iconst 1, 1) := by decide +kernel
theorem d_Mo_init_121 : decode prog_13_method_1_code 121 = .ok (.if_icmp .ge 7, 3) := by decide +kernel
theorem d_Mo_init_124 : decode prog_13_method_1_code 124 = .ok (.iconst 1, 1) := by decide +kernel
theorem d_Mo_init_125 : decode prog_13_method_1_code 125 = .ok (.goto 15, 3) := by decide +kernel
theorem d_Mo_init_128 : decode prog_13_method_1_code 128 = .ok (.iload_n 1, 1) := by decide +kernel
theorem d_Mo_init_129 : decode prog_13_method_1_code 129 = .ok (.bipush 16, 2) := by decide +kernel
theorem d_Mo_init_131 : decode prog_13_method_1_code 131 = .ok (.if_icmp .le 8, 3) := by decide +kernel
theorem d_Mo_init_134 : decode prog_13_method_1_code 134 = .ok (.bipush 16, 2) := by decide +kernel
theorem d_Mo_init_136 : decode prog_13_method_1_code 136 = .ok (.goto 4, 3) := by decide +kernel
theorem d_Mo_init_139 : decode prog_13_method_1_code 139 = .ok (.iload_n 1, 1) := by decide +kernel
theorem d_Mo_init_140 : decode prog_13_method_1_code 140 = .ok (.putfield 52, 3) := by decide +kernel
theorem d_Mo_init_143 : decode prog_13_method_1_code 143 = .ok (.return_, 1) := by decide +kernel
theorem d_Mo_thrown_0 : decode prog_13_method_2_code 0 = .ok (.aload_n 0, 1) := by decide +kernel
theorem d_Mo_thrown_1 : decode prog_13_method_2_code 1 = .ok (.getfield 56, 3) := by decide +kernel
theorem d_Mo_thrown_4 : decode prog_13_method_2_code 4 = .ok (.ireturn, 1) := by decide +kernel
theorem d_Mo_isByte_0 : decode prog_13_method_3_code 0 = .ok (.iload_n 0, 1) := by decide +kernel
theorem d_Mo_isByte_1 : decode prog_13_method_3_code 1 = .ok (.ifCond .lt 14, 3) := by decide +kernel
theorem d_Mo_isByte_4 : decode prog_13_method_3_code 4 = .ok (.iload_n 0, 1) := by decide +kernel
theorem d_Mo_isByte_5 : decode prog_13_method_3_code 5 = .ok (.sipush 255, 3) := by decide +kernel
theorem d_Mo_isByte_8 : decode prog_13_method_3_code 8 = .ok (.if_icmp .gt 7, 3) := by decide +kernel
theorem d_Mo_isByte_11 : decode prog_13_method_3_code 11 = .ok (.iconst 1, 1) := by decide +kernel
theorem d_Mo_isByte_12 : decode prog_13_method_3_code 12 = .ok (.goto 4, 3) := by decide +kernel
theorem d_Mo_isByte_15 : decode prog_13_method_3_code 15 = .ok (.iconst 0, 1) := by decide +kernel
theorem d_Mo_isByte_16 : decode prog_13_method_3_code 16 = .ok (.ireturn, 1) := by decide +kernel
theorem d_Mo_type_0 : decode prog_13_method_4_code 0 = .ok (.aload_n 0, 1) := by decide +kernel
theorem d_Mo_type_1 : decode prog_13_method_4_code 1 = .ok (.iconst 0, 1) := by decide +kernel
theorem d_Mo_type_2 : decode prog_13_method_4_code 2 = .ok (.putfield 56, 3) := by decide +kernel
theorem d_Mo_type_5 : decode prog_13_method_4_code 5 = .ok (.iload_n 1, 1) := by decide +kernel
theorem d_Mo_type_6 : decode prog_13_method_4_code 6 = .ok (.invokestatic 59, 3) := by decide +kernel
theorem d_Mo_type_9 : decode prog_13_method_4_code 9 = .ok (.ifCond .eq 12, 3) := by decide +kernel
theorem d_Mo_type_12 : decode prog_13_method_4_code 12 = .ok (.aload_n 0, 1) := by decide +kernel
theorem d_Mo_type_13 : decode prog_13_method_4_code 13 = .ok (.getfield 63, 3) := by decide +kernel
theorem d_Mo_type_16 : decode prog_13_method_4_code 16 = .ok (.bipush 120, 2) := by decide +kernel
theorem d_Mo_type_18 : decode prog_13_method_4_code 18 = .ok (.if_icmp .ne 5, 3) := by decide +kernel
theorem d_Mo_type_21 : decode prog_13_method_4_code 21 = .ok (.iconst 0, 1) := by decide +kernel
theorem d_Mo_type_22 : decode prog_13_method_4_code 22 = .ok (.ireturn, 1) := by decide +kernel
theorem d_Mo_type_23 : decode prog_13_method_4_code 23 = .ok (.aload_n 0, 1) := by decide +kernel
theorem d_Mo_type_24 : decode prog_13_method_4_code 24 = .ok (.getfield 7, 3) := by decide +kernel
theorem d_Mo_type_27 : decode prog_13_method_4_code 27 = .ok (.aload_n 0, 1) := by decide +kernel
theorem d_Mo_type_28 : decode prog_13_method_4_code 28 = .ok (.getfield 63, 3) := by decide +kernel
theorem d_Mo_type_31 : decode prog_13_method_4_code 31 = .ok (.iload_n 1, 1) := by decide +kernel
theorem d_Mo_type_32 : decode prog_13_method_4_code 32 = .ok (.iastore, 1) := by decide +kernel
theorem d_Mo_type_33 : decode prog_13_method_4_code 33 = .ok (.aload_n 0, 1) := by decide +kernel
theorem d_Mo_type_34 : decode prog_13_method_4_code 34 = .ok (.dup, 1) := by decide +kernel
theorem d_Mo_type_35 : decode prog_13_method_4_code 35 = .ok (.getfield 63, 3) := by decide +kernel
theorem d_Mo_type_38 : decode prog_13_method_4_code 38 = .ok (.iconst 1, 1) := by decide +kernel
theorem d_Mo_type_39 : decode prog_13_method_4_code 39 = .ok (.iadd, 1) := by decide +kernel
theorem d_Mo_type_40 : decode prog_13_method_4_code 40 = .ok (.putfield 63, 3) := by decide +kernel
theorem d_Mo_type_43 : decode prog_13_method_4_code 43 = .ok (.iconst 1, 1) := by decide +kernel
theorem d_Mo_type_44 : decode prog_13_method_4_code 44 = .ok (.ireturn, 1) := by decide +kernel
theorem d_Mo_wipe_0 : decode prog_13_method_5_code 0 = .ok (.aload_n 0, 1) := by decide +kernel
theorem d_Mo_wipe_1 : decode prog_13_method_5_code 1 = .ok (.iconst 0, 1) := by decide +kernel
theorem d_Mo_wipe_2 : decode prog_13_method_5_code 2 = .ok (.putfield 56, 3) := by decide +kernel
theorem d_Mo_wipe_5 : decode prog_13_method_5_code 5 = .ok (.aload_n 0, 1) := by decide +kernel
theorem d_Mo_wipe_6 : decode prog_13_method_5_code 6 = .ok (.getfield 63, 3) := by decide +kernel
theorem d_Mo_wipe_9 : decode prog_13_method_5_code 9 = .ok (.istore_n 1, 1) := by decide +kernel
theorem d_Mo_wipe_10 : decode prog_13_method_5_code 10 = .ok (.aload_n 0, 1) := by decide +kernel
theorem d_Mo_wipe_11 : decode prog_13_method_5_code 11 = .ok (.iconst 0, 1) := by decide +kernel
theorem d_Mo_wipe_12 : decode prog_13_method_5_code 12 = .ok (.putfield 63, 3) := by decide +kernel
theorem d_Mo_wipe_15 : decode prog_13_method_5_code 15 = .ok (.iload_n 1, 1) := by decide +kernel
theorem d_Mo_wipe_16 : decode prog_13_method_5_code 16 = .ok (.ireturn, 1) := by decide +kernel
theorem d_Mo_begin_0 : decode prog_13_method_6_code 0 = .ok (.aload_n 0, 1) := by decide +kernel
theorem d_Mo_begin_1 : decode prog_13_method_6_code 1 = .ok (.iload_n 1, 1) := by decide +kernel
theorem d_Mo_begin_2 : decode prog_13_method_6_code 2 = .ok (.putfield 66, 3) := by decide +kernel
theorem d_Mo_begin_5 : decode prog_13_method_6_code 5 = .ok (.aload_n 0, 1) := by decide +kernel
theorem d_Mo_begin_6 : decode prog_13_method_6_code 6 = .ok (.iconst 0, 1) := by decide +kernel
theorem d_Mo_begin_7 : decode prog_13_method_6_code 7 = .ok (.putfield 70, 3) := by decide +kernel
theorem d_Mo_begin_10 : decode prog_13_method_6_code 10 = .ok (.iconst 0, 1) := by decide +kernel
theorem d_Mo_begin_11 : decode prog_13_method_6_code 11 = .ok (.istore_n 2, 1) := by decide +kernel
theorem d_Mo_begin_12 : decode prog_13_method_6_code 12 = .ok (.iload_n 2, 1) := by decide +kernel
theorem d_Mo_begin_13 : decode prog_13_method_6_code 13 = .ok (.sipush 3948, 3) := by decide +kernel
theorem d_Mo_begin_16 : decode prog_13_method_6_code 16 = .ok (.if_icmp .ge 18, 3) := by decide +kernel
theorem d_Mo_begin_19 : decode prog_13_method_6_code 19 = .ok (.aload_n 0, 1) := by decide +kernel
theorem d_Mo_begin_20 : decode prog_13_method_6_code 20 = .ok (.getfield 31, 3) := by decide +kernel
theorem d_Mo_begin_23 : decode prog_13_method_6_code 23 = .ok (.iload_n 2, 1) := by decide +kernel
theorem d_Mo_begin_24 : decode prog_13_method_6_code 24 = .ok (.sipush 1024, 3) := by decide +kernel
theorem d_Mo_begin_27 : decode prog_13_method_6_code 27 = .ok (.iastore, 1) := by decide +kernel
theorem d_Mo_begin_28 : decode prog_13_method_6_code 28 = .ok (.iinc 2 1, 3) := by decide +kernel
theorem d_Mo_begin_31 : decode prog_13_method_6_code 31 = .ok (.goto (-19), 3) := by decide +kernel
theorem d_Mo_begin_34 : decode prog_13_method_6_code 34 = .ok (.aload_n 0, 1) := by decide +kernel
theorem d_Mo_begin_35 : decode prog_13_method_6_code 35 = .ok (.ldc2_w 73, 3) := by decide +kernel
theorem d_Mo_begin_38 : decode prog_13_method_6_code 38 = .ok (.putfield 75, 3) := by decide +kernel
theorem d_Mo_begin_41 : decode prog_13_method_6_code 41 = .ok (.aload_n 0, 1) := by decide +kernel
theorem d_Mo_begin_42 : decode prog_13_method_6_code 42 = .ok (.iconst 0, 1) := by decide +kernel
theorem d_Mo_begin_43 : decode prog_13_method_6_code 43 = .ok (.putfield 79, 3) := by decide +kernel
theorem d_Mo_begin_46 : decode prog_13_method_6_code 46 = .ok (.aload_n 0, 1) := by decide +kernel
theorem d_Mo_begin_47 : decode prog_13_method_6_code 47 = .ok (.iconst 0, 1) := by decide +kernel
theorem d_Mo_begin_48 : decode prog_13_method_6_code 48 = .ok (.putfield 82, 3) := by decide +kernel
theorem d_Mo_begin_51 : decode prog_13_method_6_code 51 = .ok (.aload_n 0, 1) := by decide +kernel
theorem d_Mo_begin_52 : decode prog_13_method_6_code 52 = .ok (.iconst 0, 1) := by decide +kernel
theorem d_Mo_begin_53 : decode prog_13_method_6_code 53 = .ok (.putfield 85, 3) := by decide +kernel
theorem d_Mo_begin_56 : decode prog_13_method_6_code 56 = .ok (.iconst 0, 1) := by decide +kernel
theorem d_Mo_begin_57 : decode prog_13_method_6_code 57 = .ok (.istore_n 2, 1) := by decide +kernel
theorem d_Mo_begin_58 : decode prog_13_method_6_code 58 = .ok (.iload_n 2, 1) := by decide +kernel
theorem d_Mo_begin_59 : decode prog_13_method_6_code 59 = .ok (.iconst 4, 1) := by decide +kernel
theorem d_Mo_begin_60 : decode prog_13_method_6_code 60 = .ok (.if_icmp .ge 23, 3) := by decide +kernel
theorem d_Mo_begin_63 : decode prog_13_method_6_code 63 = .ok (.aload_n 0, 1) := by decide +kernel
theorem d_Mo_begin_64 : decode prog_13_method_6_code 64 = .ok (.getfield 40, 3) := by decide +kernel
theorem d_Mo_begin_67 : decode prog_13_method_6_code 67 = .ok (.iload_n 2, 1) := by decide +kernel
theorem d_Mo_begin_68 : decode prog_13_method_6_code 68 = .ok (.iconst 1, 1) := by decide +kernel
theorem d_Mo_begin_69 : decode prog_13_method_6_code 69 = .ok (.iastore, 1) := by decide +kernel
theorem d_Mo_begin_70 : decode prog_13_method_6_code 70 = .ok (.aload_n 0, 1) := by decide +kernel
theorem d_Mo_begin_71 : decode prog_13_method_6_code 71 = .ok (.getfield 34, 3) := by decide +kernel
theorem d_Mo_begin_74 : decode prog_13_method_6_code 74 = .ok (.iload_n 2, 1) := by decide +kernel
theorem d_Mo_begin_75 : decode prog_13_method_6_code 75 = .ok (.iconst 0, 1) := by decide +kernel
theorem d_Mo_begin_76 : decode prog_13_method_6_code 76 = .ok (.iastore, 1) := by decide +kernel
theorem d_Mo_begin_77 : decode prog_13_method_6_code 77 = .ok (.iinc 2 1, 3) := by decide +kernel
theorem d_Mo_begin_80 : decode prog_13_method_6_code 80 = .ok (.goto (-22), 3) := by decide +kernel
theorem d_Mo_begin_83 : decode prog_13_method_6_code 83 = .ok (.aload_n 0, 1) := by decide +kernel
theorem d_Mo_begin_84 : decode prog_13_method_6_code 84 = .ok (.iconst 4, 1) := by decide +kernel
theorem d_Mo_begin_85 : decode prog_13_method_6_code 85 = .ok (.putfield 88, 3) := by decide +kernel
theorem d_Mo_begin_88 : decode prog_13_method_6_code 88 = .ok (.aload_n 0, 1) := by decide +kernel
theorem d_Mo_begin_89 : decode prog_13_method_6_code 89 = .ok (.lconst 0, 1) := by decide +kernel
theorem d_Mo_begin_90 : decode prog_13_method_6_code 90 = .ok (.putfield 91, 3) := by decide +kernel
theorem d_Mo_begin_93 : decode prog_13_method_6_code 93 = .ok (.aload_n 0, 1) := by decide +kernel
theorem d_Mo_begin_94 : decode prog_13_method_6_code 94 = .ok (.iconst 0, 1) := by decide +kernel
theorem d_Mo_begin_95 : decode prog_13_method_6_code 95 = .ok (.putfield 94, 3) := by decide +kernel
theorem d_Mo_begin_98 : decode prog_13_method_6_code 98 = .ok (.return_, 1) := by decide +kernel
theorem d_Mo_grow_0 : decode prog_13_method_7_code 0 = .ok (.lload_n 1, 1) := by decide +kernel
theorem d_Mo_grow_1 : decode prog_13_method_7_code 1 = .ok (.lstore_n 3, 1) := by decide +kernel
theorem d_Mo_grow_2 : decode prog_13_method_7_code 2 = .ok (.aload_n 0, 1) := by decide +kernel
theorem d_Mo_grow_3 : decode prog_13_method_7_code 3 = .ok (.getfield 88, 3) := by decide +kernel
theorem d_Mo_grow_6 : decode prog_13_method_7_code 6 = .ok (.iconst 1, 1) := by decide +kernel
theorem d_Mo_grow_7 : decode prog_13_method_7_code 7 = .ok (.isub, 1) := by decide +kernel
theorem d_Mo_grow_8 : decode prog_13_method_7_code 8 = .ok (.istore 5, 2) := by decide +kernel
theorem d_Mo_grow_10 : decode prog_13_method_7_code 10 = .ok (.iload 5, 2) := by decide +kernel
theorem d_Mo_grow_12 : decode prog_13_method_7_code 12 = .ok (.ifCond .lt 45, 3) := by decide +kernel
theorem d_Mo_grow_15 : decode prog_13_method_7_code 15 = .ok (.lload_n 3, 1) := by decide +kernel
theorem d_Mo_grow_16 : decode prog_13_method_7_code 16 = .ok (.lconst 0, 1) := by decide +kernel
theorem d_Mo_grow_17 : decode prog_13_method_7_code 17 = .ok (.lcmp, 1) := by decide +kernel
theorem d_Mo_grow_18 : decode prog_13_method_7_code 18 = .ok (.ifCond .le 39, 3) := by decide +kernel
theorem d_Mo_grow_21 : decode prog_13_method_7_code 21 = .ok (.lload_n 3, 1) := by decide +kernel
theorem d_Mo_grow_22 : decode prog_13_method_7_code 22 = .ok (.aload_n 0, 1) := by decide +kernel
theorem d_Mo_grow_23 : decode prog_13_method_7_code 23 = .ok (.getfield 34, 3) := by decide +kernel
theorem d_Mo_grow_26 : decode prog_13_method_7_code 26 = .ok (.iload 5, 2) := by decide +kernel
theorem d_Mo_grow_28 : decode prog_13_method_7_code 28 = .ok (.iaload, 1) := by decide +kernel
theorem d_Mo_grow_29 : decode prog_13_method_7_code 29 = .ok (.i2l, 1) := by decide +kernel
theorem d_Mo_grow_30 : decode prog_13_method_7_code 30 = .ok (.ladd, 1) := by decide +kernel
theorem d_Mo_grow_31 : decode prog_13_method_7_code 31 = .ok (.lstore_n 3, 1) := by decide +kernel
theorem d_Mo_grow_32 : decode prog_13_method_7_code 32 = .ok (.aload_n 0, 1) := by decide +kernel
theorem d_Mo_grow_33 : decode prog_13_method_7_code 33 = .ok (.getfield 34, 3) := by decide +kernel
theorem d_Mo_grow_36 : decode prog_13_method_7_code 36 = .ok (.iload 5, 2) := by decide +kernel
theorem d_Mo_grow_38 : decode prog_13_method_7_code 38 = .ok (.lload_n 3, 1) := by decide +kernel
theorem d_Mo_grow_39 : decode prog_13_method_7_code 39 = .ok (.ldc2_w 97, 3) := by decide +kernel
theorem d_Mo_grow_42 : decode prog_13_method_7_code 42 = .ok (.lrem, 1) := by decide +kernel
theorem d_Mo_grow_43 : decode prog_13_method_7_code 43 = .ok (.l2i, 1) := by decide +kernel
theorem d_Mo_grow_44 : decode prog_13_method_7_code 44 = .ok (.iastore, 1) := by decide +kernel
theorem d_Mo_grow_45 : decode prog_13_method_7_code 45 = .ok (.lload_n 3, 1) := by decide +kernel
theorem d_Mo_grow_46 : decode prog_13_method_7_code 46 = .ok (.ldc2_w 97, 3) := by decide +kernel
theorem d_Mo_grow_49 : decode prog_13_method_7_code 49 = .ok (.ldiv, 1) := by decide +kernel
theorem d_Mo_grow_50 : decode prog_13_method_7_code 50 = .ok (.lstore_n 3, 1) := by decide +kernel
theorem d_Mo_grow_51 : decode prog_13_method_7_code 51 = .ok (.iinc 5 (-1), 3) := by decide +kernel
theorem d_Mo_grow_54 : decode prog_13_method_7_code 54 = .ok (.goto (-44), 3) := by decide +kernel
theorem d_Mo_grow_57 : decode prog_13_method_7_code 57 = .ok (.return_, 1) := by decide +kernel
theorem d_Mo_read_0 : decode prog_13_method_8_code 0 = .ok (.aload_n 0, 1) := by decide +kernel
theorem d_Mo_read_1 : decode prog_13_method_8_code 1 = .ok (.getfield 94, 3) := by decide +kernel
theorem d_Mo_read_4 : decode prog_13_method_8_code 4 = .ok (.aload_n 0, 1) := by decide +kernel
theorem d_Mo_read_5 : decode prog_13_method_8_code 5 = .ok (.getfield 99, 3) := by decide +kernel
theorem d_Mo_read_8 : decode prog_13_method_8_code 8 = .ok (.if_icmp .ne 9, 3) := by decide +kernel
theorem d_Mo_read_11 : decode prog_13_method_8_code 11 = .ok (.aload_n 0, 1) := by decide +kernel
theorem d_Mo_read_12 : decode prog_13_method_8_code 12 = .ok (.iconst 1, 1) := by decide +kernel
theorem d_Mo_read_13 : decode prog_13_method_8_code 13 = .ok (.putfield 70, 3) := by decide +kernel
theorem d_Mo_read_16 : decode prog_13_method_8_code 16 = .ok (.return_, 1) := by decide +kernel
theorem d_Mo_read_17 : decode prog_13_method_8_code 17 = .ok (.aload_n 0, 1) := by decide +kernel
theorem d_Mo_read_18 : decode prog_13_method_8_code 18 = .ok (.ldc2_w 97, 3) := by decide +kernel
theorem d_Mo_read_21 : decode prog_13_method_8_code 21 = .ok (.aload_n 0, 1) := by decide +kernel
theorem d_Mo_read_22 : decode prog_13_method_8_code 22 = .ok (.getfield 91, 3) := by decide +kernel
theorem d_Mo_read_25 : decode prog_13_method_8_code 25 = .ok (.lmul, 1) := by decide +kernel
theorem d_Mo_read_26 : decode prog_13_method_8_code 26 = .ok (.aload_n 0, 1) := by decide +kernel
theorem d_Mo_read_27 : decode prog_13_method_8_code 27 = .ok (.getfield 13, 3) := by decide +kernel
theorem d_Mo_read_30 : decode prog_13_method_8_code 30 = .ok (.aload_n 0, 1) := by decide +kernel
theorem d_Mo_read_31 : decode prog_13_method_8_code 31 = .ok (.getfield 94, 3) := by decide +kernel
theorem d_Mo_read_34 : decode prog_13_method_8_code 34 = .ok (.iaload, 1) := by decide +kernel
theorem d_Mo_read_35 : decode prog_13_method_8_code 35 = .ok (.i2l, 1) := by decide +kernel
theorem d_Mo_read_36 : decode prog_13_method_8_code 36 = .ok (.ladd, 1) := by decide +kernel
theorem d_Mo_read_37 : decode prog_13_method_8_code 37 = .ok (.putfield 91, 3) := by decide +kernel
theorem d_Mo_read_40 : decode prog_13_method_8_code 40 = .ok (.aload_n 0, 1) := by decide +kernel
theorem d_Mo_read_41 : decode prog_13_method_8_code 41 = .ok (.dup, 1) := by decide +kernel
theorem d_Mo_read_42 : decode prog_13_method_8_code 42 = .ok (.getfield 94, 3) := by decide +kernel
theorem d_Mo_read_45 : decode prog_13_method_8_code 45 = .ok (.iconst 1, 1) := by decide +kernel
theorem d_Mo_read_46 : decode prog_13_method_8_code 46 = .ok (.iadd, 1) := by decide +kernel
theorem d_Mo_read_47 : decode prog_13_method_8_code 47 = .ok (.putfield 94, 3) := by decide +kernel
theorem d_Mo_read_50 : decode prog_13_method_8_code 50 = .ok (.return_, 1) := by decide +kernel
theorem d_Mo_widen_0 : decode prog_13_method_9_code 0 = .ok (.aload_n 0, 1) := by decide +kernel
theorem d_Mo_widen_1 : decode prog_13_method_9_code 1 = .ok (.getfield 75, 3) := by decide +kernel
theorem d_Mo_widen_4 : decode prog_13_method_9_code 4 = .ok (.ldc2_w 102, 3) := by decide +kernel
theorem d_Mo_widen_7 : decode prog_13_method_9_code 7 = .ok (.lcmp, 1) := by decide +kernel
theorem d_Mo_widen_8 : decode prog_13_method_9_code 8 = .ok (.ifCond .lt 4, 3) := by decide +kernel
theorem d_Mo_widen_11 : decode prog_13_method_9_code 11 = .ok (.return_, 1) := by decide +kernel
theorem d_Mo_widen_12 : decode prog_13_method_9_code 12 = .ok (.aload_n 0, 1) := by decide +kernel
theorem d_Mo_widen_13 : decode prog_13_method_9_code 13 = .ok (.ldc2_w 97, 3) := by decide +kernel
theorem d_Mo_widen_16 : decode prog_13_method_9_code 16 = .ok (.aload_n 0, 1) := by decide +kernel
theorem d_Mo_widen_17 : decode prog_13_method_9_code 17 = .ok (.getfield 75, 3) := by decide +kernel
theorem d_Mo_widen_20 : decode prog_13_method_9_code 20 = .ok (.lmul, 1) := by decide +kernel
theorem d_Mo_widen_21 : decode prog_13_method_9_code 21 = .ok (.putfield 75, 3) := by decide +kernel
theorem d_Mo_widen_24 : decode prog_13_method_9_code 24 = .ok (.aload_n 0, 1) := by decide +kernel
theorem d_Mo_widen_25 : decode prog_13_method_9_code 25 = .ok (.getfield 66, 3) := by decide +kernel
theorem d_Mo_widen_28 : decode prog_13_method_9_code 28 = .ok (.ifCond .eq 26, 3) := by decide +kernel
theorem d_Mo_widen_31 : decode prog_13_method_9_code 31 = .ok (.aload_n 0, 1) := by decide +kernel
theorem d_Mo_widen_32 : decode prog_13_method_9_code 32 = .ok (.getfield 34, 3) := by decide +kernel
theorem d_Mo_widen_35 : decode prog_13_method_9_code 35 = .ok (.aload_n 0, 1) := by decide +kernel
theorem d_Mo_widen_36 : decode prog_13_method_9_code 36 = .ok (.getfield 88, 3) := by decide +kernel
theorem d_Mo_widen_39 : decode prog_13_method_9_code 39 = .ok (.iconst 0, 1) := by decide +kernel
theorem d_Mo_widen_40 : decode prog_13_method_9_code 40 = .ok (.iastore, 1) := by decide +kernel
theorem d_Mo_widen_41 : decode prog_13_method_9_code 41 = .ok (.aload_n 0, 1) := by decide +kernel
theorem d_Mo_widen_42 : decode prog_13_method_9_code 42 = .ok (.dup, 1) := by decide +kernel
theorem d_Mo_widen_43 : decode prog_13_method_9_code 43 = .ok (.getfield 88, 3) := by decide +kernel
theorem d_Mo_widen_46 : decode prog_13_method_9_code 46 = .ok (.iconst 1, 1) := by decide +kernel
theorem d_Mo_widen_47 : decode prog_13_method_9_code 47 = .ok (.iadd, 1) := by decide +kernel
theorem d_Mo_widen_48 : decode prog_13_method_9_code 48 = .ok (.putfield 88, 3) := by decide +kernel
theorem d_Mo_widen_51 : decode prog_13_method_9_code 51 = .ok (.goto 7, 3) := by decide +kernel
theorem d_Mo_widen_54 : decode prog_13_method_9_code 54 = .ok (.aload_n 0, 1) := by decide +kernel
theorem d_Mo_widen_55 : decode prog_13_method_9_code 55 = .ok (.invokevirtual 104, 3) := by decide +kernel
theorem d_Mo_widen_58 : decode prog_13_method_9_code 58 = .ok (.return_, 1) := by decide +kernel
theorem d_Mo_bit_0 : decode prog_13_method_10_code 0 = .ok (.aload_n 0, 1) := by decide +kernel
theorem d_Mo_bit_1 : decode prog_13_method_10_code 1 = .ok (.getfield 70, 3) := by decide +kernel
theorem d_Mo_bit_4 : decode prog_13_method_10_code 4 = .ok (.ifCond .le 5, 3) := by decide +kernel
theorem d_Mo_bit_7 : decode prog_13_method_10_code 7 = .ok (.iconst 0, 1) := by decide +kernel
theorem d_Mo_bit_8 : decode prog_13_method_10_code 8 = .ok (.ireturn, 1) := by decide +kernel
theorem d_Mo_bit_9 : decode prog_13_method_10_code 9 = .ok (.aload_n 0, 1) := by decide +kernel
theorem d_Mo_bit_10 : decode prog_13_method_10_code 10 = .ok (.getfield 31, 3) := by decide +kernel
theorem d_Mo_bit_13 : decode prog_13_method_10_code 13 = .ok (.iload_n 1, 1) := by decide +kernel
theorem d_Mo_bit_14 : decode prog_13_method_10_code 14 = .ok (.iaload, 1) := by decide +kernel
theorem d_Mo_bit_15 : decode prog_13_method_10_code 15 = .ok (.istore_n 3, 1) := by decide +kernel
theorem d_Mo_bit_16 : decode prog_13_method_10_code 16 = .ok (.aload_n 0, 1) := by decide +kernel
theorem d_Mo_bit_17 : decode prog_13_method_10_code 17 = .ok (.getfield 75, 3) := by decide +kernel
theorem d_Mo_bit_20 : decode prog_13_method_10_code 20 = .ok (.ldc2_w 107, 3) := by decide +kernel
theorem d_Mo_bit_23 : decode prog_13_method_10_code 23 = .ok (.ldiv, 1) := by decide +kernel
theorem d_Mo_bit_24 : decode prog_13_method_10_code 24 = .ok (.iload_n 3, 1) := by decide +kernel
theorem d_Mo_bit_25 : decode prog_13_method_10_code 25 = .ok (.i2l, 1) := by decide +kernel
theorem d_Mo_bit_26 : decode prog_13_method_10_code 26 = .ok (.lmul, 1) := by decide +kernel
theorem d_Mo_bit_27 : decode prog_13_method_10_code 27 = .ok (.lstore 4, 2) := by decide +kernel
theorem d_Mo_bit_29 : decode prog_13_method_10_code 29 = .ok (.aload_n 0, 1) := by decide +kernel
theorem d_Mo_bit_30 : decode prog_13_method_10_code 30 = .ok (.getfield 66, 3) := by decide +kernel
theorem d_Mo_bit_33 : decode prog_13_method_10_code 33 = .ok (.ifCond .eq 7, 3) := by decide +kernel
theorem d_Mo_bit_36 : decode prog_13_method_10_code 36 = .ok (.iload_n 2, 1) := by decide +kernel
theorem d_Mo_bit_37 : decode prog_13_method_10_code 37 = .ok (.goto 18, 3) := by decide +kernel
theorem d_Mo_bit_40 : decode prog_13_method_10_code 40 = .ok (.aload_n 0, 1) := by decide +kernel
theorem d_Mo_bit_41 : decode prog_13_method_10_code 41 = .ok (.getfield 91, 3) := by decide +kernel
theorem d_Mo_bit_44 : decode prog_13_method_10_code 44 = .ok (.lload 4, 2) := by decide +kernel
theorem d_Mo_bit_46 : decode prog_13_method_10_code 46 = .ok (.lcmp, 1) := by decide +kernel
theorem d_Mo_bit_47 : decode prog_13_method_10_code 47 = .ok (.ifCond .ge 7, 3) := by decide +kernel
theorem d_Mo_bit_50 : decode prog_13_method_10_code 50 = .ok (.iconst 0, 1) := by decide +kernel
theorem d_Mo_bit_51 : decode prog_13_method_10_code 51 = .ok (.goto 4, 3) := by decide +kernel
theorem d_Mo_bit_54 : decode prog_13_method_10_code 54 = .ok (.iconst 1, 1) := by decide +kernel
theorem d_Mo_bit_55 : decode prog_13_method_10_code 55 = .ok (.istore 6, 2) := by decide +kernel
theorem d_Mo_bit_57 : decode prog_13_method_10_code 57 = .ok (.iload 6, 2) := by decide +kernel
theorem d_Mo_bit_59 : decode prog_13_method_10_code 59 = .ok (.ifCond .ne 28, 3) := by decide +kernel
theorem d_Mo_bit_62 : decode prog_13_method_10_code 62 = .ok (.aload_n 0, 1) := by decide +kernel
theorem d_Mo_bit_63 : decode prog_13_method_10_code 63 = .ok (.lload 4, 2) := by decide +kernel
theorem d_Mo_bit_65 : decode prog_13_method_10_code 65 = .ok (.putfield 75, 3) := by decide +kernel
theorem d_Mo_bit_68 : decode prog_13_method_10_code 68 = .ok (.aload_n 0, 1) := by decide +kernel
end
section
theorem d_Mo_bit_69 : decode prog_13_method_10_code 69 = .ok (.getfield 31, 3) := by decide +kernel
theorem d_Mo_bit_72 : decode prog_13_method_10_code 72 = .ok (.iload_n 1, 1) := by decide +kernel
theorem d_Mo_bit_73 : decode prog_13_method_10_code 73 = .ok (.iload_n 3, 1) := by decide +kernel
theorem d_Mo_bit_74 : decode prog_13_method_10_code 74 = .ok (.sipush 2048, 3) := by decide +kernel
theorem d_Mo_bit_77 : decode prog_13_method_10_code 77 = .ok (.iload_n 3, 1) := by decide +kernel
theorem d_Mo_bit_78 : decode prog_13_method_10_code 78 = .ok (.isub, 1) := by decide +kernel
theorem d_Mo_bit_79 : decode prog_13_method_10_code 79 = .ok (.bipush 32, 2) := by decide +kernel
theorem d_Mo_bit_81 : decode prog_13_method_10_code 81 = .ok (.idiv, 1) := by decide +kernel
theorem d_Mo_bit_82 : decode prog_13_method_10_code 82 = .ok (.iadd, 1) := by decide +kernel
theorem d_Mo_bit_83 : decode prog_13_method_10_code 83 = .ok (.iastore, 1) := by decide +kernel
theorem d_Mo_bit_84 : decode prog_13_method_10_code 84 = .ok (.goto 53, 3) := by decide +kernel
theorem d_Mo_bit_87 : decode prog_13_method_10_code 87 = .ok (.aload_n 0, 1) := by decide +kernel
theorem d_Mo_bit_88 : decode prog_13_method_10_code 88 = .ok (.getfield 66, 3) := by decide +kernel
theorem d_Mo_bit_91 : decode prog_13_method_10_code 91 = .ok (.ifCond .eq 12, 3) := by decide +kernel
theorem d_Mo_bit_94 : decode prog_13_method_10_code 94 = .ok (.aload_n 0, 1) := by decide +kernel
theorem d_Mo_bit_95 : decode prog_13_method_10_code 95 = .ok (.lload 4, 2) := by decide +kernel
theorem d_Mo_bit_97 : decode prog_13_method_10_code 97 = .ok (.invokevirtual 109, 3) := by decide +kernel
theorem d_Mo_bit_100 : decode prog_13_method_10_code 100 = .ok (.goto 14, 3) := by decide +kernel
theorem d_Mo_bit_103 : decode prog_13_method_10_code 103 = .ok (.aload_n 0, 1) := by decide +kernel
theorem d_Mo_bit_104 : decode prog_13_method_10_code 104 = .ok (.aload_n 0, 1) := by decide +kernel
theorem d_Mo_bit_105 : decode prog_13_method_10_code 105 = .ok (.getfield 91, 3) := by decide +kernel
theorem d_Mo_bit_108 : decode prog_13_method_10_code 108 = .ok (.lload 4, 2) := by decide +kernel
theorem d_Mo_bit_110 : decode prog_13_method_10_code 110 = .ok (.lsub, 1) := by decide +kernel
theorem d_Mo_bit_111 : decode prog_13_method_10_code 111 = .ok (.putfield 91, 3) := by decide +kernel
theorem d_Mo_bit_114 : decode prog_13_method_10_code 114 = .ok (.aload_n 0, 1) := by decide +kernel
theorem d_Mo_bit_115 : decode prog_13_method_10_code 115 = .ok (.aload_n 0, 1) := by decide +kernel
theorem d_Mo_bit_116 : decode prog_13_method_10_code 116 = .ok (.getfield 75, 3) := by decide +kernel
theorem d_Mo_bit_119 : decode prog_13_method_10_code 119 = .ok (.lload 4, 2) := by decide +kernel
theorem d_Mo_bit_121 : decode prog_13_method_10_code 121 = .ok (.lsub, 1) := by decide +kernel
theorem d_Mo_bit_122 : decode prog_13_method_10_code 122 = .ok (.putfield 75, 3) := by decide +kernel
theorem d_Mo_bit_125 : decode prog_13_method_10_code 125 = .ok (.aload_n 0, 1) := by decide +kernel
theorem d_Mo_bit_126 : decode prog_13_method_10_code 126 = .ok (.getfield 31, 3) := by decide +kernel
theorem d_Mo_bit_129 : decode prog_13_method_10_code 129 = .ok (.iload_n 1, 1) := by decide +kernel
theorem d_Mo_bit_130 : decode prog_13_method_10_code 130 = .ok (.iload_n 3, 1) := by decide +kernel
theorem d_Mo_bit_131 : decode prog_13_method_10_code 131 = .ok (.iload_n 3, 1) := by decide +kernel
theorem d_Mo_bit_132 : decode prog_13_method_10_code 132 = .ok (.bipush 32, 2) := by decide +kernel
theorem d_Mo_bit_134 : decode prog_13_method_10_code 134 = .ok (.idiv, 1) := by decide +kernel
theorem d_Mo_bit_135 : decode prog_13_method_10_code 135 = .ok (.isub, 1) := by decide +kernel
theorem d_Mo_bit_136 : decode prog_13_method_10_code 136 = .ok (.iastore, 1) := by decide +kernel
theorem d_Mo_bit_137 : decode prog_13_method_10_code 137 = .ok (.aload_n 0, 1) := by decide +kernel
theorem d_Mo_bit_138 : decode prog_13_method_10_code 138 = .ok (.invokevirtual 113, 3) := by decide +kernel
theorem d_Mo_bit_141 : decode prog_13_method_10_code 141 = .ok (.iload 6, 2) := by decide +kernel
theorem d_Mo_bit_143 : decode prog_13_method_10_code 143 = .ok (.ireturn, 1) := by decide +kernel
theorem d_Mo_tree_0 : decode prog_13_method_11_code 0 = .ok (.iconst 1, 1) := by decide +kernel
theorem d_Mo_tree_1 : decode prog_13_method_11_code 1 = .ok (.istore 4, 2) := by decide +kernel
theorem d_Mo_tree_3 : decode prog_13_method_11_code 3 = .ok (.iload_n 2, 1) := by decide +kernel
theorem d_Mo_tree_4 : decode prog_13_method_11_code 4 = .ok (.iconst 1, 1) := by decide +kernel
theorem d_Mo_tree_5 : decode prog_13_method_11_code 5 = .ok (.isub, 1) := by decide +kernel
theorem d_Mo_tree_6 : decode prog_13_method_11_code 6 = .ok (.istore 5, 2) := by decide +kernel
theorem d_Mo_tree_8 : decode prog_13_method_11_code 8 = .ok (.iload 5, 2) := by decide +kernel
theorem d_Mo_tree_10 : decode prog_13_method_11_code 10 = .ok (.ifCond .lt 30, 3) := by decide +kernel
theorem d_Mo_tree_13 : decode prog_13_method_11_code 13 = .ok (.iconst 2, 1) := by decide +kernel
theorem d_Mo_tree_14 : decode prog_13_method_11_code 14 = .ok (.iload 4, 2) := by decide +kernel
theorem d_Mo_tree_16 : decode prog_13_method_11_code 16 = .ok (.imul, 1) := by decide +kernel
theorem d_Mo_tree_17 : decode prog_13_method_11_code 17 = .ok (.aload_n 0, 1) := by decide +kernel
theorem d_Mo_tree_18 : decode prog_13_method_11_code 18 = .ok (.iload_n 1, 1) := by decide +kernel
theorem d_Mo_tree_19 : decode prog_13_method_11_code 19 = .ok (.iload 4, 2) := by decide +kernel
theorem d_Mo_tree_21 : decode prog_13_method_11_code 21 = .ok (.iadd, 1) := by decide +kernel
theorem d_Mo_tree_22 : decode prog_13_method_11_code 22 = .ok (.iload_n 3, 1) := by decide +kernel
theorem d_Mo_tree_23 : decode prog_13_method_11_code 23 = .ok (.iload 5, 2) := by decide +kernel
theorem d_Mo_tree_25 : decode prog_13_method_11_code 25 = .ok (.ishr, 1) := by decide +kernel
theorem d_Mo_tree_26 : decode prog_13_method_11_code 26 = .ok (.iconst 1, 1) := by decide +kernel
theorem d_Mo_tree_27 : decode prog_13_method_11_code 27 = .ok (.iand, 1) := by decide +kernel
theorem d_Mo_tree_28 : decode prog_13_method_11_code 28 = .ok (.invokevirtual 116, 3) := by decide +kernel
theorem d_Mo_tree_31 : decode prog_13_method_11_code 31 = .ok (.iadd, 1) := by decide +kernel
theorem d_Mo_tree_32 : decode prog_13_method_11_code 32 = .ok (.istore 4, 2) := by decide +kernel
theorem d_Mo_tree_34 : decode prog_13_method_11_code 34 = .ok (.iinc 5 (-1), 3) := by decide +kernel
theorem d_Mo_tree_37 : decode prog_13_method_11_code 37 = .ok (.goto (-29), 3) := by decide +kernel
theorem d_Mo_tree_40 : decode prog_13_method_11_code 40 = .ok (.iload 4, 2) := by decide +kernel
theorem d_Mo_tree_42 : decode prog_13_method_11_code 42 = .ok (.iconst 1, 1) := by decide +kernel
theorem d_Mo_tree_43 : decode prog_13_method_11_code 43 = .ok (.iload_n 2, 1) := by decide +kernel
theorem d_Mo_tree_44 : decode prog_13_method_11_code 44 = .ok (.ishl, 1) := by decide +kernel
theorem d_Mo_tree_45 : decode prog_13_method_11_code 45 = .ok (.isub, 1) := by decide +kernel
theorem d_Mo_tree_46 : decode prog_13_method_11_code 46 = .ok (.ireturn, 1) := by decide +kernel
theorem d_Mo_row_0 : decode prog_13_method_12_code 0 = .ok (.iconst 1, 1) := by decide +kernel
theorem d_Mo_row_1 : decode prog_13_method_12_code 1 = .ok (.istore 4, 2) := by decide +kernel
theorem d_Mo_row_3 : decode prog_13_method_12_code 3 = .ok (.iconst 0, 1) := by decide +kernel
theorem d_Mo_row_4 : decode prog_13_method_12_code 4 = .ok (.istore 5, 2) := by decide +kernel
theorem d_Mo_row_6 : decode prog_13_method_12_code 6 = .ok (.iconst 0, 1) := by decide +kernel
theorem d_Mo_row_7 : decode prog_13_method_12_code 7 = .ok (.istore 6, 2) := by decide +kernel
theorem d_Mo_row_9 : decode prog_13_method_12_code 9 = .ok (.iload 6, 2) := by decide +kernel
theorem d_Mo_row_11 : decode prog_13_method_12_code 11 = .ok (.iload_n 2, 1) := by decide +kernel
theorem d_Mo_row_12 : decode prog_13_method_12_code 12 = .ok (.if_icmp .ge 44, 3) := by decide +kernel
theorem d_Mo_row_15 : decode prog_13_method_12_code 15 = .ok (.aload_n 0, 1) := by decide +kernel
theorem d_Mo_row_16 : decode prog_13_method_12_code 16 = .ok (.iload_n 1, 1) := by decide +kernel
theorem d_Mo_row_17 : decode prog_13_method_12_code 17 = .ok (.iload 4, 2) := by decide +kernel
theorem d_Mo_row_19 : decode prog_13_method_12_code 19 = .ok (.iadd, 1) := by decide +kernel
theorem d_Mo_row_20 : decode prog_13_method_12_code 20 = .ok (.iload_n 3, 1) := by decide +kernel
theorem d_Mo_row_21 : decode prog_13_method_12_code 21 = .ok (.iload 6, 2) := by decide +kernel
theorem d_Mo_row_23 : decode prog_13_method_12_code 23 = .ok (.ishr, 1) := by decide +kernel
theorem d_Mo_row_24 : decode prog_13_method_12_code 24 = .ok (.iconst 1, 1) := by decide +kernel
theorem d_Mo_row_25 : decode prog_13_method_12_code 25 = .ok (.iand, 1) := by decide +kernel
theorem d_Mo_row_26 : decode prog_13_method_12_code 26 = .ok (.invokevirtual 116, 3) := by decide +kernel
theorem d_Mo_row_29 : decode prog_13_method_12_code 29 = .ok (.istore 7, 2) := by decide +kernel
theorem d_Mo_row_31 : decode prog_13_method_12_code 31 = .ok (.iconst 2, 1) := by decide +kernel
theorem d_Mo_row_32 : decode prog_13_method_12_code 32 = .ok (.iload 4, 2) := by decide +kernel
theorem d_Mo_row_34 : decode prog_13_method_12_code 34 = .ok (.imul, 1) := by decide +kernel
theorem d_Mo_row_35 : decode prog_13_method_12_code 35 = .ok (.iload 7, 2) := by decide +kernel
theorem d_Mo_row_37 : decode prog_13_method_12_code 37 = .ok (.iadd, 1) := by decide +kernel
theorem d_Mo_row_38 : decode prog_13_method_12_code 38 = .ok (.istore 4, 2) := by decide +kernel
theorem d_Mo_row_40 : decode prog_13_method_12_code 40 = .ok (.iload 5, 2) := by decide +kernel
theorem d_Mo_row_42 : decode prog_13_method_12_code 42 = .ok (.iload 7, 2) := by decide +kernel
theorem d_Mo_row_44 : decode prog_13_method_12_code 44 = .ok (.iload 6, 2) := by decide +kernel
theorem d_Mo_row_46 : decode prog_13_method_12_code 46 = .ok (.ishl, 1) := by decide +kernel
theorem d_Mo_row_47 : decode prog_13_method_12_code 47 = .ok (.iadd, 1) := by decide +kernel
theorem d_Mo_row_48 : decode prog_13_method_12_code 48 = .ok (.istore 5, 2) := by decide +kernel
theorem d_Mo_row_50 : decode prog_13_method_12_code 50 = .ok (.iinc 6 1, 3) := by decide +kernel
theorem d_Mo_row_53 : decode prog_13_method_12_code 53 = .ok (.goto (-44), 3) := by decide +kernel
theorem d_Mo_row_56 : decode prog_13_method_12_code 56 = .ok (.iload 5, 2) := by decide +kernel
theorem d_Mo_row_58 : decode prog_13_method_12_code 58 = .ok (.ireturn, 1) := by decide +kernel
theorem d_Mo_literal_0 : decode prog_13_method_13_code 0 = .ok (.aload_n 0, 1) := by decide +kernel
theorem d_Mo_literal_1 : decode prog_13_method_13_code 1 = .ok (.getfield 79, 3) := by decide +kernel
theorem d_Mo_literal_4 : decode prog_13_method_13_code 4 = .ok (.ifCond .ne 7, 3) := by decide +kernel
theorem d_Mo_literal_7 : decode prog_13_method_13_code 7 = .ok (.iconst 0, 1) := by decide +kernel
theorem d_Mo_literal_8 : decode prog_13_method_13_code 8 = .ok (.goto 17, 3) := by decide +kernel
theorem d_Mo_literal_11 : decode prog_13_method_13_code 11 = .ok (.aload_n 0, 1) := by decide +kernel
theorem d_Mo_literal_12 : decode prog_13_method_13_code 12 = .ok (.getfield 37, 3) := by decide +kernel
theorem d_Mo_literal_15 : decode prog_13_method_13_code 15 = .ok (.aload_n 0, 1) := by decide +kernel
theorem d_Mo_literal_16 : decode prog_13_method_13_code 16 = .ok (.getfield 79, 3) := by decide +kernel
theorem d_Mo_literal_19 : decode prog_13_method_13_code 19 = .ok (.iconst 1, 1) := by decide +kernel
theorem d_Mo_literal_20 : decode prog_13_method_13_code 20 = .ok (.isub, 1) := by decide +kernel
theorem d_Mo_literal_21 : decode prog_13_method_13_code 21 = .ok (.iaload, 1) := by decide +kernel
theorem d_Mo_literal_22 : decode prog_13_method_13_code 22 = .ok (.bipush 6, 2) := by decide +kernel
theorem d_Mo_literal_24 : decode prog_13_method_13_code 24 = .ok (.ishr, 1) := by decide +kernel
theorem d_Mo_literal_25 : decode prog_13_method_13_code 25 = .ok (.istore_n 2, 1) := by decide +kernel
theorem d_Mo_literal_26 : decode prog_13_method_13_code 26 = .ok (.bipush 72, 2) := by decide +kernel
theorem d_Mo_literal_28 : decode prog_13_method_13_code 28 = .ok (.sipush 768, 3) := by decide +kernel
theorem d_Mo_literal_31 : decode prog_13_method_13_code 31 = .ok (.iload_n 2, 1) := by decide +kernel
theorem d_Mo_literal_32 : decode prog_13_method_13_code 32 = .ok (.imul, 1) := by decide +kernel
theorem d_Mo_literal_33 : decode prog_13_method_13_code 33 = .ok (.iadd, 1) := by decide +kernel
theorem d_Mo_literal_34 : decode prog_13_method_13_code 34 = .ok (.istore_n 3, 1) := by decide +kernel
theorem d_Mo_literal_35 : decode prog_13_method_13_code 35 = .ok (.aload_n 0, 1) := by decide +kernel
theorem d_Mo_literal_36 : decode prog_13_method_13_code 36 = .ok (.getfield 82, 3) := by decide +kernel
theorem d_Mo_literal_39 : decode prog_13_method_13_code 39 = .ok (.bipush 7, 2) := by decide +kernel
theorem d_Mo_literal_41 : decode prog_13_method_13_code 41 = .ok (.if_icmp .ge 12, 3) := by decide +kernel
theorem d_Mo_literal_44 : decode prog_13_method_13_code 44 = .ok (.aload_n 0, 1) := by decide +kernel
theorem d_Mo_literal_45 : decode prog_13_method_13_code 45 = .ok (.iload_n 3, 1) := by decide +kernel
theorem d_Mo_literal_46 : decode prog_13_method_13_code 46 = .ok (.bipush 8, 2) := by decide +kernel
theorem d_Mo_literal_48 : decode prog_13_method_13_code 48 = .ok (.iload_n 1, 1) := by decide +kernel
theorem d_Mo_literal_49 : decode prog_13_method_13_code 49 = .ok (.invokevirtual 120, 3) := by decide +kernel
theorem d_Mo_literal_52 : decode prog_13_method_13_code 52 = .ok (.ireturn, 1) := by decide +kernel
theorem d_Mo_literal_53 : decode prog_13_method_13_code 53 = .ok (.aload_n 0, 1) := by decide +kernel
theorem d_Mo_literal_54 : decode prog_13_method_13_code 54 = .ok (.getfield 37, 3) := by decide +kernel
theorem d_Mo_literal_57 : decode prog_13_method_13_code 57 = .ok (.aload_n 0, 1) := by decide +kernel
theorem d_Mo_literal_58 : decode prog_13_method_13_code 58 = .ok (.getfield 79, 3) := by decide +kernel
theorem d_Mo_literal_61 : decode prog_13_method_13_code 61 = .ok (.aload_n 0, 1) := by decide +kernel
theorem d_Mo_literal_62 : decode prog_13_method_13_code 62 = .ok (.getfield 40, 3) := by decide +kernel
theorem d_Mo_literal_65 : decode prog_13_method_13_code 65 = .ok (.iconst 0, 1) := by decide +kernel
theorem d_Mo_literal_66 : decode prog_13_method_13_code 66 = .ok (.iaload, 1) := by decide +kernel
theorem d_Mo_literal_67 : decode prog_13_method_13_code 67 = .ok (.isub, 1) := by decide +kernel
theorem d_Mo_literal_68 : decode prog_13_method_13_code 68 = .ok (.iaload, 1) := by decide +kernel
theorem d_Mo_literal_69 : decode prog_13_method_13_code 69 = .ok (.istore 4, 2) := by decide +kernel
theorem d_Mo_literal_71 : decode prog_13_method_13_code 71 = .ok (.iconst 1, 1) := by decide +kernel
theorem d_Mo_literal_72 : decode prog_13_method_13_code 72 = .ok (.istore 5, 2) := by decide +kernel
theorem d_Mo_literal_74 : decode prog_13_method_13_code 74 = .ok (.iconst 1, 1) := by decide +kernel
theorem d_Mo_literal_75 : decode prog_13_method_13_code 75 = .ok (.istore 6, 2) := by decide +kernel
theorem d_Mo_literal_77 : decode prog_13_method_13_code 77 = .ok (.bipush 7, 2) := by decide +kernel
theorem d_Mo_literal_79 : decode prog_13_method_13_code 79 = .ok (.istore 7, 2) := by decide +kernel
theorem d_Mo_literal_81 : decode prog_13_method_13_code 81 = .ok (.iload 7, 2) := by decide +kernel
theorem d_Mo_literal_83 : decode prog_13_method_13_code 83 = .ok (.ifCond .lt 83, 3) := by decide +kernel
theorem d_Mo_literal_86 : decode prog_13_method_13_code 86 = .ok (.iload 4, 2) := by decide +kernel
theorem d_Mo_literal_88 : decode prog_13_method_13_code 88 = .ok (.iload 7, 2) := by decide +kernel
theorem d_Mo_literal_90 : decode prog_13_method_13_code 90 = .ok (.ishr, 1) := by decide +kernel
theorem d_Mo_literal_91 : decode prog_13_method_13_code 91 = .ok (.iconst 1, 1) := by decide +kernel
theorem d_Mo_literal_92 : decode prog_13_method_13_code 92 = .ok (.iand, 1) := by decide +kernel
theorem d_Mo_literal_93 : decode prog_13_method_13_code 93 = .ok (.istore 8, 2) := by decide +kernel
theorem d_Mo_literal_95 : decode prog_13_method_13_code 95 = .ok (.aload_n 0, 1) := by decide +kernel
theorem d_Mo_literal_96 : decode prog_13_method_13_code 96 = .ok (.iload 5, 2) := by decide +kernel
theorem d_Mo_literal_98 : decode prog_13_method_13_code 98 = .ok (.ifCond .eq 19, 3) := by decide +kernel
theorem d_Mo_literal_101 : decode prog_13_method_13_code 101 = .ok (.iload_n 3, 1) := by decide +kernel
theorem d_Mo_literal_102 : decode prog_13_method_13_code 102 = .ok (.sipush 256, 3) := by decide +kernel
theorem d_Mo_literal_105 : decode prog_13_method_13_code 105 = .ok (.iconst 1, 1) := by decide +kernel
theorem d_Mo_literal_106 : decode prog_13_method_13_code 106 = .ok (.iload 8, 2) := by decide +kernel
theorem d_Mo_literal_108 : decode prog_13_method_13_code 108 = .ok (.iadd, 1) := by decide +kernel
theorem d_Mo_literal_109 : decode prog_13_method_13_code 109 = .ok (.imul, 1) := by decide +kernel
theorem d_Mo_literal_110 : decode prog_13_method_13_code 110 = .ok (.iadd, 1) := by decide +kernel
theorem d_Mo_literal_111 : decode prog_13_method_13_code 111 = .ok (.iload 6, 2) := by decide +kernel
theorem d_Mo_literal_113 : decode prog_13_method_13_code 113 = .ok (.iadd, 1) := by decide +kernel
theorem d_Mo_literal_114 : decode prog_13_method_13_code 114 = .ok (.goto 7, 3) := by decide +kernel
theorem d_Mo_literal_117 : decode prog_13_method_13_code 117 = .ok (.iload_n 3, 1) := by decide +kernel
theorem d_Mo_literal_118 : decode prog_13_method_13_code 118 = .ok (.iload 6, 2) := by decide +kernel
theorem d_Mo_literal_120 : decode prog_13_method_13_code 120 = .ok (.iadd, 1) := by decide +kernel
theorem d_Mo_literal_121 : decode prog_13_method_13_code 121 = .ok (.iload_n 1, 1) := by decide +kernel
theorem d_Mo_literal_122 : decode prog_13_method_13_code 122 = .ok (.iload 7, 2) := by decide +kernel
theorem d_Mo_literal_124 : decode prog_13_method_13_code 124 = .ok (.ishr, 1) := by decide +kernel
theorem d_Mo_literal_125 : decode prog_13_method_13_code 125 = .ok (.iconst 1, 1) := by decide +kernel
theorem d_Mo_literal_126 : decode prog_13_method_13_code 126 = .ok (.iand, 1) := by decide +kernel
theorem d_Mo_literal_127 : decode prog_13_method_13_code 127 = .ok (.invokevirtual 116, 3) := by decide +kernel
theorem d_Mo_literal_130 : decode prog_13_method_13_code 130 = .ok (.istore 9, 2) := by decide +kernel
theorem d_Mo_literal_132 : decode prog_13_method_13_code 132 = .ok (.iload 5, 2) := by decide +kernel
theorem d_Mo_literal_134 : decode prog_13_method_13_code 134 = .ok (.ifCond .eq 14, 3) := by decide +kernel
theorem d_Mo_literal_137 : decode prog_13_method_13_code 137 = .ok (.iload 9, 2) := by decide +kernel
theorem d_Mo_literal_139 : decode prog_13_method_13_code 139 = .ok (.iload 8, 2) := by decide +kernel
theorem d_Mo_literal_141 : decode prog_13_method_13_code 141 = .ok (.if_icmp .ne 7, 3) := by decide +kernel
theorem d_Mo_literal_144 : decode prog_13_method_13_code 144 = .ok (.iconst 1, 1) := by decide +kernel
theorem d_Mo_literal_145 : decode prog_13_method_13_code 145 = .ok (.goto 4, 3) := by decide +kernel
theorem d_Mo_literal_148 : decode prog_13_method_13_code 148 = .ok (.iconst 0, 1) := by decide +kernel
theorem d_Mo_literal_149 : decode prog_13_method_13_code 149 = .ok (.istore 5, 2) := by decide +kernel
theorem d_Mo_literal_151 : decode prog_13_method_13_code 151 = .ok (.iconst 2, 1) := by decide +kernel
theorem d_Mo_literal_152 : decode prog_13_method_13_code 152 = .ok (.iload 6, 2) := by decide +kernel
theorem d_Mo_literal_154 : decode prog_13_method_13_code 154 = .ok (.imul, 1) := by decide +kernel
theorem d_Mo_literal_155 : decode prog_13_method_13_code 155 = .ok (.iload 9, 2) := by decide +kernel
theorem d_Mo_literal_157 : decode prog_13_method_13_code 157 = .ok (.iadd, 1) := by decide +kernel
theorem d_Mo_literal_158 : decode prog_13_method_13_code 158 = .ok (.istore 6, 2) := by decide +kernel
theorem d_Mo_literal_160 : decode prog_13_method_13_code 160 = .ok (.iinc 7 (-1), 3) := by decide +kernel
theorem d_Mo_literal_163 : decode prog_13_method_13_code 163 = .ok (.goto (-82), 3) := by decide +kernel
theorem d_Mo_literal_166 : decode prog_13_method_13_code 166 = .ok (.iload 6, 2) := by decide +kernel
theorem d_Mo_literal_168 : decode prog_13_method_13_code 168 = .ok (.sipush 256, 3) := by decide +kernel
theorem d_Mo_literal_171 : decode prog_13_method_13_code 171 = .ok (.isub, 1) := by decide +kernel
theorem d_Mo_literal_172 : decode prog_13_method_13_code 172 = .ok (.ireturn, 1) := by decide +kernel
theorem d_Mo_length_0 : decode prog_13_method_14_code 0 = .ok (.sipush 3144, 3) := by decide +kernel
theorem d_Mo_length_3 : decode prog_13_method_14_code 3 = .ok (.sipush 146, 3) := by decide +kernel
theorem d_Mo_length_6 : decode prog_13_method_14_code 6 = .ok (.iload_n 1, 1) := by decide +kernel
theorem d_Mo_length_7 : decode prog_13_method_14_code 7 = .ok (.imul, 1) := by decide +kernel
theorem d_Mo_length_8 : decode prog_13_method_14_code 8 = .ok (.iadd, 1) := by decide +kernel
theorem d_Mo_length_9 : decode prog_13_method_14_code 9 = .ok (.istore_n 3, 1) := by decide +kernel
theorem d_Mo_length_10 : decode prog_13_method_14_code 10 = .ok (.aload_n 0, 1) := by decide +kernel
theorem d_Mo_length_11 : decode prog_13_method_14_code 11 = .ok (.iload_n 3, 1) := by decide +kernel
theorem d_Mo_length_12 : decode prog_13_method_14_code 12 = .ok (.iload_n 2, 1) := by decide +kernel
theorem d_Mo_length_13 : decode prog_13_method_14_code 13 = .ok (.bipush 8, 2) := by decide +kernel
theorem d_Mo_length_15 : decode prog_13_method_14_code 15 = .ok (.if_icmp .ge 7, 3) := by decide +kernel
theorem d_Mo_length_18 : decode prog_13_method_14_code 18 = .ok (.iconst 0, 1) := by decide +kernel
theorem d_Mo_length_19 : decode prog_13_method_14_code 19 = .ok (.goto 4, 3) := by decide +kernel
theorem d_Mo_length_22 : decode prog_13_method_14_code 22 = .ok (.iconst 1, 1) := by decide +kernel
theorem d_Mo_length_23 : decode prog_13_method_14_code 23 = .ok (.invokevirtual 116, 3) := by decide +kernel
theorem d_Mo_length_26 : decode prog_13_method_14_code 26 = .ok (.ifCond .ne 13, 3) := by decide +kernel
theorem d_Mo_length_29 : decode prog_13_method_14_code 29 = .ok (.aload_n 0, 1) := by decide +kernel
theorem d_Mo_length_30 : decode prog_13_method_14_code 30 = .ok (.iload_n 3, 1) := by decide +kernel
theorem d_Mo_length_31 : decode prog_13_method_14_code 31 = .ok (.iconst 2, 1) := by decide +kernel
theorem d_Mo_length_32 : decode prog_13_method_14_code 32 = .ok (.iadd, 1) := by decide +kernel
theorem d_Mo_length_33 : decode prog_13_method_14_code 33 = .ok (.iconst 3, 1) := by decide +kernel
theorem d_Mo_length_34 : decode prog_13_method_14_code 34 = .ok (.iload_n 2, 1) := by decide +kernel
theorem d_Mo_length_35 : decode prog_13_method_14_code 35 = .ok (.invokevirtual 120, 3) := by decide +kernel
theorem d_Mo_length_38 : decode prog_13_method_14_code 38 = .ok (.ireturn, 1) := by decide +kernel
theorem d_Mo_length_39 : decode prog_13_method_14_code 39 = .ok (.aload_n 0, 1) := by decide +kernel
theorem d_Mo_length_40 : decode prog_13_method_14_code 40 = .ok (.iload_n 3, 1) := by decide +kernel
theorem d_Mo_length_41 : decode prog_13_method_14_code 41 = .ok (.iconst 1, 1) := by decide +kernel
theorem d_Mo_length_42 : decode prog_13_method_14_code 42 = .ok (.iadd, 1) := by decide +kernel
theorem d_Mo_length_43 : decode prog_13_method_14_code 43 = .ok (.iload_n 2, 1) := by decide +kernel
theorem d_Mo_length_44 : decode prog_13_method_14_code 44 = .ok (.bipush 16, 2) := by decide +kernel
theorem d_Mo_length_46 : decode prog_13_method_14_code 46 = .ok (.if_icmp .ge 7, 3) := by decide +kernel
theorem d_Mo_length_49 : decode prog_13_method_14_code 49 = .ok (.iconst 0, 1) := by decide +kernel
theorem d_Mo_length_50 : decode prog_13_method_14_code 50 = .ok (.goto 4, 3) := by decide +kernel
theorem d_Mo_length_53 : decode prog_13_method_14_code 53 = .ok (.iconst 1, 1) := by decide +kernel
theorem d_Mo_length_54 : decode prog_13_method_14_code 54 = .ok (.invokevirtual 116, 3) := by decide +kernel
theorem d_Mo_length_57 : decode prog_13_method_14_code 57 = .ok (.ifCond .ne 20, 3) := by decide +kernel
theorem d_Mo_length_60 : decode prog_13_method_14_code 60 = .ok (.bipush 8, 2) := by decide +kernel
theorem d_Mo_length_62 : decode prog_13_method_14_code 62 = .ok (.aload_n 0, 1) := by decide +kernel
theorem d_Mo_length_63 : decode prog_13_method_14_code 63 = .ok (.iload_n 3, 1) := by decide +kernel
theorem d_Mo_length_64 : decode prog_13_method_14_code 64 = .ok (.bipush 10, 2) := by decide +kernel
theorem d_Mo_length_66 : decode prog_13_method_14_code 66 = .ok (.iadd, 1) := by decide +kernel
theorem d_Mo_length_67 : decode prog_13_method_14_code 67 = .ok (.iconst 3, 1) := by decide +kernel
theorem d_Mo_length_68 : decode prog_13_method_14_code 68 = .ok (.iload_n 2, 1) := by decide +kernel
theorem d_Mo_length_69 : decode prog_13_method_14_code 69 = .ok (.bipush 8, 2) := by decide +kernel
theorem d_Mo_length_71 : decode prog_13_method_14_code 71 = .ok (.isub, 1) := by decide +kernel
theorem d_Mo_length_72 : decode prog_13_method_14_code 72 = .ok (.invokevirtual 120, 3) := by decide +kernel
theorem d_Mo_length_75 : decode prog_13_method_14_code 75 = .ok (.iadd, 1) := by decide +kernel
theorem d_Mo_length_76 : decode prog_13_method_14_code 76 = .ok (.ireturn, 1) := by decide +kernel
theorem d_Mo_length_77 : decode prog_13_method_14_code 77 = .ok (.bipush 16, 2) := by decide +kernel
theorem d_Mo_length_79 : decode prog_13_method_14_code 79 = .ok (.aload_n 0, 1) := by decide +kernel
theorem d_Mo_length_80 : decode prog_13_method_14_code 80 = .ok (.iload_n 3, 1) := by decide +kernel
theorem d_Mo_length_81 : decode prog_13_method_14_code 81 = .ok (.bipush 18, 2) := by decide +kernel
theorem d_Mo_length_83 : decode prog_13_method_14_code 83 = .ok (.iadd, 1) := by decide +kernel
theorem d_Mo_length_84 : decode prog_13_method_14_code 84 = .ok (.bipush 7, 2) := by decide +kernel
theorem d_Mo_length_86 : decode prog_13_method_14_code 86 = .ok (.iload_n 2, 1) := by decide +kernel
theorem d_Mo_length_87 : decode prog_13_method_14_code 87 = .ok (.bipush 16, 2) := by decide +kernel
theorem d_Mo_length_89 : decode prog_13_method_14_code 89 = .ok (.isub, 1) := by decide +kernel
theorem d_Mo_length_90 : decode prog_13_method_14_code 90 = .ok (.invokevirtual 120, 3) := by decide +kernel
theorem d_Mo_length_93 : decode prog_13_method_14_code 93 = .ok (.iadd, 1) := by decide +kernel
theorem d_Mo_length_94 : decode prog_13_method_14_code 94 = .ok (.ireturn, 1) := by decide +kernel
theorem d_Mo_below_0 : decode prog_13_method_15_code 0 = .ok (.iconst 0, 1) := by decide +kernel
theorem d_Mo_below_1 : decode prog_13_method_15_code 1 = .ok (.istore_n 1, 1) := by decide +kernel
theorem d_Mo_below_2 : decode prog_13_method_15_code 2 = .ok (.iload_n 0, 1) := by decide +kernel
theorem d_Mo_below_3 : decode prog_13_method_15_code 3 = .ok (.iload_n 1, 1) := by decide +kernel
theorem d_Mo_below_4 : decode prog_13_method_15_code 4 = .ok (.iconst 1, 1) := by decide +kernel
theorem d_Mo_below_5 : decode prog_13_method_15_code 5 = .ok (.iadd, 1) := by decide +kernel
theorem d_Mo_below_6 : decode prog_13_method_15_code 6 = .ok (.ishr, 1) := by decide +kernel
theorem d_Mo_below_7 : decode prog_13_method_15_code 7 = .ok (.ifCond .le 9, 3) := by decide +kernel
theorem d_Mo_below_10 : decode prog_13_method_15_code 10 = .ok (.iinc 1 1, 3) := by decide +kernel
theorem d_Mo_below_13 : decode prog_13_method_15_code 13 = .ok (.goto (-11), 3) := by decide +kernel
theorem d_Mo_below_16 : decode prog_13_method_15_code 16 = .ok (.iload_n 1, 1) := by decide +kernel
theorem d_Mo_below_17 : decode prog_13_method_15_code 17 = .ok (.ireturn, 1) := by decide +kernel
theorem d_Mo_distance_0 : decode prog_13_method_16_code 0 = .ok (.iload_n 2, 1) := by decide +kernel
theorem d_Mo_distance_1 : decode prog_13_method_16_code 1 = .ok (.iconst 4, 1) := by decide +kernel
theorem d_Mo_distance_2 : decode prog_13_method_16_code 2 = .ok (.if_icmp .ge 7, 3) := by decide +kernel
theorem d_Mo_distance_5 : decode prog_13_method_16_code 5 = .ok (.iconst 0, 1) := by decide +kernel
theorem d_Mo_distance_6 : decode prog_13_method_16_code 6 = .ok (.goto 7, 3) := by decide +kernel
theorem d_Mo_distance_9 : decode prog_13_method_16_code 9 = .ok (.iload_n 2, 1) := by decide +kernel
theorem d_Mo_distance_10 : decode prog_13_method_16_code 10 = .ok (.invokestatic 124, 3) := by decide +kernel
theorem d_Mo_distance_13 : decode prog_13_method_16_code 13 = .ok (.istore_n 3, 1) := by decide +kernel
theorem d_Mo_distance_14 : decode prog_13_method_16_code 14 = .ok (.iload_n 2, 1) := by decide +kernel
theorem d_Mo_distance_15 : decode prog_13_method_16_code 15 = .ok (.ifCond .ge 8, 3) := by decide +kernel
theorem d_Mo_distance_18 : decode prog_13_method_16_code 18 = .ok (.bipush 15, 2) := by decide +kernel
theorem d_Mo_distance_20 : decode prog_13_method_16_code 20 = .ok (.goto 23, 3) := by decide +kernel
theorem d_Mo_distance_23 : decode prog_13_method_16_code 23 = .ok (.iload_n 2, 1) := by decide +kernel
theorem d_Mo_distance_24 : decode prog_13_method_16_code 24 = .ok (.iconst 4, 1) := by decide +kernel
theorem d_Mo_distance_25 : decode prog_13_method_16_code 25 = .ok (.if_icmp .ge 7, 3) := by decide +kernel
theorem d_Mo_distance_28 : decode prog_13_method_16_code 28 = .ok (.iload_n 2, 1) := by decide +kernel
theorem d_Mo_distance_29 : decode prog_13_method_16_code 29 = .ok (.goto 14, 3) := by decide +kernel
theorem d_Mo_distance_32 : decode prog_13_method_16_code 32 = .ok (.iconst 2, 1) := by decide +kernel
theorem d_Mo_distance_33 : decode prog_13_method_16_code 33 = .ok (.iload_n 3, 1) := by decide +kernel
theorem d_Mo_distance_34 : decode prog_13_method_16_code 34 = .ok (.imul, 1) := by decide +kernel
theorem d_Mo_distance_35 : decode prog_13_method_16_code 35 = .ok (.iload_n 2, 1) := by decide +kernel
theorem d_Mo_distance_36 : decode prog_13_method_16_code 36 = .ok (.iload_n 3, 1) := by decide +kernel
theorem d_Mo_distance_37 : decode prog_13_method_16_code 37 = .ok (.iconst 1, 1) := by decide +kernel
theorem d_Mo_distance_38 : decode prog_13_method_16_code 38 = .ok (.isub, 1) := by decide +kernel
theorem d_Mo_distance_39 : decode prog_13_method_16_code 39 = .ok (.ishr, 1) := by decide +kernel
theorem d_Mo_distance_40 : decode prog_13_method_16_code 40 = .ok (.iconst 1, 1) := by decide +kernel
theorem d_Mo_distance_41 : decode prog_13_method_16_code 41 = .ok (.iand, 1) := by decide +kernel
theorem d_Mo_distance_42 : decode prog_13_method_16_code 42 = .ok (.iadd, 1) := by decide +kernel
theorem d_Mo_distance_43 : decode prog_13_method_16_code 43 = .ok (.istore 4, 2) := by decide +kernel
theorem d_Mo_distance_45 : decode prog_13_method_16_code 45 = .ok (.aload_n 0, 1) := by decide +kernel
theorem d_Mo_distance_46 : decode prog_13_method_16_code 46 = .ok (.sipush 3436, 3) := by decide +kernel
theorem d_Mo_distance_49 : decode prog_13_method_16_code 49 = .ok (.bipush 16, 2) := by decide +kernel
theorem d_Mo_distance_51 : decode prog_13_method_16_code 51 = .ok (.iload_n 1, 1) := by decide +kernel
theorem d_Mo_distance_52 : decode prog_13_method_16_code 52 = .ok (.iconst 3, 1) := by decide +kernel
theorem d_Mo_distance_53 : decode prog_13_method_16_code 53 = .ok (.if_icmp .ge 7, 3) := by decide +kernel
theorem d_Mo_distance_56 : decode prog_13_method_16_code 56 = .ok (.iload_n 1, 1) := by decide +kernel
theorem d_Mo_distance_57 : decode prog_13_method_16_code 57 = .ok (.goto 4, 3) := by decide +kernel
theorem d_Mo_distance_60 : decode prog_13_method_16_code 60 = .ok (.iconst 3, 1) := by decide +kernel
theorem d_Mo_distance_61 : decode prog_13_method_16_code 61 = .ok (.imul, 1) := by decide +kernel
theorem d_Mo_distance_62 : decode prog_13_method_16_code 62 = .ok (.iadd, 1) := by decide +kernel
theorem d_Mo_distance_63 : decode prog_13_method_16_code 63 = .ok (.iconst 4, 1) := by decide +kernel
theorem d_Mo_distance_64 : decode prog_13_method_16_code 64 = .ok (.iload 4, 2) := by decide +kernel
theorem d_Mo_distance_66 : decode prog_13_method_16_code 66 = .ok (.invokevirtual 120, 3) := by decide +kernel
theorem d_Mo_distance_69 : decode prog_13_method_16_code 69 = .ok (.istore 5, 2) := by decide +kernel
theorem d_Mo_distance_71 : decode prog_13_method_16_code 71 = .ok (.iload 5, 2) := by decide +kernel
theorem d_Mo_distance_73 : decode prog_13_method_16_code 73 = .ok (.bipush 15, 2) := by decide +kernel
theorem d_Mo_distance_75 : decode prog_13_method_16_code 75 = .ok (.if_icmp .ne 5, 3) := by decide +kernel
theorem d_Mo_distance_78 : decode prog_13_method_16_code 78 = .ok (.iconst (-1), 1) := by decide +kernel
theorem d_Mo_distance_79 : decode prog_13_method_16_code 79 = .ok (.ireturn, 1) := by decide +kernel
theorem d_Mo_distance_80 : decode prog_13_method_16_code 80 = .ok (.iload 5, 2) := by decide +kernel
theorem d_Mo_distance_82 : decode prog_13_method_16_code 82 = .ok (.bipush 14, 2) := by decide +kernel
theorem d_Mo_distance_84 : decode prog_13_method_16_code 84 = .ok (.if_icmp .ne 15, 3) := by decide +kernel
theorem d_Mo_distance_87 : decode prog_13_method_16_code 87 = .ok (.aload_n 0, 1) := by decide +kernel
theorem d_Mo_distance_88 : decode prog_13_method_16_code 88 = .ok (.getfield 70, 3) := by decide +kernel
theorem d_Mo_distance_91 : decode prog_13_method_16_code 91 = .ok (.ifCond .ne 8, 3) := by decide +kernel
theorem d_Mo_distance_94 : decode prog_13_method_16_code 94 = .ok (.aload_n 0, 1) := by decide +kernel
theorem d_Mo_distance_95 : decode prog_13_method_16_code 95 = .ok (.iconst 3, 1) := by decide +kernel
theorem d_Mo_distance_96 : decode prog_13_method_16_code 96 = .ok (.putfield 70, 3) := by decide +kernel
theorem d_Mo_distance_99 : decode prog_13_method_16_code 99 = .ok (.iload 5, 2) := by decide +kernel
theorem d_Mo_distance_101 : decode prog_13_method_16_code 101 = .ok (.iconst 4, 1) := by decide +kernel
theorem d_Mo_distance_102 : decode prog_13_method_16_code 102 = .ok (.if_icmp .ge 6, 3) := by decide +kernel
theorem d_Mo_distance_105 : decode prog_13_method_16_code 105 = .ok (.iload 5, 2) := by decide +kernel
theorem d_Mo_distance_107 : decode prog_13_method_16_code 107 = .ok (.ireturn, 1) := by decide +kernel
theorem d_Mo_distance_108 : decode prog_13_method_16_code 108 = .ok (.iload 5, 2) := by decide +kernel
theorem d_Mo_distance_110 : decode prog_13_method_16_code 110 = .ok (.iconst 2, 1) := by decide +kernel
theorem d_Mo_distance_111 : decode prog_13_method_16_code 111 = .ok (.idiv, 1) := by decide +kernel
theorem d_Mo_distance_112 : decode prog_13_method_16_code 112 = .ok (.iconst 1, 1) := by decide +kernel
theorem d_Mo_distance_113 : decode prog_13_method_16_code 113 = .ok (.isub, 1) := by decide +kernel
theorem d_Mo_distance_114 : decode prog_13_method_16_code 114 = .ok (.istore 6, 2) := by decide +kernel
theorem d_Mo_distance_116 : decode prog_13_method_16_code 116 = .ok (.iconst 2, 1) := by decide +kernel
theorem d_Mo_distance_117 : decode prog_13_method_16_code 117 = .ok (.iload 5, 2) := by decide +kernel
theorem d_Mo_distance_119 : decode prog_13_method_16_code 119 = .ok (.iconst 2, 1) := by decide +kernel
theorem d_Mo_distance_120 : decode prog_13_method_16_code 120 = .ok (.irem, 1) := by decide +kernel
theorem d_Mo_distance_121 : decode prog_13_method_16_code 121 = .ok (.iadd, 1) := by decide +kernel
theorem d_Mo_distance_122 : decode prog_13_method_16_code 122 = .ok (.iload 6, 2) := by decide +kernel
theorem d_Mo_distance_124 : decode prog_13_method_16_code 124 = .ok (.ishl, 1) := by decide +kernel
theorem d_Mo_distance_125 : decode prog_13_method_16_code 125 = .ok (.istore 7, 2) := by decide +kernel
theorem d_Mo_distance_127 : decode prog_13_method_16_code 127 = .ok (.iload 7, 2) := by decide +kernel
theorem d_Mo_distance_129 : decode prog_13_method_16_code 129 = .ok (.aload_n 0, 1) := by decide +kernel
theorem d_Mo_distance_130 : decode prog_13_method_16_code 130 = .ok (.sipush 3500, 3) := by decide +kernel
theorem d_Mo_distance_133 : decode prog_13_method_16_code 133 = .ok (.bipush 32, 2) := by decide +kernel
theorem d_Mo_distance_135 : decode prog_13_method_16_code 135 = .ok (.iload 5, 2) := by decide +kernel
theorem d_Mo_distance_137 : decode prog_13_method_16_code 137 = .ok (.imul, 1) := by decide +kernel
theorem d_Mo_distance_138 : decode prog_13_method_16_code 138 = .ok (.iadd, 1) := by decide +kernel
theorem d_Mo_distance_139 : decode prog_13_method_16_code 139 = .ok (.iload 6, 2) := by decide +kernel
theorem d_Mo_distance_141 : decode prog_13_method_16_code 141 = .ok (.iload_n 2, 1) := by decide +kernel
theorem d_Mo_distance_142 : decode prog_13_method_16_code 142 = .ok (.iconst 1, 1) := by decide +kernel
theorem d_Mo_distance_143 : decode prog_13_method_16_code 143 = .ok (.iload 6, 2) := by decide +kernel
theorem d_Mo_distance_145 : decode prog_13_method_16_code 145 = .ok (.ishl, 1) := by decide +kernel
theorem d_Mo_distance_146 : decode prog_13_method_16_code 146 = .ok (.iconst 1, 1) := by decide +kernel
theorem d_Mo_distance_147 : decode prog_13_method_16_code 147 = .ok (.isub, 1) := by decide +kernel
theorem d_Mo_distance_148 : decode prog_13_method_16_code 148 = .ok (.iand, 1) := by decide +kernel
theorem d_Mo_distance_149 : decode prog_13_method_16_code 149 = .ok (.invokevirtual 128, 3) := by decide +kernel
theorem d_Mo_distance_152 : decode prog_13_method_16_code 152 = .ok (.iadd, 1) := by decide +kernel
theorem d_Mo_distance_153 : decode prog_13_method_16_code 153 = .ok (.ireturn, 1) := by decide +kernel
theorem d_Mo_echo_0 : decode prog_13_method_17_code 0 = .ok (.aload_n 0, 1) := by decide +kernel
theorem d_Mo_echo_1 : decode prog_13_method_17_code 1 = .ok (.bipush 24, 2) := by decide +kernel
theorem d_Mo_echo_3 : decode prog_13_method_17_code 3 = .ok (.aload_n 0, 1) := by decide +kernel
theorem d_Mo_echo_4 : decode prog_13_method_17_code 4 = .ok (.getfield 82, 3) := by decide +kernel
theorem d_Mo_echo_7 : decode prog_13_method_17_code 7 = .ok (.iadd, 1) := by decide +kernel
theorem d_Mo_echo_8 : decode prog_13_method_17_code 8 = .ok (.iload_n 1, 1) := by decide +kernel
theorem d_Mo_echo_9 : decode prog_13_method_17_code 9 = .ok (.ifCond .le 7, 3) := by decide +kernel
theorem d_Mo_echo_12 : decode prog_13_method_17_code 12 = .ok (.iconst 1, 1) := by decide +kernel
theorem d_Mo_echo_13 : decode prog_13_method_17_code 13 = .ok (.goto 4, 3) := by decide +kernel
theorem d_Mo_echo_16 : decode prog_13_method_17_code 16 = .ok (.iconst 0, 1) := by decide +kernel
theorem d_Mo_echo_17 : decode prog_13_method_17_code 17 = .ok (.invokevirtual 116, 3) := by decide +kernel
theorem d_Mo_echo_20 : decode prog_13_method_17_code 20 = .ok (.ifCond .ne 32, 3) := by decide +kernel
theorem d_Mo_echo_23 : decode prog_13_method_17_code 23 = .ok (.aload_n 0, 1) := by decide +kernel
theorem d_Mo_echo_24 : decode prog_13_method_17_code 24 = .ok (.bipush 36, 2) := by decide +kernel
theorem d_Mo_echo_26 : decode prog_13_method_17_code 26 = .ok (.aload_n 0, 1) := by decide +kernel
theorem d_Mo_echo_27 : decode prog_13_method_17_code 27 = .ok (.getfield 82, 3) := by decide +kernel
theorem d_Mo_echo_30 : decode prog_13_method_17_code 30 = .ok (.iadd, 1) := by decide +kernel
theorem d_Mo_echo_31 : decode prog_13_method_17_code 31 = .ok (.iload_n 1, 1) := by decide +kernel
theorem d_Mo_echo_32 : decode prog_13_method_17_code 32 = .ok (.ifCond .ge 7, 3) := by decide +kernel
theorem d_Mo_echo_35 : decode prog_13_method_17_code 35 = .ok (.iconst 0, 1) := by decide +kernel
theorem d_Mo_echo_36 : decode prog_13_method_17_code 36 = .ok (.goto 4, 3) := by decide +kernel
theorem d_Mo_echo_39 : decode prog_13_method_17_code 39 = .ok (.iconst 1, 1) := by decide +kernel
theorem d_Mo_echo_40 : decode prog_13_method_17_code 40 = .ok (.invokevirtual 116, 3) := by decide +kernel
theorem d_Mo_echo_43 : decode prog_13_method_17_code 43 = .ok (.ifCond .ne 7, 3) := by decide +kernel
theorem d_Mo_echo_46 : decode prog_13_method_17_code 46 = .ok (.iconst (-1), 1) := by decide +kernel
theorem d_Mo_echo_47 : decode prog_13_method_17_code 47 = .ok (.goto 4, 3) := by decide +kernel
theorem d_Mo_echo_50 : decode prog_13_method_17_code 50 = .ok (.iconst 0, 1) := by decide +kernel
theorem d_Mo_echo_51 : decode prog_13_method_17_code 51 = .ok (.ireturn, 1) := by decide +kernel
theorem d_Mo_echo_52 : decode prog_13_method_17_code 52 = .ok (.aload_n 0, 1) := by decide +kernel
theorem d_Mo_echo_53 : decode prog_13_method_17_code 53 = .ok (.bipush 48, 2) := by decide +kernel
theorem d_Mo_echo_55 : decode prog_13_method_17_code 55 = .ok (.aload_n 0, 1) := by decide +kernel
theorem d_Mo_echo_56 : decode prog_13_method_17_code 56 = .ok (.getfield 82, 3) := by decide +kernel
theorem d_Mo_echo_59 : decode prog_13_method_17_code 59 = .ok (.iadd, 1) := by decide +kernel
theorem d_Mo_echo_60 : decode prog_13_method_17_code 60 = .ok (.iload_n 1, 1) := by decide +kernel
theorem d_Mo_echo_61 : decode prog_13_method_17_code 61 = .ok (.iconst 1, 1) := by decide +kernel
theorem d_Mo_echo_62 : decode prog_13_method_17_code 62 = .ok (.if_icmp .le 7, 3) := by decide +kernel
theorem d_Mo_echo_65 : decode prog_13_method_17_code 65 = .ok (.iconst 1, 1) := by decide +kernel
theorem d_Mo_echo_66 : decode prog_13_method_17_code 66 = .ok (.goto 4, 3) := by decide +kernel
theorem d_Mo_echo_69 : decode prog_13_method_17_code 69 = .ok (.iconst 0, 1) := by decide +kernel
theorem d_Mo_echo_70 : decode prog_13_method_17_code 70 = .ok (.invokevirtual 116, 3) := by decide +kernel
theorem d_Mo_echo_73 : decode prog_13_method_17_code 73 = .ok (.ifCond .ne 5, 3) := by decide +kernel
theorem d_Mo_echo_76 : decode prog_13_method_17_code 76 = .ok (.iconst 1, 1) := by decide +kernel
theorem d_Mo_echo_77 : decode prog_13_method_17_code 77 = .ok (.ireturn, 1) := by decide +kernel
theorem d_Mo_echo_78 : decode prog_13_method_17_code 78 = .ok (.iconst 2, 1) := by decide +kernel
theorem d_Mo_echo_79 : decode prog_13_method_17_code 79 = .ok (.aload_n 0, 1) := by decide +kernel
theorem d_Mo_echo_80 : decode prog_13_method_17_code 80 = .ok (.bipush 60, 2) := by decide +kernel
theorem d_Mo_echo_82 : decode prog_13_method_17_code 82 = .ok (.aload_n 0, 1) := by decide +kernel
theorem d_Mo_echo_83 : decode prog_13_method_17_code 83 = .ok (.getfield 82, 3) := by decide +kernel
theorem d_Mo_echo_86 : decode prog_13_method_17_code 86 = .ok (.iadd, 1) := by decide +kernel
theorem d_Mo_echo_87 : decode prog_13_method_17_code 87 = .ok (.iload_n 1, 1) := by decide +kernel
theorem d_Mo_echo_88 : decode prog_13_method_17_code 88 = .ok (.iconst 2, 1) := by decide +kernel
theorem d_Mo_echo_89 : decode prog_13_method_17_code 89 = .ok (.if_icmp .le 7, 3) := by decide +kernel
theorem d_Mo_echo_92 : decode prog_13_method_17_code 92 = .ok (.iconst 1, 1) := by decide +kernel
theorem d_Mo_echo_93 : decode prog_13_method_17_code 93 = .ok (.goto 4, 3) := by decide +kernel
theorem d_Mo_echo_96 : decode prog_13_method_17_code 96 = .ok (.iconst 0, 1) := by decide +kernel
theorem d_Mo_echo_97 : decode prog_13_method_17_code 97 = .ok (.invokevirtual 116, 3) := by decide +kernel
theorem d_Mo_echo_100 : decode prog_13_method_17_code 100 = .ok (.iadd, 1) := by decide +kernel
theorem d_Mo_echo_101 : decode prog_13_method_17_code 101 = .ok (.ireturn, 1) := by decide +kernel
theorem d_Mo_tell_0 : decode prog_13_method_18_code 0 = .ok (.aload_n 0, 1) := by decide +kernel
theorem d_Mo_tell_1 : decode prog_13_method_18_code 1 = .ok (.getfield 37, 3) := by decide +kernel
theorem d_Mo_tell_4 : decode prog_13_method_18_code 4 = .ok (.aload_n 0, 1) := by decide +kernel
theorem d_Mo_tell_5 : decode prog_13_method_18_code 5 = .ok (.getfield 79, 3) := by decide +kernel
theorem d_Mo_tell_8 : decode prog_13_method_18_code 8 = .ok (.iload_n 1, 1) := by decide +kernel
theorem d_Mo_tell_9 : decode prog_13_method_18_code 9 = .ok (.iastore, 1) := by decide +kernel
theorem d_Mo_tell_10 : decode prog_13_method_18_code 10 = .ok (.aload_n 0, 1) := by decide +kernel
theorem d_Mo_tell_11 : decode prog_13_method_18_code 11 = .ok (.dup, 1) := by decide +kernel
theorem d_Mo_tell_12 : decode prog_13_method_18_code 12 = .ok (.getfield 79, 3) := by decide +kernel
theorem d_Mo_tell_15 : decode prog_13_method_18_code 15 = .ok (.iconst 1, 1) := by decide +kernel
theorem d_Mo_tell_16 : decode prog_13_method_18_code 16 = .ok (.iadd, 1) := by decide +kernel
theorem d_Mo_tell_17 : decode prog_13_method_18_code 17 = .ok (.putfield 79, 3) := by decide +kernel
theorem d_Mo_tell_20 : decode prog_13_method_18_code 20 = .ok (.return_, 1) := by decide +kernel
theorem d_Mo_note_0 : decode prog_13_method_19_code 0 = .ok (.aload_n 0, 1) := by decide +kernel
theorem d_Mo_note_1 : decode prog_13_method_19_code 1 = .ok (.getfield 43, 3) := by decide +kernel
theorem d_Mo_note_4 : decode prog_13_method_19_code 4 = .ok (.aload_n 0, 1) := by decide +kernel
theorem d_Mo_note_5 : decode prog_13_method_19_code 5 = .ok (.getfield 85, 3) := by decide +kernel
theorem d_Mo_note_8 : decode prog_13_method_19_code 8 = .ok (.iload_n 1, 1) := by decide +kernel
theorem d_Mo_note_9 : decode prog_13_method_19_code 9 = .ok (.iastore, 1) := by decide +kernel
theorem d_Mo_note_10 : decode prog_13_method_19_code 10 = .ok (.aload_n 0, 1) := by decide +kernel
theorem d_Mo_note_11 : decode prog_13_method_19_code 11 = .ok (.getfield 46, 3) := by decide +kernel
theorem d_Mo_note_14 : decode prog_13_method_19_code 14 = .ok (.aload_n 0, 1) := by decide +kernel
theorem d_Mo_note_15 : decode prog_13_method_19_code 15 = .ok (.getfield 85, 3) := by decide +kernel
theorem d_Mo_note_18 : decode prog_13_method_19_code 18 = .ok (.iload_n 2, 1) := by decide +kernel
theorem d_Mo_note_19 : decode prog_13_method_19_code 19 = .ok (.iastore, 1) := by decide +kernel
theorem d_Mo_note_20 : decode prog_13_method_19_code 20 = .ok (.aload_n 0, 1) := by decide +kernel
theorem d_Mo_note_21 : decode prog_13_method_19_code 21 = .ok (.getfield 49, 3) := by decide +kernel
theorem d_Mo_note_24 : decode prog_13_method_19_code 24 = .ok (.aload_n 0, 1) := by decide +kernel
theorem d_Mo_note_25 : decode prog_13_method_19_code 25 = .ok (.getfield 85, 3) := by decide +kernel
theorem d_Mo_note_28 : decode prog_13_method_19_code 28 = .ok (.iload_n 3, 1) := by decide +kernel
theorem d_Mo_note_29 : decode prog_13_method_19_code 29 = .ok (.iastore, 1) := by decide +kernel
theorem d_Mo_note_30 : decode prog_13_method_19_code 30 = .ok (.aload_n 0, 1) := by decide +kernel
theorem d_Mo_note_31 : decode prog_13_method_19_code 31 = .ok (.dup, 1) := by decide +kernel
theorem d_Mo_note_32 : decode prog_13_method_19_code 32 = .ok (.getfield 85, 3) := by decide +kernel
theorem d_Mo_note_35 : decode prog_13_method_19_code 35 = .ok (.iconst 1, 1) := by decide +kernel
theorem d_Mo_note_36 : decode prog_13_method_19_code 36 = .ok (.iadd, 1) := by decide +kernel
theorem d_Mo_note_37 : decode prog_13_method_19_code 37 = .ok (.putfield 85, 3) := by decide +kernel
theorem d_Mo_note_40 : decode prog_13_method_19_code 40 = .ok (.return_, 1) := by decide +kernel
theorem d_Mo_tellLiteral_0 : decode prog_13_method_20_code 0 = .ok (.aload_n 0, 1) := by decide +kernel
theorem d_Mo_tellLiteral_1 : decode prog_13_method_20_code 1 = .ok (.getfield 70, 3) := by decide +kernel
theorem d_Mo_tellLiteral_4 : decode prog_13_method_20_code 4 = .ok (.ifCond .ne 17, 3) := by decide +kernel
theorem d_Mo_tellLiteral_7 : decode prog_13_method_20_code 7 = .ok (.aload_n 0, 1) := by decide +kernel
theorem d_Mo_tellLiteral_8 : decode prog_13_method_20_code 8 = .ok (.getfield 79, 3) := by decide +kernel
theorem d_Mo_tellLiteral_11 : decode prog_13_method_20_code 11 = .ok (.bipush 120, 2) := by decide +kernel
theorem d_Mo_tellLiteral_13 : decode prog_13_method_20_code 13 = .ok (.if_icmp .ne 8, 3) := by decide +kernel
theorem d_Mo_tellLiteral_16 : decode prog_13_method_20_code 16 = .ok (.aload_n 0, 1) := by decide +kernel
theorem d_Mo_tellLiteral_17 : decode prog_13_method_20_code 17 = .ok (.iconst 4, 1) := by decide +kernel
theorem d_Mo_tellLiteral_18 : decode prog_13_method_20_code 18 = .ok (.putfield 70, 3) := by decide +kernel
theorem d_Mo_tellLiteral_21 : decode prog_13_method_20_code 21 = .ok (.aload_n 0, 1) := by decide +kernel
theorem d_Mo_tellLiteral_22 : decode prog_13_method_20_code 22 = .ok (.getfield 70, 3) := by decide +kernel
theorem d_Mo_tellLiteral_25 : decode prog_13_method_20_code 25 = .ok (.ifCond .le 4, 3) := by decide +kernel
theorem d_Mo_tellLiteral_28 : decode prog_13_method_20_code 28 = .ok (.return_, 1) := by decide +kernel
theorem d_Mo_tellLiteral_29 : decode prog_13_method_20_code 29 = .ok (.aload_n 0, 1) := by decide +kernel
theorem d_Mo_tellLiteral_30 : decode prog_13_method_20_code 30 = .ok (.iconst 0, 1) := by decide +kernel
theorem d_Mo_tellLiteral_31 : decode prog_13_method_20_code 31 = .ok (.iconst 1, 1) := by decide +kernel
theorem d_Mo_tellLiteral_32 : decode prog_13_method_20_code 32 = .ok (.iload_n 1, 1) := by decide +kernel
theorem d_Mo_tellLiteral_33 : decode prog_13_method_20_code 33 = .ok (.invokevirtual 131, 3) := by decide +kernel
theorem d_Mo_tellLiteral_36 : decode prog_13_method_20_code 36 = .ok (.aload_n 0, 1) := by decide +kernel
theorem d_Mo_tellLiteral_37 : decode prog_13_method_20_code 37 = .ok (.iload_n 1, 1) := by decide +kernel
theorem d_Mo_tellLiteral_38 : decode prog_13_method_20_code 38 = .ok (.invokevirtual 135, 3) := by decide +kernel
theorem d_Mo_tellLiteral_41 : decode prog_13_method_20_code 41 = .ok (.aload_n 0, 1) := by decide +kernel
theorem d_Mo_tellLiteral_42 : decode prog_13_method_20_code 42 = .ok (.aload_n 0, 1) := by decide +kernel
theorem d_Mo_tellLiteral_43 : decode prog_13_method_20_code 43 = .ok (.getfield 82, 3) := by decide +kernel
theorem d_Mo_tellLiteral_46 : decode prog_13_method_20_code 46 = .ok (.iconst 4, 1) := by decide +kernel
theorem d_Mo_tellLiteral_47 : decode prog_13_method_20_code 47 = .ok (.if_icmp .ge 7, 3) := by decide +kernel
theorem d_Mo_tellLiteral_50 : decode prog_13_method_20_code 50 = .ok (.iconst 0, 1) := by decide +kernel
theorem d_Mo_tellLiteral_51 : decode prog_13_method_20_code 51 = .ok (.goto 28, 3) := by decide +kernel
theorem d_Mo_tellLiteral_54 : decode prog_13_method_20_code 54 = .ok (.aload_n 0, 1) := by decide +kernel
theorem d_Mo_tellLiteral_55 : decode prog_13_method_20_code 55 = .ok (.getfield 82, 3) := by decide +kernel
theorem d_Mo_tellLiteral_58 : decode prog_13_method_20_code 58 = .ok (.bipush 10, 2) := by decide +kernel
theorem d_Mo_tellLiteral_60 : decode prog_13_method_20_code 60 = .ok (.if_icmp .ge 12, 3) := by decide +kernel
theorem d_Mo_tellLiteral_63 : decode prog_13_method_20_code 63 = .ok (.aload_n 0, 1) := by decide +kernel
theorem d_Mo_tellLiteral_64 : decode prog_13_method_20_code 64 = .ok (.getfield 82, 3) := by decide +kernel
theorem d_Mo_tellLiteral_67 : decode prog_13_method_20_code 67 = .ok (.iconst 3, 1) := by decide +kernel
theorem d_Mo_tellLiteral_68 : decode prog_13_method_20_code 68 = .ok (.isub, 1) := by decide +kernel
theorem d_Mo_tellLiteral_69 : decode prog_13_method_20_code 69 = .ok (.goto 10, 3) := by decide +kernel
theorem d_Mo_tellLiteral_72 : decode prog_13_method_20_code 72 = .ok (.aload_n 0, 1) := by decide +kernel
theorem d_Mo_tellLiteral_73 : decode prog_13_method_20_code 73 = .ok (.getfield 82, 3) := by decide +kernel
theorem d_Mo_tellLiteral_76 : decode prog_13_method_20_code 76 = .ok (.bipush 6, 2) := by decide +kernel
theorem d_Mo_tellLiteral_78 : decode prog_13_method_20_code 78 = .ok (.isub, 1) := by decide +kernel
theorem d_Mo_tellLiteral_79 : decode prog_13_method_20_code 79 = .ok (.putfield 82, 3) := by decide +kernel
theorem d_Mo_tellLiteral_82 : decode prog_13_method_20_code 82 = .ok (.return_, 1) := by decide +kernel
theorem d_Mo_tellFar_0 : decode prog_13_method_21_code 0 = .ok (.aload_n 0, 1) := by decide +kernel
theorem d_Mo_tellFar_1 : decode prog_13_method_21_code 1 = .ok (.getfield 70, 3) := by decide +kernel
theorem d_Mo_tellFar_4 : decode prog_13_method_21_code 4 = .ok (.ifCond .ne 16, 3) := by decide +kernel
theorem d_Mo_tellFar_7 : decode prog_13_method_21_code 7 = .ok (.iload_n 3, 1) := by decide +kernel
theorem d_Mo_tellFar_8 : decode prog_13_method_21_code 8 = .ok (.aload_n 0, 1) := by decide +kernel
theorem d_Mo_tellFar_9 : decode prog_13_method_21_code 9 = .ok (.getfield 79, 3) := by decide +kernel
theorem d_Mo_tellFar_12 : decode prog_13_method_21_code 12 = .ok (.if_icmp .le 8, 3) := by decide +kernel
theorem d_Mo_tellFar_15 : decode prog_13_method_21_code 15 = .ok (.aload_n 0, 1) := by decide +kernel
theorem d_Mo_tellFar_16 : decode prog_13_method_21_code 16 = .ok (.iconst 3, 1) := by decide +kernel
theorem d_Mo_tellFar_17 : decode prog_13_method_21_code 17 = .ok (.putfield 70, 3) := by decide +kernel
theorem d_Mo_tellFar_20 : decode prog_13_method_21_code 20 = .ok (.aload_n 0, 1) := by decide +kernel
theorem d_Mo_tellFar_21 : decode prog_13_method_21_code 21 = .ok (.getfield 70, 3) := by decide +kernel
theorem d_Mo_tellFar_24 : decode prog_13_method_21_code 24 = .ok (.ifCond .ne 19, 3) := by decide +kernel
theorem d_Mo_tellFar_27 : decode prog_13_method_21_code 27 = .ok (.aload_n 0, 1) := by decide +kernel
theorem d_Mo_tellFar_28 : decode prog_13_method_21_code 28 = .ok (.getfield 79, 3) := by decide +kernel
theorem d_Mo_tellFar_31 : decode prog_13_method_21_code 31 = .ok (.iload_n 2, 1) := by decide +kernel
theorem d_Mo_tellFar_32 : decode prog_13_method_21_code 32 = .ok (.iadd, 1) := by decide +kernel
theorem d_Mo_tellFar_33 : decode prog_13_method_21_code 33 = .ok (.bipush 120, 2) := by decide +kernel
theorem d_Mo_tellFar_35 : decode prog_13_method_21_code 35 = .ok (.if_icmp .le 8, 3) := by decide +kernel
theorem d_Mo_tellFar_38 : decode prog_13_method_21_code 38 = .ok (.aload_n 0, 1) := by decide +kernel
theorem d_Mo_tellFar_39 : decode prog_13_method_21_code 39 = .ok (.iconst 4, 1) := by decide +kernel
theorem d_Mo_tellFar_40 : decode prog_13_method_21_code 40 = .ok (.putfield 70, 3) := by decide +kernel
theorem d_Mo_tellFar_43 : decode prog_13_method_21_code 43 = .ok (.aload_n 0, 1) := by decide +kernel
theorem d_Mo_tellFar_44 : decode prog_13_method_21_code 44 = .ok (.getfield 70, 3) := by decide +kernel
theorem d_Mo_tellFar_47 : decode prog_13_method_21_code 47 = .ok (.ifCond .le 4, 3) := by decide +kernel
theorem d_Mo_tellFar_50 : decode prog_13_method_21_code 50 = .ok (.return_, 1) := by decide +kernel
theorem d_Mo_tellFar_51 : decode prog_13_method_21_code 51 = .ok (.aload_n 0, 1) := by decide +kernel
theorem d_Mo_tellFar_52 : decode prog_13_method_21_code 52 = .ok (.iload_n 1, 1) := by decide +kernel
theorem d_Mo_tellFar_53 : decode prog_13_method_21_code 53 = .ok (.iload_n 2, 1) := by decide +kernel
theorem d_Mo_tellFar_54 : decode prog_13_method_21_code 54 = .ok (.iload_n 3, 1) := by decide +kernel
theorem d_Mo_tellFar_55 : decode prog_13_method_21_code 55 = .ok (.invokevirtual 131, 3) := by decide +kernel
theorem d_Mo_tellFar_58 : decode prog_13_method_21_code 58 = .ok (.iconst 0, 1) := by decide +kernel
theorem d_Mo_tellFar_59 : decode prog_13_method_21_code 59 = .ok (.istore 5, 2) := by decide +kernel
theorem d_Mo_tellFar_61 : decode prog_13_method_21_code 61 = .ok (.iload 5, 2) := by decide +kernel
theorem d_Mo_tellFar_63 : decode prog_13_method_21_code 63 = .ok (.iload_n 2, 1) := by decide +kernel
theorem d_Mo_tellFar_64 : decode prog_13_method_21_code 64 = .ok (.if_icmp .ge 24, 3) := by decide +kernel
theorem d_Mo_tellFar_67 : decode prog_13_method_21_code 67 = .ok (.aload_n 0, 1) := by decide +kernel
theorem d_Mo_tellFar_68 : decode prog_13_method_21_code 68 = .ok (.aload_n 0, 1) := by decide +kernel
theorem d_Mo_tellFar_69 : decode prog_13_method_21_code 69 = .ok (.getfield 37, 3) := by decide +kernel
theorem d_Mo_tellFar_72 : decode prog_13_method_21_code 72 = .ok (.aload_n 0, 1) := by decide +kernel
theorem d_Mo_tellFar_73 : decode prog_13_method_21_code 73 = .ok (.getfield 79, 3) := by decide +kernel
theorem d_Mo_tellFar_76 : decode prog_13_method_21_code 76 = .ok (.iload_n 3, 1) := by decide +kernel
theorem d_Mo_tellFar_77 : decode prog_13_method_21_code 77 = .ok (.isub, 1) := by decide +kernel
theorem d_Mo_tellFar_78 : decode prog_13_method_21_code 78 = .ok (.iaload, 1) := by decide +kernel
theorem d_Mo_tellFar_79 : decode prog_13_method_21_code 79 = .ok (.invokevirtual 135, 3) := by decide +kernel
theorem d_Mo_tellFar_82 : decode prog_13_method_21_code 82 = .ok (.iinc 5 1, 3) := by decide +kernel
theorem d_Mo_tellFar_85 : decode prog_13_method_21_code 85 = .ok (.goto (-24), 3) := by decide +kernel
theorem d_Mo_tellFar_88 : decode prog_13_method_21_code 88 = .ok (.iload 4, 2) := by decide +kernel
theorem d_Mo_tellFar_90 : decode prog_13_method_21_code 90 = .ok (.istore 5, 2) := by decide +kernel
theorem d_Mo_tellFar_92 : decode prog_13_method_21_code 92 = .ok (.iload 5, 2) := by decide +kernel
theorem d_Mo_tellFar_94 : decode prog_13_method_21_code 94 = .ok (.ifCond .le 25, 3) := by decide +kernel
theorem d_Mo_tellFar_97 : decode prog_13_method_21_code 97 = .ok (.aload_n 0, 1) := by decide +kernel
theorem d_Mo_tellFar_98 : decode prog_13_method_21_code 98 = .ok (.getfield 40, 3) := by decide +kernel
theorem d_Mo_tellFar_101 : decode prog_13_method_21_code 101 = .ok (.iload 5, 2) := by decide +kernel
theorem d_Mo_tellFar_103 : decode prog_13_method_21_code 103 = .ok (.aload_n 0, 1) := by decide +kernel
theorem d_Mo_tellFar_104 : decode prog_13_method_21_code 104 = .ok (.getfield 40, 3) := by decide +kernel
theorem d_Mo_tellFar_107 : decode prog_13_method_21_code 107 = .ok (.iload 5, 2) := by decide +kernel
theorem d_Mo_tellFar_109 : decode prog_13_method_21_code 109 = .ok (.iconst 1, 1) := by decide +kernel
theorem d_Mo_tellFar_110 : decode prog_13_method_21_code 110 = .ok (.isub, 1) := by decide +kernel
theorem d_Mo_tellFar_111 : decode prog_13_method_21_code 111 = .ok (.iaload, 1) := by decide +kernel
theorem d_Mo_tellFar_112 : decode prog_13_method_21_code 112 = .ok (.iastore, 1) := by decide +kernel
theorem d_Mo_tellFar_113 : decode prog_13_method_21_code 113 = .ok (.iinc 5 (-1), 3) := by decide +kernel
theorem d_Mo_tellFar_116 : decode prog_13_method_21_code 116 = .ok (.goto (-24), 3) := by decide +kernel
theorem d_Mo_tellFar_119 : decode prog_13_method_21_code 119 = .ok (.aload_n 0, 1) := by decide +kernel
theorem d_Mo_tellFar_120 : decode prog_13_method_21_code 120 = .ok (.getfield 40, 3) := by decide +kernel
theorem d_Mo_tellFar_123 : decode prog_13_method_21_code 123 = .ok (.iconst 0, 1) := by decide +kernel
theorem d_Mo_tellFar_124 : decode prog_13_method_21_code 124 = .ok (.iload_n 3, 1) := by decide +kernel
theorem d_Mo_tellFar_125 : decode prog_13_method_21_code 125 = .ok (.iastore, 1) := by decide +kernel
theorem d_Mo_tellFar_126 : decode prog_13_method_21_code 126 = .ok (.iload_n 1, 1) := by decide +kernel
theorem d_Mo_tellFar_127 : decode prog_13_method_21_code 127 = .ok (.iconst 1, 1) := by decide +kernel
theorem d_Mo_tellFar_128 : decode prog_13_method_21_code 128 = .ok (.if_icmp .ne 8, 3) := by decide +kernel
theorem d_Mo_tellFar_131 : decode prog_13_method_21_code 131 = .ok (.bipush 7, 2) := by decide +kernel
theorem d_Mo_tellFar_133 : decode prog_13_method_21_code 133 = .ok (.goto 15, 3) := by decide +kernel
theorem d_Mo_tellFar_136 : decode prog_13_method_21_code 136 = .ok (.iload_n 1, 1) := by decide +kernel
theorem d_Mo_tellFar_137 : decode prog_13_method_21_code 137 = .ok (.iconst 2, 1) := by decide +kernel
theorem d_Mo_tellFar_138 : decode prog_13_method_21_code 138 = .ok (.if_icmp .ne 8, 3) := by decide +kernel
theorem d_Mo_tellFar_141 : decode prog_13_method_21_code 141 = .ok (.bipush 8, 2) := by decide +kernel
theorem d_Mo_tellFar_143 : decode prog_13_method_21_code 143 = .ok (.goto 5, 3) := by decide +kernel
theorem d_Mo_tellFar_146 : decode prog_13_method_21_code 146 = .ok (.bipush 9, 2) := by decide +kernel
theorem d_Mo_tellFar_148 : decode prog_13_method_21_code 148 = .ok (.istore 5, 2) := by decide +kernel
theorem d_Mo_tellFar_150 : decode prog_13_method_21_code 150 = .ok (.iload_n 1, 1) := by decide +kernel
theorem d_Mo_tellFar_151 : decode prog_13_method_21_code 151 = .ok (.iconst 1, 1) := by decide +kernel
theorem d_Mo_tellFar_152 : decode prog_13_method_21_code 152 = .ok (.if_icmp .ne 8, 3) := by decide +kernel
theorem d_Mo_tellFar_155 : decode prog_13_method_21_code 155 = .ok (.bipush 10, 2) := by decide +kernel
theorem d_Mo_tellFar_157 : decode prog_13_method_21_code 157 = .ok (.goto 5, 3) := by decide +kernel
theorem d_Mo_tellFar_160 : decode prog_13_method_21_code 160 = .ok (.bipush 11, 2) := by decide +kernel
theorem d_Mo_tellFar_162 : decode prog_13_method_21_code 162 = .ok (.istore 6, 2) := by decide +kernel
theorem d_Mo_tellFar_164 : decode prog_13_method_21_code 164 = .ok (.aload_n 0, 1) := by decide +kernel
theorem d_Mo_tellFar_165 : decode prog_13_method_21_code 165 = .ok (.aload_n 0, 1) := by decide +kernel
theorem d_Mo_tellFar_166 : decode prog_13_method_21_code 166 = .ok (.getfield 82, 3) := by decide +kernel
theorem d_Mo_tellFar_169 : decode prog_13_method_21_code 169 = .ok (.bipush 7, 2) := by decide +kernel
theorem d_Mo_tellFar_171 : decode prog_13_method_21_code 171 = .ok (.if_icmp .ge 8, 3) := by decide +kernel
theorem d_Mo_tellFar_174 : decode prog_13_method_21_code 174 = .ok (.iload 5, 2) := by decide +kernel
theorem d_Mo_tellFar_176 : decode prog_13_method_21_code 176 = .ok (.goto 5, 3) := by decide +kernel
theorem d_Mo_tellFar_179 : decode prog_13_method_21_code 179 = .ok (.iload 6, 2) := by decide +kernel
theorem d_Mo_tellFar_181 : decode prog_13_method_21_code 181 = .ok (.putfield 82, 3) := by decide +kernel
theorem d_Mo_tellFar_184 : decode prog_13_method_21_code 184 = .ok (.return_, 1) := by decide +kernel
theorem d_Mo_packet0_0 : decode prog_13_method_22_code 0 = .ok (.aload_n 0, 1) := by decide +kernel
theorem d_Mo_packet0_1 : decode prog_13_method_22_code 1 = .ok (.aload_n 0, 1) := by decide +kernel
theorem d_Mo_packet0_2 : decode prog_13_method_22_code 2 = .ok (.getfield 82, 3) := by decide +kernel
theorem d_Mo_packet0_5 : decode prog_13_method_22_code 5 = .ok (.aload_n 0, 1) := by decide +kernel
theorem d_Mo_packet0_6 : decode prog_13_method_22_code 6 = .ok (.getfield 139, 3) := by decide +kernel
theorem d_Mo_packet0_9 : decode prog_13_method_22_code 9 = .ok (.ifCond .ne 7, 3) := by decide +kernel
theorem d_Mo_packet0_12 : decode prog_13_method_22_code 12 = .ok (.iconst 0, 1) := by decide +kernel
theorem d_Mo_packet0_13 : decode prog_13_method_22_code 13 = .ok (.goto 4, 3) := by decide +kernel
theorem d_Mo_packet0_16 : decode prog_13_method_22_code 16 = .ok (.iconst 1, 1) := by decide +kernel
theorem d_Mo_packet0_17 : decode prog_13_method_22_code 17 = .ok (.invokevirtual 116, 3) := by decide +kernel
theorem d_Mo_packet0_20 : decode prog_13_method_22_code 20 = .ok (.ifCond .ne 28, 3) := by decide +kernel
theorem d_Mo_packet0_23 : decode prog_13_method_22_code 23 = .ok (.aload_n 0, 1) := by decide +kernel
theorem d_Mo_packet0_24 : decode prog_13_method_22_code 24 = .ok (.aload_n 0, 1) := by decide +kernel
theorem d_Mo_packet0_25 : decode prog_13_method_22_code 25 = .ok (.aload_n 0, 1) := by decide +kernel
theorem d_Mo_packet0_26 : decode prog_13_method_22_code 26 = .ok (.getfield 142, 3) := by decide +kernel
theorem d_Mo_packet0_29 : decode prog_13_method_22_code 29 = .ok (.invokevirtual 145, 3) := by decide +kernel
theorem d_Mo_packet0_32 : decode prog_13_method_22_code 32 = .ok (.invokevirtual 148, 3) := by decide +kernel
theorem d_Mo_packet0_35 : decode prog_13_method_22_code 35 = .ok (.aload_n 0, 1) := by decide +kernel
theorem d_Mo_packet0_36 : decode prog_13_method_22_code 36 = .ok (.getfield 70, 3) := by decide +kernel
theorem d_Mo_packet0_39 : decode prog_13_method_22_code 39 = .ok (.ifCond .ne 7, 3) := by decide +kernel
theorem d_Mo_packet0_42 : decode prog_13_method_22_code 42 = .ok (.iconst 1, 1) := by decide +kernel
theorem d_Mo_packet0_43 : decode prog_13_method_22_code 43 = .ok (.goto 4, 3) := by decide +kernel
theorem d_Mo_packet0_46 : decode prog_13_method_22_code 46 = .ok (.iconst 0, 1) := by decide +kernel
theorem d_Mo_packet0_47 : decode prog_13_method_22_code 47 = .ok (.ireturn, 1) := by decide +kernel
theorem d_Mo_packet0_48 : decode prog_13_method_22_code 48 = .ok (.aload_n 0, 1) := by decide +kernel
theorem d_Mo_packet0_49 : decode prog_13_method_22_code 49 = .ok (.bipush 12, 2) := by decide +kernel
theorem d_Mo_packet0_51 : decode prog_13_method_22_code 51 = .ok (.aload_n 0, 1) := by decide +kernel
theorem d_Mo_packet0_52 : decode prog_13_method_22_code 52 = .ok (.getfield 82, 3) := by decide +kernel
theorem d_Mo_packet0_55 : decode prog_13_method_22_code 55 = .ok (.iadd, 1) := by decide +kernel
theorem d_Mo_packet0_56 : decode prog_13_method_22_code 56 = .ok (.aload_n 0, 1) := by decide +kernel
theorem d_Mo_packet0_57 : decode prog_13_method_22_code 57 = .ok (.getfield 139, 3) := by decide +kernel
theorem d_Mo_packet0_60 : decode prog_13_method_22_code 60 = .ok (.iconst 1, 1) := by decide +kernel
theorem d_Mo_packet0_61 : decode prog_13_method_22_code 61 = .ok (.if_icmp .le 7, 3) := by decide +kernel
theorem d_Mo_packet0_64 : decode prog_13_method_22_code 64 = .ok (.iconst 1, 1) := by decide +kernel
theorem d_Mo_packet0_65 : decode prog_13_method_22_code 65 = .ok (.goto 4, 3) := by decide +kernel
theorem d_Mo_packet0_68 : decode prog_13_method_22_code 68 = .ok (.iconst 0, 1) := by decide +kernel
theorem d_Mo_packet0_69 : decode prog_13_method_22_code 69 = .ok (.invokevirtual 116, 3) := by decide +kernel
theorem d_Mo_packet0_72 : decode prog_13_method_22_code 72 = .ok (.ifCond .ne 60, 3) := by decide +kernel
theorem d_Mo_packet0_75 : decode prog_13_method_22_code 75 = .ok (.aload_n 0, 1) := by decide +kernel
theorem d_Mo_packet0_76 : decode prog_13_method_22_code 76 = .ok (.iconst 0, 1) := by decide +kernel
theorem d_Mo_packet0_77 : decode prog_13_method_22_code 77 = .ok (.aload_n 0, 1) := by decide +kernel
theorem d_Mo_packet0_78 : decode prog_13_method_22_code 78 = .ok (.getfield 151, 3) := by decide +kernel
theorem d_Mo_packet0_81 : decode prog_13_method_22_code 81 = .ok (.iconst 2, 1) := by decide +kernel
theorem d_Mo_packet0_82 : decode prog_13_method_22_code 82 = .ok (.isub, 1) := by decide +kernel
theorem d_Mo_packet0_83 : decode prog_13_method_22_code 83 = .ok (.invokevirtual 154, 3) := by decide +kernel
theorem d_Mo_packet0_86 : decode prog_13_method_22_code 86 = .ok (.istore_n 1, 1) := by decide +kernel
theorem d_Mo_packet0_87 : decode prog_13_method_22_code 87 = .ok (.aload_n 0, 1) := by decide +kernel
theorem d_Mo_packet0_88 : decode prog_13_method_22_code 88 = .ok (.iload_n 1, 1) := by decide +kernel
theorem d_Mo_packet0_89 : decode prog_13_method_22_code 89 = .ok (.aload_n 0, 1) := by decide +kernel
theorem d_Mo_packet0_90 : decode prog_13_method_22_code 90 = .ok (.getfield 142, 3) := by decide +kernel
theorem d_Mo_packet0_93 : decode prog_13_method_22_code 93 = .ok (.iconst 1, 1) := by decide +kernel
theorem d_Mo_packet0_94 : decode prog_13_method_22_code 94 = .ok (.isub, 1) := by decide +kernel
theorem d_Mo_packet0_95 : decode prog_13_method_22_code 95 = .ok (.invokevirtual 157, 3) := by decide +kernel
theorem d_Mo_packet0_98 : decode prog_13_method_22_code 98 = .ok (.istore_n 2, 1) := by decide +kernel
theorem d_Mo_packet0_99 : decode prog_13_method_22_code 99 = .ok (.iload_n 2, 1) := by decide +kernel
theorem d_Mo_packet0_100 : decode prog_13_method_22_code 100 = .ok (.ifCond .lt 15, 3) := by decide +kernel
theorem d_Mo_packet0_103 : decode prog_13_method_22_code 103 = .ok (.aload_n 0, 1) := by decide +kernel
theorem d_Mo_packet0_104 : decode prog_13_method_22_code 104 = .ok (.iconst 1, 1) := by decide +kernel
theorem d_Mo_packet0_105 : decode prog_13_method_22_code 105 = .ok (.iload_n 1, 1) := by decide +kernel
theorem d_Mo_packet0_106 : decode prog_13_method_22_code 106 = .ok (.iconst 2, 1) := by decide +kernel
theorem d_Mo_packet0_107 : decode prog_13_method_22_code 107 = .ok (.iadd, 1) := by decide +kernel
theorem d_Mo_packet0_108 : decode prog_13_method_22_code 108 = .ok (.iload_n 2, 1) := by decide +kernel
theorem d_Mo_packet0_109 : decode prog_13_method_22_code 109 = .ok (.iconst 1, 1) := by decide +kernel
theorem d_Mo_packet0_110 : decode prog_13_method_22_code 110 = .ok (.iadd, 1) := by decide +kernel
theorem d_Mo_packet0_111 : decode prog_13_method_22_code 111 = .ok (.iconst 3, 1) := by decide +kernel
theorem d_Mo_packet0_112 : decode prog_13_method_22_code 112 = .ok (.invokevirtual 160, 3) := by decide +kernel
theorem d_Mo_packet0_115 : decode prog_13_method_22_code 115 = .ok (.iload_n 2, 1) := by decide +kernel
theorem d_Mo_packet0_116 : decode prog_13_method_22_code 116 = .ok (.ifCond .lt 14, 3) := by decide +kernel
theorem d_Mo_packet0_119 : decode prog_13_method_22_code 119 = .ok (.aload_n 0, 1) := by decide +kernel
theorem d_Mo_packet0_120 : decode prog_13_method_22_code 120 = .ok (.getfield 70, 3) := by decide +kernel
theorem d_Mo_packet0_123 : decode prog_13_method_22_code 123 = .ok (.ifCond .ne 7, 3) := by decide +kernel
theorem d_Mo_packet0_126 : decode prog_13_method_22_code 126 = .ok (.iconst 1, 1) := by decide +kernel
theorem d_Mo_packet0_127 : decode prog_13_method_22_code 127 = .ok (.goto 4, 3) := by decide +kernel
theorem d_Mo_packet0_130 : decode prog_13_method_22_code 130 = .ok (.iconst 0, 1) := by decide +kernel
theorem d_Mo_packet0_131 : decode prog_13_method_22_code 131 = .ok (.ireturn, 1) := by decide +kernel
theorem d_Mo_packet0_132 : decode prog_13_method_22_code 132 = .ok (.aload_n 0, 1) := by decide +kernel
theorem d_Mo_packet0_133 : decode prog_13_method_22_code 133 = .ok (.aload_n 0, 1) := by decide +kernel
theorem d_Mo_packet0_134 : decode prog_13_method_22_code 134 = .ok (.getfield 139, 3) := by decide +kernel
theorem d_Mo_packet0_137 : decode prog_13_method_22_code 137 = .ok (.iconst 3, 1) := by decide +kernel
theorem d_Mo_packet0_138 : decode prog_13_method_22_code 138 = .ok (.if_icmp .ne 7, 3) := by decide +kernel
theorem d_Mo_packet0_141 : decode prog_13_method_22_code 141 = .ok (.iconst (-1), 1) := by decide +kernel
theorem d_Mo_packet0_142 : decode prog_13_method_22_code 142 = .ok (.goto 7, 3) := by decide +kernel
theorem d_Mo_packet0_145 : decode prog_13_method_22_code 145 = .ok (.aload_n 0, 1) := by decide +kernel
theorem d_Mo_packet0_146 : decode prog_13_method_22_code 146 = .ok (.getfield 164, 3) := by decide +kernel
theorem d_Mo_packet0_149 : decode prog_13_method_22_code 149 = .ok (.invokevirtual 167, 3) := by decide +kernel
theorem d_Mo_packet0_152 : decode prog_13_method_22_code 152 = .ok (.istore_n 1, 1) := by decide +kernel
end
section
theorem d_Mo_packet0_153 : decode prog_13_method_22_code 153 = .ok (.iload_n 1, 1) := by decide +kernel
theorem d_Mo_packet0_154 : decode prog_13_method_22_code 154 = .ok (.ifCond .ge 7, 3) := by decide +kernel
theorem d_Mo_packet0_157 : decode prog_13_method_22_code 157 = .ok (.iconst 1, 1) := by decide +kernel
theorem d_Mo_packet0_158 : decode prog_13_method_22_code 158 = .ok (.goto 16, 3) := by decide +kernel
theorem d_Mo_packet0_161 : decode prog_13_method_22_code 161 = .ok (.iconst 2, 1) := by decide +kernel
theorem d_Mo_packet0_162 : decode prog_13_method_22_code 162 = .ok (.aload_n 0, 1) := by decide +kernel
theorem d_Mo_packet0_163 : decode prog_13_method_22_code 163 = .ok (.iconst 1, 1) := by decide +kernel
theorem d_Mo_packet0_164 : decode prog_13_method_22_code 164 = .ok (.aload_n 0, 1) := by decide +kernel
theorem d_Mo_packet0_165 : decode prog_13_method_22_code 165 = .ok (.getfield 151, 3) := by decide +kernel
theorem d_Mo_packet0_168 : decode prog_13_method_22_code 168 = .ok (.iconst 2, 1) := by decide +kernel
theorem d_Mo_packet0_169 : decode prog_13_method_22_code 169 = .ok (.isub, 1) := by decide +kernel
theorem d_Mo_packet0_170 : decode prog_13_method_22_code 170 = .ok (.invokevirtual 154, 3) := by decide +kernel
theorem d_Mo_packet0_173 : decode prog_13_method_22_code 173 = .ok (.iadd, 1) := by decide +kernel
theorem d_Mo_packet0_174 : decode prog_13_method_22_code 174 = .ok (.istore_n 2, 1) := by decide +kernel
theorem d_Mo_packet0_175 : decode prog_13_method_22_code 175 = .ok (.aload_n 0, 1) := by decide +kernel
theorem d_Mo_packet0_176 : decode prog_13_method_22_code 176 = .ok (.iload_n 1, 1) := by decide +kernel
theorem d_Mo_packet0_177 : decode prog_13_method_22_code 177 = .ok (.ifCond .ge 7, 3) := by decide +kernel
theorem d_Mo_packet0_180 : decode prog_13_method_22_code 180 = .ok (.iconst 3, 1) := by decide +kernel
theorem d_Mo_packet0_181 : decode prog_13_method_22_code 181 = .ok (.goto 4, 3) := by decide +kernel
theorem d_Mo_packet0_184 : decode prog_13_method_22_code 184 = .ok (.iconst 2, 1) := by decide +kernel
theorem d_Mo_packet0_185 : decode prog_13_method_22_code 185 = .ok (.iload_n 2, 1) := by decide +kernel
theorem d_Mo_packet0_186 : decode prog_13_method_22_code 186 = .ok (.aload_n 0, 1) := by decide +kernel
theorem d_Mo_packet0_187 : decode prog_13_method_22_code 187 = .ok (.getfield 40, 3) := by decide +kernel
theorem d_Mo_packet0_190 : decode prog_13_method_22_code 190 = .ok (.iload_n 1, 1) := by decide +kernel
theorem d_Mo_packet0_191 : decode prog_13_method_22_code 191 = .ok (.ifCond .ge 7, 3) := by decide +kernel
theorem d_Mo_packet0_194 : decode prog_13_method_22_code 194 = .ok (.iconst 0, 1) := by decide +kernel
theorem d_Mo_packet0_195 : decode prog_13_method_22_code 195 = .ok (.goto 4, 3) := by decide +kernel
theorem d_Mo_packet0_198 : decode prog_13_method_22_code 198 = .ok (.iload_n 1, 1) := by decide +kernel
theorem d_Mo_packet0_199 : decode prog_13_method_22_code 199 = .ok (.iaload, 1) := by decide +kernel
theorem d_Mo_packet0_200 : decode prog_13_method_22_code 200 = .ok (.iload_n 1, 1) := by decide +kernel
theorem d_Mo_packet0_201 : decode prog_13_method_22_code 201 = .ok (.ifCond .ge 7, 3) := by decide +kernel
theorem d_Mo_packet0_204 : decode prog_13_method_22_code 204 = .ok (.iconst 0, 1) := by decide +kernel
theorem d_Mo_packet0_205 : decode prog_13_method_22_code 205 = .ok (.goto 4, 3) := by decide +kernel
theorem d_Mo_packet0_208 : decode prog_13_method_22_code 208 = .ok (.iload_n 1, 1) := by decide +kernel
theorem d_Mo_packet0_209 : decode prog_13_method_22_code 209 = .ok (.invokevirtual 160, 3) := by decide +kernel
theorem d_Mo_packet0_212 : decode prog_13_method_22_code 212 = .ok (.aload_n 0, 1) := by decide +kernel
theorem d_Mo_packet0_213 : decode prog_13_method_22_code 213 = .ok (.getfield 70, 3) := by decide +kernel
theorem d_Mo_packet0_216 : decode prog_13_method_22_code 216 = .ok (.ifCond .ne 7, 3) := by decide +kernel
theorem d_Mo_packet0_219 : decode prog_13_method_22_code 219 = .ok (.iconst 1, 1) := by decide +kernel
theorem d_Mo_packet0_220 : decode prog_13_method_22_code 220 = .ok (.goto 4, 3) := by decide +kernel
theorem d_Mo_packet0_223 : decode prog_13_method_22_code 223 = .ok (.iconst 0, 1) := by decide +kernel
theorem d_Mo_packet0_224 : decode prog_13_method_22_code 224 = .ok (.ireturn, 1) := by decide +kernel
theorem d_Mo_agree_0 : decode prog_13_method_23_code 0 = .ok (.iconst 0, 1) := by decide +kernel
theorem d_Mo_agree_1 : decode prog_13_method_23_code 1 = .ok (.istore_n 3, 1) := by decide +kernel
theorem d_Mo_agree_2 : decode prog_13_method_23_code 2 = .ok (.iload_n 2, 1) := by decide +kernel
theorem d_Mo_agree_3 : decode prog_13_method_23_code 3 = .ok (.iload_n 3, 1) := by decide +kernel
theorem d_Mo_agree_4 : decode prog_13_method_23_code 4 = .ok (.iadd, 1) := by decide +kernel
theorem d_Mo_agree_5 : decode prog_13_method_23_code 5 = .ok (.aload_n 0, 1) := by decide +kernel
theorem d_Mo_agree_6 : decode prog_13_method_23_code 6 = .ok (.getfield 63, 3) := by decide +kernel
theorem d_Mo_agree_9 : decode prog_13_method_23_code 9 = .ok (.if_icmp .ge 28, 3) := by decide +kernel
theorem d_Mo_agree_12 : decode prog_13_method_23_code 12 = .ok (.aload_n 0, 1) := by decide +kernel
theorem d_Mo_agree_13 : decode prog_13_method_23_code 13 = .ok (.getfield 7, 3) := by decide +kernel
theorem d_Mo_agree_16 : decode prog_13_method_23_code 16 = .ok (.iload_n 1, 1) := by decide +kernel
theorem d_Mo_agree_17 : decode prog_13_method_23_code 17 = .ok (.iload_n 3, 1) := by decide +kernel
theorem d_Mo_agree_18 : decode prog_13_method_23_code 18 = .ok (.iadd, 1) := by decide +kernel
theorem d_Mo_agree_19 : decode prog_13_method_23_code 19 = .ok (.iaload, 1) := by decide +kernel
theorem d_Mo_agree_20 : decode prog_13_method_23_code 20 = .ok (.aload_n 0, 1) := by decide +kernel
theorem d_Mo_agree_21 : decode prog_13_method_23_code 21 = .ok (.getfield 7, 3) := by decide +kernel
theorem d_Mo_agree_24 : decode prog_13_method_23_code 24 = .ok (.iload_n 2, 1) := by decide +kernel
theorem d_Mo_agree_25 : decode prog_13_method_23_code 25 = .ok (.iload_n 3, 1) := by decide +kernel
theorem d_Mo_agree_26 : decode prog_13_method_23_code 26 = .ok (.iadd, 1) := by decide +kernel
theorem d_Mo_agree_27 : decode prog_13_method_23_code 27 = .ok (.iaload, 1) := by decide +kernel
theorem d_Mo_agree_28 : decode prog_13_method_23_code 28 = .ok (.if_icmp .ne 9, 3) := by decide +kernel
theorem d_Mo_agree_31 : decode prog_13_method_23_code 31 = .ok (.iinc 3 1, 3) := by decide +kernel
theorem d_Mo_agree_34 : decode prog_13_method_23_code 34 = .ok (.goto (-32), 3) := by decide +kernel
theorem d_Mo_agree_37 : decode prog_13_method_23_code 37 = .ok (.iload_n 3, 1) := by decide +kernel
theorem d_Mo_agree_38 : decode prog_13_method_23_code 38 = .ok (.ireturn, 1) := by decide +kernel
theorem d_Mo_choose_0 : decode prog_13_method_24_code 0 = .ok (.aload_n 0, 1) := by decide +kernel
theorem d_Mo_choose_1 : decode prog_13_method_24_code 1 = .ok (.getfield 79, 3) := by decide +kernel
theorem d_Mo_choose_4 : decode prog_13_method_24_code 4 = .ok (.istore_n 1, 1) := by decide +kernel
theorem d_Mo_choose_5 : decode prog_13_method_24_code 5 = .ok (.iconst 0, 1) := by decide +kernel
theorem d_Mo_choose_6 : decode prog_13_method_24_code 6 = .ok (.istore_n 2, 1) := by decide +kernel
theorem d_Mo_choose_7 : decode prog_13_method_24_code 7 = .ok (.iconst 0, 1) := by decide +kernel
theorem d_Mo_choose_8 : decode prog_13_method_24_code 8 = .ok (.istore_n 3, 1) := by decide +kernel
theorem d_Mo_choose_9 : decode prog_13_method_24_code 9 = .ok (.iconst 0, 1) := by decide +kernel
theorem d_Mo_choose_10 : decode prog_13_method_24_code 10 = .ok (.istore 4, 2) := by decide +kernel
theorem d_Mo_choose_12 : decode prog_13_method_24_code 12 = .ok (.iload_n 1, 1) := by decide +kernel
theorem d_Mo_choose_13 : decode prog_13_method_24_code 13 = .ok (.iconst 1, 1) := by decide +kernel
theorem d_Mo_choose_14 : decode prog_13_method_24_code 14 = .ok (.isub, 1) := by decide +kernel
theorem d_Mo_choose_15 : decode prog_13_method_24_code 15 = .ok (.istore 5, 2) := by decide +kernel
theorem d_Mo_choose_17 : decode prog_13_method_24_code 17 = .ok (.iload 5, 2) := by decide +kernel
theorem d_Mo_choose_19 : decode prog_13_method_24_code 19 = .ok (.ifCond .lt 84, 3) := by decide +kernel
theorem d_Mo_choose_22 : decode prog_13_method_24_code 22 = .ok (.iload 4, 2) := by decide +kernel
theorem d_Mo_choose_24 : decode prog_13_method_24_code 24 = .ok (.aload_n 0, 1) := by decide +kernel
theorem d_Mo_choose_25 : decode prog_13_method_24_code 25 = .ok (.getfield 52, 3) := by decide +kernel
theorem d_Mo_choose_28 : decode prog_13_method_24_code 28 = .ok (.if_icmp .ge 75, 3) := by decide +kernel
theorem d_Mo_choose_31 : decode prog_13_method_24_code 31 = .ok (.aload_n 0, 1) := by decide +kernel
theorem d_Mo_choose_32 : decode prog_13_method_24_code 32 = .ok (.iload 5, 2) := by decide +kernel
theorem d_Mo_choose_34 : decode prog_13_method_24_code 34 = .ok (.iload_n 1, 1) := by decide +kernel
theorem d_Mo_choose_35 : decode prog_13_method_24_code 35 = .ok (.invokevirtual 170, 3) := by decide +kernel
theorem d_Mo_choose_38 : decode prog_13_method_24_code 38 = .ok (.istore 6, 2) := by decide +kernel
theorem d_Mo_choose_40 : decode prog_13_method_24_code 40 = .ok (.iload 6, 2) := by decide +kernel
theorem d_Mo_choose_42 : decode prog_13_method_24_code 42 = .ok (.iconst 2, 1) := by decide +kernel
theorem d_Mo_choose_43 : decode prog_13_method_24_code 43 = .ok (.if_icmp .lt 10, 3) := by decide +kernel
theorem d_Mo_choose_46 : decode prog_13_method_24_code 46 = .ok (.iload 4, 2) := by decide +kernel
theorem d_Mo_choose_48 : decode prog_13_method_24_code 48 = .ok (.iconst 1, 1) := by decide +kernel
theorem d_Mo_choose_49 : decode prog_13_method_24_code 49 = .ok (.iadd, 1) := by decide +kernel
theorem d_Mo_choose_50 : decode prog_13_method_24_code 50 = .ok (.goto 5, 3) := by decide +kernel
theorem d_Mo_choose_53 : decode prog_13_method_24_code 53 = .ok (.iload 4, 2) := by decide +kernel
theorem d_Mo_choose_55 : decode prog_13_method_24_code 55 = .ok (.istore 4, 2) := by decide +kernel
theorem d_Mo_choose_57 : decode prog_13_method_24_code 57 = .ok (.iload 6, 2) := by decide +kernel
theorem d_Mo_choose_59 : decode prog_13_method_24_code 59 = .ok (.iconst 2, 1) := by decide +kernel
theorem d_Mo_choose_60 : decode prog_13_method_24_code 60 = .ok (.if_icmp .lt 16, 3) := by decide +kernel
theorem d_Mo_choose_63 : decode prog_13_method_24_code 63 = .ok (.iload 6, 2) := by decide +kernel
theorem d_Mo_choose_65 : decode prog_13_method_24_code 65 = .ok (.iload_n 2, 1) := by decide +kernel
theorem d_Mo_choose_66 : decode prog_13_method_24_code 66 = .ok (.if_icmp .le 10, 3) := by decide +kernel
theorem d_Mo_choose_69 : decode prog_13_method_24_code 69 = .ok (.iload_n 1, 1) := by decide +kernel
theorem d_Mo_choose_70 : decode prog_13_method_24_code 70 = .ok (.iload 5, 2) := by decide +kernel
theorem d_Mo_choose_72 : decode prog_13_method_24_code 72 = .ok (.isub, 1) := by decide +kernel
theorem d_Mo_choose_73 : decode prog_13_method_24_code 73 = .ok (.goto 4, 3) := by decide +kernel
theorem d_Mo_choose_76 : decode prog_13_method_24_code 76 = .ok (.iload_n 3, 1) := by decide +kernel
theorem d_Mo_choose_77 : decode prog_13_method_24_code 77 = .ok (.istore_n 3, 1) := by decide +kernel
theorem d_Mo_choose_78 : decode prog_13_method_24_code 78 = .ok (.iload 6, 2) := by decide +kernel
theorem d_Mo_choose_80 : decode prog_13_method_24_code 80 = .ok (.iconst 2, 1) := by decide +kernel
theorem d_Mo_choose_81 : decode prog_13_method_24_code 81 = .ok (.if_icmp .lt 14, 3) := by decide +kernel
theorem d_Mo_choose_84 : decode prog_13_method_24_code 84 = .ok (.iload 6, 2) := by decide +kernel
theorem d_Mo_choose_86 : decode prog_13_method_24_code 86 = .ok (.iload_n 2, 1) := by decide +kernel
theorem d_Mo_choose_87 : decode prog_13_method_24_code 87 = .ok (.if_icmp .le 8, 3) := by decide +kernel
theorem d_Mo_choose_90 : decode prog_13_method_24_code 90 = .ok (.iload 6, 2) := by decide +kernel
theorem d_Mo_choose_92 : decode prog_13_method_24_code 92 = .ok (.goto 4, 3) := by decide +kernel
theorem d_Mo_choose_95 : decode prog_13_method_24_code 95 = .ok (.iload_n 2, 1) := by decide +kernel
theorem d_Mo_choose_96 : decode prog_13_method_24_code 96 = .ok (.istore_n 2, 1) := by decide +kernel
theorem d_Mo_choose_97 : decode prog_13_method_24_code 97 = .ok (.iinc 5 (-1), 3) := by decide +kernel
theorem d_Mo_choose_100 : decode prog_13_method_24_code 100 = .ok (.goto (-83), 3) := by decide +kernel
theorem d_Mo_choose_103 : decode prog_13_method_24_code 103 = .ok (.iconst 0, 1) := by decide +kernel
theorem d_Mo_choose_104 : decode prog_13_method_24_code 104 = .ok (.istore 5, 2) := by decide +kernel
theorem d_Mo_choose_106 : decode prog_13_method_24_code 106 = .ok (.aload_n 0, 1) := by decide +kernel
theorem d_Mo_choose_107 : decode prog_13_method_24_code 107 = .ok (.iconst 0, 1) := by decide +kernel
theorem d_Mo_choose_108 : decode prog_13_method_24_code 108 = .ok (.putfield 164, 3) := by decide +kernel
theorem d_Mo_choose_111 : decode prog_13_method_24_code 111 = .ok (.iconst 0, 1) := by decide +kernel
theorem d_Mo_choose_112 : decode prog_13_method_24_code 112 = .ok (.istore 6, 2) := by decide +kernel
theorem d_Mo_choose_114 : decode prog_13_method_24_code 114 = .ok (.iload 6, 2) := by decide +kernel
theorem d_Mo_choose_116 : decode prog_13_method_24_code 116 = .ok (.iconst 4, 1) := by decide +kernel
theorem d_Mo_choose_117 : decode prog_13_method_24_code 117 = .ok (.if_icmp .ge 76, 3) := by decide +kernel
theorem d_Mo_choose_120 : decode prog_13_method_24_code 120 = .ok (.aload_n 0, 1) := by decide +kernel
theorem d_Mo_choose_121 : decode prog_13_method_24_code 121 = .ok (.getfield 40, 3) := by decide +kernel
theorem d_Mo_choose_124 : decode prog_13_method_24_code 124 = .ok (.iload 6, 2) := by decide +kernel
theorem d_Mo_choose_126 : decode prog_13_method_24_code 126 = .ok (.iaload, 1) := by decide +kernel
theorem d_Mo_choose_127 : decode prog_13_method_24_code 127 = .ok (.iload_n 1, 1) := by decide +kernel
theorem d_Mo_choose_128 : decode prog_13_method_24_code 128 = .ok (.if_icmp .gt 20, 3) := by decide +kernel
theorem d_Mo_choose_131 : decode prog_13_method_24_code 131 = .ok (.aload_n 0, 1) := by decide +kernel
theorem d_Mo_choose_132 : decode prog_13_method_24_code 132 = .ok (.iload_n 1, 1) := by decide +kernel
theorem d_Mo_choose_133 : decode prog_13_method_24_code 133 = .ok (.aload_n 0, 1) := by decide +kernel
theorem d_Mo_choose_134 : decode prog_13_method_24_code 134 = .ok (.getfield 40, 3) := by decide +kernel
theorem d_Mo_choose_137 : decode prog_13_method_24_code 137 = .ok (.iload 6, 2) := by decide +kernel
theorem d_Mo_choose_139 : decode prog_13_method_24_code 139 = .ok (.iaload, 1) := by decide +kernel
theorem d_Mo_choose_140 : decode prog_13_method_24_code 140 = .ok (.isub, 1) := by decide +kernel
theorem d_Mo_choose_141 : decode prog_13_method_24_code 141 = .ok (.iload_n 1, 1) := by decide +kernel
theorem d_Mo_choose_142 : decode prog_13_method_24_code 142 = .ok (.invokevirtual 170, 3) := by decide +kernel
theorem d_Mo_choose_145 : decode prog_13_method_24_code 145 = .ok (.goto 4, 3) := by decide +kernel
theorem d_Mo_choose_148 : decode prog_13_method_24_code 148 = .ok (.iconst 0, 1) := by decide +kernel
theorem d_Mo_choose_149 : decode prog_13_method_24_code 149 = .ok (.istore 7, 2) := by decide +kernel
theorem d_Mo_choose_151 : decode prog_13_method_24_code 151 = .ok (.aload_n 0, 1) := by decide +kernel
theorem d_Mo_choose_152 : decode prog_13_method_24_code 152 = .ok (.iload 7, 2) := by decide +kernel
theorem d_Mo_choose_154 : decode prog_13_method_24_code 154 = .ok (.iload 5, 2) := by decide +kernel
theorem d_Mo_choose_156 : decode prog_13_method_24_code 156 = .ok (.if_icmp .le 8, 3) := by decide +kernel
theorem d_Mo_choose_159 : decode prog_13_method_24_code 159 = .ok (.iload 6, 2) := by decide +kernel
theorem d_Mo_choose_161 : decode prog_13_method_24_code 161 = .ok (.goto 7, 3) := by decide +kernel
theorem d_Mo_choose_164 : decode prog_13_method_24_code 164 = .ok (.aload_n 0, 1) := by decide +kernel
theorem d_Mo_choose_165 : decode prog_13_method_24_code 165 = .ok (.getfield 164, 3) := by decide +kernel
theorem d_Mo_choose_168 : decode prog_13_method_24_code 168 = .ok (.putfield 164, 3) := by decide +kernel
theorem d_Mo_choose_171 : decode prog_13_method_24_code 171 = .ok (.iload 7, 2) := by decide +kernel
theorem d_Mo_choose_173 : decode prog_13_method_24_code 173 = .ok (.iload 5, 2) := by decide +kernel
theorem d_Mo_choose_175 : decode prog_13_method_24_code 175 = .ok (.if_icmp .le 8, 3) := by decide +kernel
theorem d_Mo_choose_178 : decode prog_13_method_24_code 178 = .ok (.iload 7, 2) := by decide +kernel
theorem d_Mo_choose_180 : decode prog_13_method_24_code 180 = .ok (.goto 5, 3) := by decide +kernel
theorem d_Mo_choose_183 : decode prog_13_method_24_code 183 = .ok (.iload 5, 2) := by decide +kernel
theorem d_Mo_choose_185 : decode prog_13_method_24_code 185 = .ok (.istore 5, 2) := by decide +kernel
theorem d_Mo_choose_187 : decode prog_13_method_24_code 187 = .ok (.iinc 6 1, 3) := by decide +kernel
theorem d_Mo_choose_190 : decode prog_13_method_24_code 190 = .ok (.goto (-76), 3) := by decide +kernel
theorem d_Mo_choose_193 : decode prog_13_method_24_code 193 = .ok (.iload 5, 2) := by decide +kernel
theorem d_Mo_choose_195 : decode prog_13_method_24_code 195 = .ok (.iconst 2, 1) := by decide +kernel
theorem d_Mo_choose_196 : decode prog_13_method_24_code 196 = .ok (.if_icmp .lt 36, 3) := by decide +kernel
theorem d_Mo_choose_199 : decode prog_13_method_24_code 199 = .ok (.iload 5, 2) := by decide +kernel
theorem d_Mo_choose_201 : decode prog_13_method_24_code 201 = .ok (.iload_n 2, 1) := by decide +kernel
theorem d_Mo_choose_202 : decode prog_13_method_24_code 202 = .ok (.if_icmp .lt 30, 3) := by decide +kernel
theorem d_Mo_choose_205 : decode prog_13_method_24_code 205 = .ok (.aload_n 0, 1) := by decide +kernel
theorem d_Mo_choose_206 : decode prog_13_method_24_code 206 = .ok (.iconst 2, 1) := by decide +kernel
theorem d_Mo_choose_207 : decode prog_13_method_24_code 207 = .ok (.putfield 139, 3) := by decide +kernel
theorem d_Mo_choose_210 : decode prog_13_method_24_code 210 = .ok (.aload_n 0, 1) := by decide +kernel
theorem d_Mo_choose_211 : decode prog_13_method_24_code 211 = .ok (.iload 5, 2) := by decide +kernel
theorem d_Mo_choose_213 : decode prog_13_method_24_code 213 = .ok (.putfield 151, 3) := by decide +kernel
theorem d_Mo_choose_216 : decode prog_13_method_24_code 216 = .ok (.aload_n 0, 1) := by decide +kernel
theorem d_Mo_choose_217 : decode prog_13_method_24_code 217 = .ok (.aload_n 0, 1) := by decide +kernel
theorem d_Mo_choose_218 : decode prog_13_method_24_code 218 = .ok (.getfield 40, 3) := by decide +kernel
theorem d_Mo_choose_221 : decode prog_13_method_24_code 221 = .ok (.aload_n 0, 1) := by decide +kernel
theorem d_Mo_choose_222 : decode prog_13_method_24_code 222 = .ok (.getfield 164, 3) := by decide +kernel
theorem d_Mo_choose_225 : decode prog_13_method_24_code 225 = .ok (.iaload, 1) := by decide +kernel
theorem d_Mo_choose_226 : decode prog_13_method_24_code 226 = .ok (.putfield 142, 3) := by decide +kernel
theorem d_Mo_choose_229 : decode prog_13_method_24_code 229 = .ok (.goto 100, 3) := by decide +kernel
theorem d_Mo_choose_232 : decode prog_13_method_24_code 232 = .ok (.iload_n 2, 1) := by decide +kernel
theorem d_Mo_choose_233 : decode prog_13_method_24_code 233 = .ok (.ifCond .le 21, 3) := by decide +kernel
theorem d_Mo_choose_236 : decode prog_13_method_24_code 236 = .ok (.aload_n 0, 1) := by decide +kernel
theorem d_Mo_choose_237 : decode prog_13_method_24_code 237 = .ok (.iconst 1, 1) := by decide +kernel
theorem d_Mo_choose_238 : decode prog_13_method_24_code 238 = .ok (.putfield 139, 3) := by decide +kernel
theorem d_Mo_choose_241 : decode prog_13_method_24_code 241 = .ok (.aload_n 0, 1) := by decide +kernel
theorem d_Mo_choose_242 : decode prog_13_method_24_code 242 = .ok (.iload_n 2, 1) := by decide +kernel
theorem d_Mo_choose_243 : decode prog_13_method_24_code 243 = .ok (.putfield 151, 3) := by decide +kernel
theorem d_Mo_choose_246 : decode prog_13_method_24_code 246 = .ok (.aload_n 0, 1) := by decide +kernel
theorem d_Mo_choose_247 : decode prog_13_method_24_code 247 = .ok (.iload_n 3, 1) := by decide +kernel
theorem d_Mo_choose_248 : decode prog_13_method_24_code 248 = .ok (.putfield 142, 3) := by decide +kernel
theorem d_Mo_choose_251 : decode prog_13_method_24_code 251 = .ok (.goto 78, 3) := by decide +kernel
theorem d_Mo_choose_254 : decode prog_13_method_24_code 254 = .ok (.aload_n 0, 1) := by decide +kernel
theorem d_Mo_choose_255 : decode prog_13_method_24_code 255 = .ok (.getfield 40, 3) := by decide +kernel
theorem d_Mo_choose_258 : decode prog_13_method_24_code 258 = .ok (.iconst 0, 1) := by decide +kernel
theorem d_Mo_choose_259 : decode prog_13_method_24_code 259 = .ok (.iaload, 1) := by decide +kernel
theorem d_Mo_choose_260 : decode prog_13_method_24_code 260 = .ok (.iload_n 1, 1) := by decide +kernel
theorem d_Mo_choose_261 : decode prog_13_method_24_code 261 = .ok (.if_icmp .gt 48, 3) := by decide +kernel
theorem d_Mo_choose_264 : decode prog_13_method_24_code 264 = .ok (.aload_n 0, 1) := by decide +kernel
theorem d_Mo_choose_265 : decode prog_13_method_24_code 265 = .ok (.getfield 7, 3) := by decide +kernel
theorem d_Mo_choose_268 : decode prog_13_method_24_code 268 = .ok (.iload_n 1, 1) := by decide +kernel
theorem d_Mo_choose_269 : decode prog_13_method_24_code 269 = .ok (.aload_n 0, 1) := by decide +kernel
theorem d_Mo_choose_270 : decode prog_13_method_24_code 270 = .ok (.getfield 40, 3) := by decide +kernel
theorem d_Mo_choose_273 : decode prog_13_method_24_code 273 = .ok (.iconst 0, 1) := by decide +kernel
theorem d_Mo_choose_274 : decode prog_13_method_24_code 274 = .ok (.iaload, 1) := by decide +kernel
theorem d_Mo_choose_275 : decode prog_13_method_24_code 275 = .ok (.isub, 1) := by decide +kernel
theorem d_Mo_choose_276 : decode prog_13_method_24_code 276 = .ok (.iaload, 1) := by decide +kernel
theorem d_Mo_choose_277 : decode prog_13_method_24_code 277 = .ok (.aload_n 0, 1) := by decide +kernel
theorem d_Mo_choose_278 : decode prog_13_method_24_code 278 = .ok (.getfield 7, 3) := by decide +kernel
theorem d_Mo_choose_281 : decode prog_13_method_24_code 281 = .ok (.iload_n 1, 1) := by decide +kernel
theorem d_Mo_choose_282 : decode prog_13_method_24_code 282 = .ok (.iaload, 1) := by decide +kernel
theorem d_Mo_choose_283 : decode prog_13_method_24_code 283 = .ok (.if_icmp .ne 26, 3) := by decide +kernel
theorem d_Mo_choose_286 : decode prog_13_method_24_code 286 = .ok (.aload_n 0, 1) := by decide +kernel
theorem d_Mo_choose_287 : decode prog_13_method_24_code 287 = .ok (.iconst 3, 1) := by decide +kernel
theorem d_Mo_choose_288 : decode prog_13_method_24_code 288 = .ok (.putfield 139, 3) := by decide +kernel
theorem d_Mo_choose_291 : decode prog_13_method_24_code 291 = .ok (.aload_n 0, 1) := by decide +kernel
theorem d_Mo_choose_292 : decode prog_13_method_24_code 292 = .ok (.iconst 1, 1) := by decide +kernel
theorem d_Mo_choose_293 : decode prog_13_method_24_code 293 = .ok (.putfield 151, 3) := by decide +kernel
theorem d_Mo_choose_296 : decode prog_13_method_24_code 296 = .ok (.aload_n 0, 1) := by decide +kernel
theorem d_Mo_choose_297 : decode prog_13_method_24_code 297 = .ok (.aload_n 0, 1) := by decide +kernel
theorem d_Mo_choose_298 : decode prog_13_method_24_code 298 = .ok (.getfield 40, 3) := by decide +kernel
theorem d_Mo_choose_301 : decode prog_13_method_24_code 301 = .ok (.iconst 0, 1) := by decide +kernel
theorem d_Mo_choose_302 : decode prog_13_method_24_code 302 = .ok (.iaload, 1) := by decide +kernel
theorem d_Mo_choose_303 : decode prog_13_method_24_code 303 = .ok (.putfield 142, 3) := by decide +kernel
theorem d_Mo_choose_306 : decode prog_13_method_24_code 306 = .ok (.goto 23, 3) := by decide +kernel
theorem d_Mo_choose_309 : decode prog_13_method_24_code 309 = .ok (.aload_n 0, 1) := by decide +kernel
theorem d_Mo_choose_310 : decode prog_13_method_24_code 310 = .ok (.iconst 0, 1) := by decide +kernel
theorem d_Mo_choose_311 : decode prog_13_method_24_code 311 = .ok (.putfield 139, 3) := by decide +kernel
theorem d_Mo_choose_314 : decode prog_13_method_24_code 314 = .ok (.aload_n 0, 1) := by decide +kernel
theorem d_Mo_choose_315 : decode prog_13_method_24_code 315 = .ok (.iconst 1, 1) := by decide +kernel
theorem d_Mo_choose_316 : decode prog_13_method_24_code 316 = .ok (.putfield 151, 3) := by decide +kernel
theorem d_Mo_choose_319 : decode prog_13_method_24_code 319 = .ok (.aload_n 0, 1) := by decide +kernel
theorem d_Mo_choose_320 : decode prog_13_method_24_code 320 = .ok (.aload_n 0, 1) := by decide +kernel
theorem d_Mo_choose_321 : decode prog_13_method_24_code 321 = .ok (.getfield 7, 3) := by decide +kernel
theorem d_Mo_choose_324 : decode prog_13_method_24_code 324 = .ok (.iload_n 1, 1) := by decide +kernel
theorem d_Mo_choose_325 : decode prog_13_method_24_code 325 = .ok (.iaload, 1) := by decide +kernel
theorem d_Mo_choose_326 : decode prog_13_method_24_code 326 = .ok (.putfield 142, 3) := by decide +kernel
theorem d_Mo_choose_329 : decode prog_13_method_24_code 329 = .ok (.return_, 1) := by decide +kernel
theorem d_Mo_pack_0 : decode prog_13_method_25_code 0 = .ok (.aload_n 0, 1) := by decide +kernel
theorem d_Mo_pack_1 : decode prog_13_method_25_code 1 = .ok (.iconst 1, 1) := by decide +kernel
theorem d_Mo_pack_2 : decode prog_13_method_25_code 2 = .ok (.invokevirtual 173, 3) := by decide +kernel
theorem d_Mo_pack_5 : decode prog_13_method_25_code 5 = .ok (.aload_n 0, 1) := by decide +kernel
theorem d_Mo_pack_6 : decode prog_13_method_25_code 6 = .ok (.getfield 79, 3) := by decide +kernel
theorem d_Mo_pack_9 : decode prog_13_method_25_code 9 = .ok (.aload_n 0, 1) := by decide +kernel
theorem d_Mo_pack_10 : decode prog_13_method_25_code 10 = .ok (.getfield 63, 3) := by decide +kernel
theorem d_Mo_pack_13 : decode prog_13_method_25_code 13 = .ok (.if_icmp .ge 15, 3) := by decide +kernel
theorem d_Mo_pack_16 : decode prog_13_method_25_code 16 = .ok (.aload_n 0, 1) := by decide +kernel
theorem d_Mo_pack_17 : decode prog_13_method_25_code 17 = .ok (.invokevirtual 177, 3) := by decide +kernel
theorem d_Mo_pack_20 : decode prog_13_method_25_code 20 = .ok (.aload_n 0, 1) := by decide +kernel
theorem d_Mo_pack_21 : decode prog_13_method_25_code 21 = .ok (.invokevirtual 180, 3) := by decide +kernel
theorem d_Mo_pack_24 : decode prog_13_method_25_code 24 = .ok (.pop, 1) := by decide +kernel
theorem d_Mo_pack_25 : decode prog_13_method_25_code 25 = .ok (.goto (-20), 3) := by decide +kernel
theorem d_Mo_pack_28 : decode prog_13_method_25_code 28 = .ok (.aload_n 0, 1) := by decide +kernel
theorem d_Mo_pack_29 : decode prog_13_method_25_code 29 = .ok (.iconst 1, 1) := by decide +kernel
theorem d_Mo_pack_30 : decode prog_13_method_25_code 30 = .ok (.putfield 139, 3) := by decide +kernel
theorem d_Mo_pack_33 : decode prog_13_method_25_code 33 = .ok (.aload_n 0, 1) := by decide +kernel
theorem d_Mo_pack_34 : decode prog_13_method_25_code 34 = .ok (.iconst 2, 1) := by decide +kernel
theorem d_Mo_pack_35 : decode prog_13_method_25_code 35 = .ok (.putfield 151, 3) := by decide +kernel
theorem d_Mo_pack_38 : decode prog_13_method_25_code 38 = .ok (.aload_n 0, 1) := by decide +kernel
theorem d_Mo_pack_39 : decode prog_13_method_25_code 39 = .ok (.iconst 0, 1) := by decide +kernel
theorem d_Mo_pack_40 : decode prog_13_method_25_code 40 = .ok (.putfield 142, 3) := by decide +kernel
theorem d_Mo_pack_43 : decode prog_13_method_25_code 43 = .ok (.aload_n 0, 1) := by decide +kernel
theorem d_Mo_pack_44 : decode prog_13_method_25_code 44 = .ok (.invokevirtual 180, 3) := by decide +kernel
theorem d_Mo_pack_47 : decode prog_13_method_25_code 47 = .ok (.pop, 1) := by decide +kernel
theorem d_Mo_pack_48 : decode prog_13_method_25_code 48 = .ok (.aload_n 0, 1) := by decide +kernel
theorem d_Mo_pack_49 : decode prog_13_method_25_code 49 = .ok (.aload_n 0, 1) := by decide +kernel
theorem d_Mo_pack_50 : decode prog_13_method_25_code 50 = .ok (.getfield 88, 3) := by decide +kernel
theorem d_Mo_pack_53 : decode prog_13_method_25_code 53 = .ok (.sipush 200, 3) := by decide +kernel
theorem d_Mo_pack_56 : decode prog_13_method_25_code 56 = .ok (.if_icmp .le 7, 3) := by decide +kernel
theorem d_Mo_pack_59 : decode prog_13_method_25_code 59 = .ok (.iconst 1, 1) := by decide +kernel
theorem d_Mo_pack_60 : decode prog_13_method_25_code 60 = .ok (.goto 4, 3) := by decide +kernel
theorem d_Mo_pack_63 : decode prog_13_method_25_code 63 = .ok (.iconst 0, 1) := by decide +kernel
theorem d_Mo_pack_64 : decode prog_13_method_25_code 64 = .ok (.putfield 56, 3) := by decide +kernel
theorem d_Mo_pack_67 : decode prog_13_method_25_code 67 = .ok (.aload_n 0, 1) := by decide +kernel
theorem d_Mo_pack_68 : decode prog_13_method_25_code 68 = .ok (.getfield 56, 3) := by decide +kernel
theorem d_Mo_pack_71 : decode prog_13_method_25_code 71 = .ok (.ifCond .le 5, 3) := by decide +kernel
theorem d_Mo_pack_74 : decode prog_13_method_25_code 74 = .ok (.iconst 0, 1) := by decide +kernel
theorem d_Mo_pack_75 : decode prog_13_method_25_code 75 = .ok (.ireturn, 1) := by decide +kernel
theorem d_Mo_pack_76 : decode prog_13_method_25_code 76 = .ok (.aload_n 0, 1) := by decide +kernel
theorem d_Mo_pack_77 : decode prog_13_method_25_code 77 = .ok (.iconst 1, 1) := by decide +kernel
theorem d_Mo_pack_78 : decode prog_13_method_25_code 78 = .ok (.putfield 184, 3) := by decide +kernel
theorem d_Mo_pack_81 : decode prog_13_method_25_code 81 = .ok (.aload_n 0, 1) := by decide +kernel
theorem d_Mo_pack_82 : decode prog_13_method_25_code 82 = .ok (.aload_n 0, 1) := by decide +kernel
theorem d_Mo_pack_83 : decode prog_13_method_25_code 83 = .ok (.getfield 88, 3) := by decide +kernel
theorem d_Mo_pack_86 : decode prog_13_method_25_code 86 = .ok (.putfield 99, 3) := by decide +kernel
theorem d_Mo_pack_89 : decode prog_13_method_25_code 89 = .ok (.iconst 0, 1) := by decide +kernel
theorem d_Mo_pack_90 : decode prog_13_method_25_code 90 = .ok (.istore_n 1, 1) := by decide +kernel
theorem d_Mo_pack_91 : decode prog_13_method_25_code 91 = .ok (.iload_n 1, 1) := by decide +kernel
theorem d_Mo_pack_92 : decode prog_13_method_25_code 92 = .ok (.aload_n 0, 1) := by decide +kernel
theorem d_Mo_pack_93 : decode prog_13_method_25_code 93 = .ok (.getfield 99, 3) := by decide +kernel
theorem d_Mo_pack_96 : decode prog_13_method_25_code 96 = .ok (.if_icmp .ge 21, 3) := by decide +kernel
theorem d_Mo_pack_99 : decode prog_13_method_25_code 99 = .ok (.aload_n 0, 1) := by decide +kernel
theorem d_Mo_pack_100 : decode prog_13_method_25_code 100 = .ok (.getfield 13, 3) := by decide +kernel
theorem d_Mo_pack_103 : decode prog_13_method_25_code 103 = .ok (.iload_n 1, 1) := by decide +kernel
theorem d_Mo_pack_104 : decode prog_13_method_25_code 104 = .ok (.aload_n 0, 1) := by decide +kernel
theorem d_Mo_pack_105 : decode prog_13_method_25_code 105 = .ok (.getfield 34, 3) := by decide +kernel
theorem d_Mo_pack_108 : decode prog_13_method_25_code 108 = .ok (.iload_n 1, 1) := by decide +kernel
theorem d_Mo_pack_109 : decode prog_13_method_25_code 109 = .ok (.iaload, 1) := by decide +kernel
theorem d_Mo_pack_110 : decode prog_13_method_25_code 110 = .ok (.iastore, 1) := by decide +kernel
theorem d_Mo_pack_111 : decode prog_13_method_25_code 111 = .ok (.iinc 1 1, 3) := by decide +kernel
theorem d_Mo_pack_114 : decode prog_13_method_25_code 114 = .ok (.goto (-23), 3) := by decide +kernel
theorem d_Mo_pack_117 : decode prog_13_method_25_code 117 = .ok (.aload_n 0, 1) := by decide +kernel
theorem d_Mo_pack_118 : decode prog_13_method_25_code 118 = .ok (.aload_n 0, 1) := by decide +kernel
theorem d_Mo_pack_119 : decode prog_13_method_25_code 119 = .ok (.getfield 85, 3) := by decide +kernel
theorem d_Mo_pack_122 : decode prog_13_method_25_code 122 = .ok (.putfield 187, 3) := by decide +kernel
theorem d_Mo_pack_125 : decode prog_13_method_25_code 125 = .ok (.iconst 0, 1) := by decide +kernel
theorem d_Mo_pack_126 : decode prog_13_method_25_code 126 = .ok (.istore_n 1, 1) := by decide +kernel
theorem d_Mo_pack_127 : decode prog_13_method_25_code 127 = .ok (.iload_n 1, 1) := by decide +kernel
theorem d_Mo_pack_128 : decode prog_13_method_25_code 128 = .ok (.aload_n 0, 1) := by decide +kernel
theorem d_Mo_pack_129 : decode prog_13_method_25_code 129 = .ok (.getfield 85, 3) := by decide +kernel
theorem d_Mo_pack_132 : decode prog_13_method_25_code 132 = .ok (.if_icmp .ge 45, 3) := by decide +kernel
theorem d_Mo_pack_135 : decode prog_13_method_25_code 135 = .ok (.aload_n 0, 1) := by decide +kernel
theorem d_Mo_pack_136 : decode prog_13_method_25_code 136 = .ok (.getfield 19, 3) := by decide +kernel
theorem d_Mo_pack_139 : decode prog_13_method_25_code 139 = .ok (.iload_n 1, 1) := by decide +kernel
theorem d_Mo_pack_140 : decode prog_13_method_25_code 140 = .ok (.aload_n 0, 1) := by decide +kernel
theorem d_Mo_pack_141 : decode prog_13_method_25_code 141 = .ok (.getfield 43, 3) := by decide +kernel
theorem d_Mo_pack_144 : decode prog_13_method_25_code 144 = .ok (.iload_n 1, 1) := by decide +kernel
theorem d_Mo_pack_145 : decode prog_13_method_25_code 145 = .ok (.iaload, 1) := by decide +kernel
theorem d_Mo_pack_146 : decode prog_13_method_25_code 146 = .ok (.iastore, 1) := by decide +kernel
theorem d_Mo_pack_147 : decode prog_13_method_25_code 147 = .ok (.aload_n 0, 1) := by decide +kernel
theorem d_Mo_pack_148 : decode prog_13_method_25_code 148 = .ok (.getfield 22, 3) := by decide +kernel
theorem d_Mo_pack_151 : decode prog_13_method_25_code 151 = .ok (.iload_n 1, 1) := by decide +kernel
theorem d_Mo_pack_152 : decode prog_13_method_25_code 152 = .ok (.aload_n 0, 1) := by decide +kernel
theorem d_Mo_pack_153 : decode prog_13_method_25_code 153 = .ok (.getfield 46, 3) := by decide +kernel
theorem d_Mo_pack_156 : decode prog_13_method_25_code 156 = .ok (.iload_n 1, 1) := by decide +kernel
theorem d_Mo_pack_157 : decode prog_13_method_25_code 157 = .ok (.iaload, 1) := by decide +kernel
theorem d_Mo_pack_158 : decode prog_13_method_25_code 158 = .ok (.iastore, 1) := by decide +kernel
theorem d_Mo_pack_159 : decode prog_13_method_25_code 159 = .ok (.aload_n 0, 1) := by decide +kernel
theorem d_Mo_pack_160 : decode prog_13_method_25_code 160 = .ok (.getfield 25, 3) := by decide +kernel
theorem d_Mo_pack_163 : decode prog_13_method_25_code 163 = .ok (.iload_n 1, 1) := by decide +kernel
theorem d_Mo_pack_164 : decode prog_13_method_25_code 164 = .ok (.aload_n 0, 1) := by decide +kernel
theorem d_Mo_pack_165 : decode prog_13_method_25_code 165 = .ok (.getfield 49, 3) := by decide +kernel
theorem d_Mo_pack_168 : decode prog_13_method_25_code 168 = .ok (.iload_n 1, 1) := by decide +kernel
theorem d_Mo_pack_169 : decode prog_13_method_25_code 169 = .ok (.iaload, 1) := by decide +kernel
theorem d_Mo_pack_170 : decode prog_13_method_25_code 170 = .ok (.iastore, 1) := by decide +kernel
theorem d_Mo_pack_171 : decode prog_13_method_25_code 171 = .ok (.iinc 1 1, 3) := by decide +kernel
theorem d_Mo_pack_174 : decode prog_13_method_25_code 174 = .ok (.goto (-47), 3) := by decide +kernel
theorem d_Mo_pack_177 : decode prog_13_method_25_code 177 = .ok (.iconst 0, 1) := by decide +kernel
theorem d_Mo_pack_178 : decode prog_13_method_25_code 178 = .ok (.istore_n 1, 1) := by decide +kernel
theorem d_Mo_pack_179 : decode prog_13_method_25_code 179 = .ok (.iload_n 1, 1) := by decide +kernel
theorem d_Mo_pack_180 : decode prog_13_method_25_code 180 = .ok (.bipush 72, 2) := by decide +kernel
theorem d_Mo_pack_182 : decode prog_13_method_25_code 182 = .ok (.if_icmp .ge 21, 3) := by decide +kernel
theorem d_Mo_pack_185 : decode prog_13_method_25_code 185 = .ok (.aload_n 0, 1) := by decide +kernel
theorem d_Mo_pack_186 : decode prog_13_method_25_code 186 = .ok (.getfield 28, 3) := by decide +kernel
theorem d_Mo_pack_189 : decode prog_13_method_25_code 189 = .ok (.iload_n 1, 1) := by decide +kernel
theorem d_Mo_pack_190 : decode prog_13_method_25_code 190 = .ok (.aload_n 0, 1) := by decide +kernel
theorem d_Mo_pack_191 : decode prog_13_method_25_code 191 = .ok (.getfield 31, 3) := by decide +kernel
theorem d_Mo_pack_194 : decode prog_13_method_25_code 194 = .ok (.iload_n 1, 1) := by decide +kernel
theorem d_Mo_pack_195 : decode prog_13_method_25_code 195 = .ok (.iaload, 1) := by decide +kernel
theorem d_Mo_pack_196 : decode prog_13_method_25_code 196 = .ok (.iastore, 1) := by decide +kernel
theorem d_Mo_pack_197 : decode prog_13_method_25_code 197 = .ok (.iinc 1 1, 3) := by decide +kernel
theorem d_Mo_pack_200 : decode prog_13_method_25_code 200 = .ok (.goto (-21), 3) := by decide +kernel
theorem d_Mo_pack_203 : decode prog_13_method_25_code 203 = .ok (.aload_n 0, 1) := by decide +kernel
theorem d_Mo_pack_204 : decode prog_13_method_25_code 204 = .ok (.getfield 99, 3) := by decide +kernel
theorem d_Mo_pack_207 : decode prog_13_method_25_code 207 = .ok (.ireturn, 1) := by decide +kernel
theorem d_Mo_unpack_0 : decode prog_13_method_26_code 0 = .ok (.aload_n 0, 1) := by decide +kernel
theorem d_Mo_unpack_1 : decode prog_13_method_26_code 1 = .ok (.iconst 0, 1) := by decide +kernel
theorem d_Mo_unpack_2 : decode prog_13_method_26_code 2 = .ok (.invokevirtual 173, 3) := by decide +kernel
theorem d_Mo_unpack_5 : decode prog_13_method_26_code 5 = .ok (.iconst 0, 1) := by decide +kernel
theorem d_Mo_unpack_6 : decode prog_13_method_26_code 6 = .ok (.istore_n 1, 1) := by decide +kernel
theorem d_Mo_unpack_7 : decode prog_13_method_26_code 7 = .ok (.iload_n 1, 1) := by decide +kernel
theorem d_Mo_unpack_8 : decode prog_13_method_26_code 8 = .ok (.iconst 4, 1) := by decide +kernel
theorem d_Mo_unpack_9 : decode prog_13_method_26_code 9 = .ok (.if_icmp .ge 20, 3) := by decide +kernel
theorem d_Mo_unpack_12 : decode prog_13_method_26_code 12 = .ok (.aload_n 0, 1) := by decide +kernel
theorem d_Mo_unpack_13 : decode prog_13_method_26_code 13 = .ok (.getfield 70, 3) := by decide +kernel
theorem d_Mo_unpack_16 : decode prog_13_method_26_code 16 = .ok (.ifCond .ne 13, 3) := by decide +kernel
theorem d_Mo_unpack_19 : decode prog_13_method_26_code 19 = .ok (.aload_n 0, 1) := by decide +kernel
theorem d_Mo_unpack_20 : decode prog_13_method_26_code 20 = .ok (.invokevirtual 104, 3) := by decide +kernel
theorem d_Mo_unpack_23 : decode prog_13_method_26_code 23 = .ok (.iinc 1 1, 3) := by decide +kernel
theorem d_Mo_unpack_26 : decode prog_13_method_26_code 26 = .ok (.goto (-19), 3) := by decide +kernel
theorem d_Mo_unpack_29 : decode prog_13_method_26_code 29 = .ok (.aload_n 0, 1) := by decide +kernel
theorem d_Mo_unpack_30 : decode prog_13_method_26_code 30 = .ok (.aload_n 0, 1) := by decide +kernel
theorem d_Mo_unpack_31 : decode prog_13_method_26_code 31 = .ok (.getfield 70, 3) := by decide +kernel
theorem d_Mo_unpack_34 : decode prog_13_method_26_code 34 = .ok (.ifCond .ne 18, 3) := by decide +kernel
theorem d_Mo_unpack_37 : decode prog_13_method_26_code 37 = .ok (.aload_n 0, 1) := by decide +kernel
theorem d_Mo_unpack_38 : decode prog_13_method_26_code 38 = .ok (.getfield 91, 3) := by decide +kernel
theorem d_Mo_unpack_41 : decode prog_13_method_26_code 41 = .ok (.ldc2_w 73, 3) := by decide +kernel
theorem d_Mo_unpack_44 : decode prog_13_method_26_code 44 = .ok (.lcmp, 1) := by decide +kernel
theorem d_Mo_unpack_45 : decode prog_13_method_26_code 45 = .ok (.ifCond .ne 7, 3) := by decide +kernel
theorem d_Mo_unpack_48 : decode prog_13_method_26_code 48 = .ok (.iconst 2, 1) := by decide +kernel
theorem d_Mo_unpack_49 : decode prog_13_method_26_code 49 = .ok (.goto 7, 3) := by decide +kernel
theorem d_Mo_unpack_52 : decode prog_13_method_26_code 52 = .ok (.aload_n 0, 1) := by decide +kernel
theorem d_Mo_unpack_53 : decode prog_13_method_26_code 53 = .ok (.getfield 70, 3) := by decide +kernel
theorem d_Mo_unpack_56 : decode prog_13_method_26_code 56 = .ok (.putfield 70, 3) := by decide +kernel
theorem d_Mo_unpack_59 : decode prog_13_method_26_code 59 = .ok (.aload_n 0, 1) := by decide +kernel
theorem d_Mo_unpack_60 : decode prog_13_method_26_code 60 = .ok (.getfield 70, 3) := by decide +kernel
theorem d_Mo_unpack_63 : decode prog_13_method_26_code 63 = .ok (.ifCond .ne 7, 3) := by decide +kernel
theorem d_Mo_unpack_66 : decode prog_13_method_26_code 66 = .ok (.iconst 1, 1) := by decide +kernel
theorem d_Mo_unpack_67 : decode prog_13_method_26_code 67 = .ok (.goto 4, 3) := by decide +kernel
theorem d_Mo_unpack_70 : decode prog_13_method_26_code 70 = .ok (.iconst 0, 1) := by decide +kernel
theorem d_Mo_unpack_71 : decode prog_13_method_26_code 71 = .ok (.istore_n 1, 1) := by decide +kernel
theorem d_Mo_unpack_72 : decode prog_13_method_26_code 72 = .ok (.iload_n 1, 1) := by decide +kernel
theorem d_Mo_unpack_73 : decode prog_13_method_26_code 73 = .ok (.ifCond .eq 11, 3) := by decide +kernel
theorem d_Mo_unpack_76 : decode prog_13_method_26_code 76 = .ok (.aload_n 0, 1) := by decide +kernel
theorem d_Mo_unpack_77 : decode prog_13_method_26_code 77 = .ok (.invokevirtual 180, 3) := by decide +kernel
theorem d_Mo_unpack_80 : decode prog_13_method_26_code 80 = .ok (.istore_n 1, 1) := by decide +kernel
theorem d_Mo_unpack_81 : decode prog_13_method_26_code 81 = .ok (.goto (-9), 3) := by decide +kernel
theorem d_Mo_unpack_84 : decode prog_13_method_26_code 84 = .ok (.aload_n 0, 1) := by decide +kernel
theorem d_Mo_unpack_85 : decode prog_13_method_26_code 85 = .ok (.getfield 70, 3) := by decide +kernel
theorem d_Mo_unpack_88 : decode prog_13_method_26_code 88 = .ok (.ifCond .ne 28, 3) := by decide +kernel
theorem d_Mo_unpack_91 : decode prog_13_method_26_code 91 = .ok (.aload_n 0, 1) := by decide +kernel
theorem d_Mo_unpack_92 : decode prog_13_method_26_code 92 = .ok (.getfield 94, 3) := by decide +kernel
theorem d_Mo_unpack_95 : decode prog_13_method_26_code 95 = .ok (.aload_n 0, 1) := by decide +kernel
theorem d_Mo_unpack_96 : decode prog_13_method_26_code 96 = .ok (.getfield 99, 3) := by decide +kernel
theorem d_Mo_unpack_99 : decode prog_13_method_26_code 99 = .ok (.if_icmp .lt 12, 3) := by decide +kernel
theorem d_Mo_unpack_102 : decode prog_13_method_26_code 102 = .ok (.aload_n 0, 1) := by decide +kernel
theorem d_Mo_unpack_103 : decode prog_13_method_26_code 103 = .ok (.getfield 91, 3) := by decide +kernel
theorem d_Mo_unpack_106 : decode prog_13_method_26_code 106 = .ok (.lconst 0, 1) := by decide +kernel
theorem d_Mo_unpack_107 : decode prog_13_method_26_code 107 = .ok (.lcmp, 1) := by decide +kernel
theorem d_Mo_unpack_108 : decode prog_13_method_26_code 108 = .ok (.ifCond .eq 8, 3) := by decide +kernel
theorem d_Mo_unpack_111 : decode prog_13_method_26_code 111 = .ok (.aload_n 0, 1) := by decide +kernel
theorem d_Mo_unpack_112 : decode prog_13_method_26_code 112 = .ok (.iconst 2, 1) := by decide +kernel
theorem d_Mo_unpack_113 : decode prog_13_method_26_code 113 = .ok (.putfield 70, 3) := by decide +kernel
theorem d_Mo_unpack_116 : decode prog_13_method_26_code 116 = .ok (.aload_n 0, 1) := by decide +kernel
theorem d_Mo_unpack_117 : decode prog_13_method_26_code 117 = .ok (.aload_n 0, 1) := by decide +kernel
theorem d_Mo_unpack_118 : decode prog_13_method_26_code 118 = .ok (.getfield 70, 3) := by decide +kernel
theorem d_Mo_unpack_121 : decode prog_13_method_26_code 121 = .ok (.putfield 56, 3) := by decide +kernel
theorem d_Mo_unpack_124 : decode prog_13_method_26_code 124 = .ok (.aload_n 0, 1) := by decide +kernel
theorem d_Mo_unpack_125 : decode prog_13_method_26_code 125 = .ok (.getfield 56, 3) := by decide +kernel
theorem d_Mo_unpack_128 : decode prog_13_method_26_code 128 = .ok (.ifCond .le 5, 3) := by decide +kernel
theorem d_Mo_unpack_131 : decode prog_13_method_26_code 131 = .ok (.iconst 0, 1) := by decide +kernel
theorem d_Mo_unpack_132 : decode prog_13_method_26_code 132 = .ok (.ireturn, 1) := by decide +kernel
theorem d_Mo_unpack_133 : decode prog_13_method_26_code 133 = .ok (.aload_n 0, 1) := by decide +kernel
theorem d_Mo_unpack_134 : decode prog_13_method_26_code 134 = .ok (.aload_n 0, 1) := by decide +kernel
theorem d_Mo_unpack_135 : decode prog_13_method_26_code 135 = .ok (.getfield 79, 3) := by decide +kernel
theorem d_Mo_unpack_138 : decode prog_13_method_26_code 138 = .ok (.putfield 190, 3) := by decide +kernel
theorem d_Mo_unpack_141 : decode prog_13_method_26_code 141 = .ok (.iconst 0, 1) := by decide +kernel
theorem d_Mo_unpack_142 : decode prog_13_method_26_code 142 = .ok (.istore_n 2, 1) := by decide +kernel
theorem d_Mo_unpack_143 : decode prog_13_method_26_code 143 = .ok (.iload_n 2, 1) := by decide +kernel
theorem d_Mo_unpack_144 : decode prog_13_method_26_code 144 = .ok (.aload_n 0, 1) := by decide +kernel
theorem d_Mo_unpack_145 : decode prog_13_method_26_code 145 = .ok (.getfield 79, 3) := by decide +kernel
theorem d_Mo_unpack_148 : decode prog_13_method_26_code 148 = .ok (.if_icmp .ge 21, 3) := by decide +kernel
theorem d_Mo_unpack_151 : decode prog_13_method_26_code 151 = .ok (.aload_n 0, 1) := by decide +kernel
theorem d_Mo_unpack_152 : decode prog_13_method_26_code 152 = .ok (.getfield 16, 3) := by decide +kernel
theorem d_Mo_unpack_155 : decode prog_13_method_26_code 155 = .ok (.iload_n 2, 1) := by decide +kernel
theorem d_Mo_unpack_156 : decode prog_13_method_26_code 156 = .ok (.aload_n 0, 1) := by decide +kernel
theorem d_Mo_unpack_157 : decode prog_13_method_26_code 157 = .ok (.getfield 37, 3) := by decide +kernel
theorem d_Mo_unpack_160 : decode prog_13_method_26_code 160 = .ok (.iload_n 2, 1) := by decide +kernel
theorem d_Mo_unpack_161 : decode prog_13_method_26_code 161 = .ok (.iaload, 1) := by decide +kernel
theorem d_Mo_unpack_162 : decode prog_13_method_26_code 162 = .ok (.iastore, 1) := by decide +kernel
theorem d_Mo_unpack_163 : decode prog_13_method_26_code 163 = .ok (.iinc 2 1, 3) := by decide +kernel
theorem d_Mo_unpack_166 : decode prog_13_method_26_code 166 = .ok (.goto (-23), 3) := by decide +kernel
theorem d_Mo_unpack_169 : decode prog_13_method_26_code 169 = .ok (.aload_n 0, 1) := by decide +kernel
theorem d_Mo_unpack_170 : decode prog_13_method_26_code 170 = .ok (.getfield 190, 3) := by decide +kernel
theorem d_Mo_unpack_173 : decode prog_13_method_26_code 173 = .ok (.ireturn, 1) := by decide +kernel
theorem d_Mo_packets_0 : decode prog_13_method_27_code 0 = .ok (.aload_n 0, 1) := by decide +kernel
theorem d_Mo_packets_1 : decode prog_13_method_27_code 1 = .ok (.iconst 0, 1) := by decide +kernel
theorem d_Mo_packets_2 : decode prog_13_method_27_code 2 = .ok (.putfield 56, 3) := by decide +kernel
theorem d_Mo_packets_5 : decode prog_13_method_27_code 5 = .ok (.aload_n 0, 1) := by decide +kernel
theorem d_Mo_packets_6 : decode prog_13_method_27_code 6 = .ok (.getfield 187, 3) := by decide +kernel
theorem d_Mo_packets_9 : decode prog_13_method_27_code 9 = .ok (.ireturn, 1) := by decide +kernel
theorem d_Mo_packet2_0 : decode prog_13_method_28_code 0 = .ok (.aload_n 0, 1) := by decide +kernel
theorem d_Mo_packet2_1 : decode prog_13_method_28_code 1 = .ok (.iconst 0, 1) := by decide +kernel
theorem d_Mo_packet2_2 : decode prog_13_method_28_code 2 = .ok (.putfield 56, 3) := by decide +kernel
theorem d_Mo_packet2_5 : decode prog_13_method_28_code 5 = .ok (.iload_n 1, 1) := by decide +kernel
theorem d_Mo_packet2_6 : decode prog_13_method_28_code 6 = .ok (.ifCond .lt 20, 3) := by decide +kernel
theorem d_Mo_packet2_9 : decode prog_13_method_28_code 9 = .ok (.iload_n 1, 1) := by decide +kernel
theorem d_Mo_packet2_10 : decode prog_13_method_28_code 10 = .ok (.aload_n 0, 1) := by decide +kernel
theorem d_Mo_packet2_11 : decode prog_13_method_28_code 11 = .ok (.getfield 187, 3) := by decide +kernel
theorem d_Mo_packet2_14 : decode prog_13_method_28_code 14 = .ok (.if_icmp .ge 12, 3) := by decide +kernel
theorem d_Mo_packet2_17 : decode prog_13_method_28_code 17 = .ok (.iload_n 2, 1) := by decide +kernel
theorem d_Mo_packet2_18 : decode prog_13_method_28_code 18 = .ok (.ifCond .lt 8, 3) := by decide +kernel
theorem d_Mo_packet2_21 : decode prog_13_method_28_code 21 = .ok (.iload_n 2, 1) := by decide +kernel
theorem d_Mo_packet2_22 : decode prog_13_method_28_code 22 = .ok (.iconst 2, 1) := by decide +kernel
theorem d_Mo_packet2_23 : decode prog_13_method_28_code 23 = .ok (.if_icmp .le 5, 3) := by decide +kernel
theorem d_Mo_packet2_26 : decode prog_13_method_28_code 26 = .ok (.iconst (-1), 1) := by decide +kernel
theorem d_Mo_packet2_27 : decode prog_13_method_28_code 27 = .ok (.ireturn, 1) := by decide +kernel
theorem d_Mo_packet2_28 : decode prog_13_method_28_code 28 = .ok (.iload_n 2, 1) := by decide +kernel
theorem d_Mo_packet2_29 : decode prog_13_method_28_code 29 = .ok (.ifCond .ne 12, 3) := by decide +kernel
theorem d_Mo_packet2_32 : decode prog_13_method_28_code 32 = .ok (.aload_n 0, 1) := by decide +kernel
theorem d_Mo_packet2_33 : decode prog_13_method_28_code 33 = .ok (.getfield 19, 3) := by decide +kernel
theorem d_Mo_packet2_36 : decode prog_13_method_28_code 36 = .ok (.iload_n 1, 1) := by decide +kernel
theorem d_Mo_packet2_37 : decode prog_13_method_28_code 37 = .ok (.iaload, 1) := by decide +kernel
theorem d_Mo_packet2_38 : decode prog_13_method_28_code 38 = .ok (.goto 23, 3) := by decide +kernel
theorem d_Mo_packet2_41 : decode prog_13_method_28_code 41 = .ok (.iload_n 2, 1) := by decide +kernel
theorem d_Mo_packet2_42 : decode prog_13_method_28_code 42 = .ok (.iconst 1, 1) := by decide +kernel
theorem d_Mo_packet2_43 : decode prog_13_method_28_code 43 = .ok (.if_icmp .ne 12, 3) := by decide +kernel
theorem d_Mo_packet2_46 : decode prog_13_method_28_code 46 = .ok (.aload_n 0, 1) := by decide +kernel
theorem d_Mo_packet2_47 : decode prog_13_method_28_code 47 = .ok (.getfield 22, 3) := by decide +kernel
theorem d_Mo_packet2_50 : decode prog_13_method_28_code 50 = .ok (.iload_n 1, 1) := by decide +kernel
theorem d_Mo_packet2_51 : decode prog_13_method_28_code 51 = .ok (.iaload, 1) := by decide +kernel
theorem d_Mo_packet2_52 : decode prog_13_method_28_code 52 = .ok (.goto 9, 3) := by decide +kernel
theorem d_Mo_packet2_55 : decode prog_13_method_28_code 55 = .ok (.aload_n 0, 1) := by decide +kernel
theorem d_Mo_packet2_56 : decode prog_13_method_28_code 56 = .ok (.getfield 25, 3) := by decide +kernel
theorem d_Mo_packet2_59 : decode prog_13_method_28_code 59 = .ok (.iload_n 1, 1) := by decide +kernel
theorem d_Mo_packet2_60 : decode prog_13_method_28_code 60 = .ok (.iaload, 1) := by decide +kernel
theorem d_Mo_packet2_61 : decode prog_13_method_28_code 61 = .ok (.ireturn, 1) := by decide +kernel
theorem d_Mo_chance_0 : decode prog_13_method_29_code 0 = .ok (.aload_n 0, 1) := by decide +kernel
theorem d_Mo_chance_1 : decode prog_13_method_29_code 1 = .ok (.iconst 0, 1) := by decide +kernel
theorem d_Mo_chance_2 : decode prog_13_method_29_code 2 = .ok (.putfield 56, 3) := by decide +kernel
theorem d_Mo_chance_5 : decode prog_13_method_29_code 5 = .ok (.aload_n 0, 1) := by decide +kernel
theorem d_Mo_chance_6 : decode prog_13_method_29_code 6 = .ok (.getfield 184, 3) := by decide +kernel
theorem d_Mo_chance_9 : decode prog_13_method_29_code 9 = .ok (.ifCond .eq 22, 3) := by decide +kernel
theorem d_Mo_chance_12 : decode prog_13_method_29_code 12 = .ok (.iload_n 1, 1) := by decide +kernel
theorem d_Mo_chance_13 : decode prog_13_method_29_code 13 = .ok (.ifCond .lt 18, 3) := by decide +kernel
theorem d_Mo_chance_16 : decode prog_13_method_29_code 16 = .ok (.iload_n 1, 1) := by decide +kernel
theorem d_Mo_chance_17 : decode prog_13_method_29_code 17 = .ok (.iconst 5, 1) := by decide +kernel
theorem d_Mo_chance_18 : decode prog_13_method_29_code 18 = .ok (.if_icmp .gt 13, 3) := by decide +kernel
theorem d_Mo_chance_21 : decode prog_13_method_29_code 21 = .ok (.iload_n 2, 1) := by decide +kernel
theorem d_Mo_chance_22 : decode prog_13_method_29_code 22 = .ok (.ifCond .lt 9, 3) := by decide +kernel
theorem d_Mo_chance_25 : decode prog_13_method_29_code 25 = .ok (.iload_n 2, 1) := by decide +kernel
theorem d_Mo_chance_26 : decode prog_13_method_29_code 26 = .ok (.bipush 11, 2) := by decide +kernel
theorem d_Mo_chance_28 : decode prog_13_method_29_code 28 = .ok (.if_icmp .le 7, 3) := by decide +kernel
theorem d_Mo_chance_31 : decode prog_13_method_29_code 31 = .ok (.iconst (-1), 1) := by decide +kernel
theorem d_Mo_chance_32 : decode prog_13_method_29_code 32 = .ok (.goto 14, 3) := by decide +kernel
theorem d_Mo_chance_35 : decode prog_13_method_29_code 35 = .ok (.aload_n 0, 1) := by decide +kernel
theorem d_Mo_chance_36 : decode prog_13_method_29_code 36 = .ok (.getfield 28, 3) := by decide +kernel
theorem d_Mo_chance_39 : decode prog_13_method_29_code 39 = .ok (.bipush 12, 2) := by decide +kernel
theorem d_Mo_chance_41 : decode prog_13_method_29_code 41 = .ok (.iload_n 1, 1) := by decide +kernel
theorem d_Mo_chance_42 : decode prog_13_method_29_code 42 = .ok (.imul, 1) := by decide +kernel
theorem d_Mo_chance_43 : decode prog_13_method_29_code 43 = .ok (.iload_n 2, 1) := by decide +kernel
theorem d_Mo_chance_44 : decode prog_13_method_29_code 44 = .ok (.iadd, 1) := by decide +kernel
theorem d_Mo_chance_45 : decode prog_13_method_29_code 45 = .ok (.iaload, 1) := by decide +kernel
theorem d_Mo_chance_46 : decode prog_13_method_29_code 46 = .ok (.ireturn, 1) := by decide +kernel
theorem d_Mo_size_0 : decode prog_13_method_30_code 0 = .ok (.aload_n 0, 1) := by decide +kernel
theorem d_Mo_size_1 : decode prog_13_method_30_code 1 = .ok (.iconst 0, 1) := by decide +kernel
theorem d_Mo_size_2 : decode prog_13_method_30_code 2 = .ok (.putfield 56, 3) := by decide +kernel
theorem d_Mo_size_5 : decode prog_13_method_30_code 5 = .ok (.aload_n 0, 1) := by decide +kernel
theorem d_Mo_size_6 : decode prog_13_method_30_code 6 = .ok (.getfield 99, 3) := by decide +kernel
theorem d_Mo_size_9 : decode prog_13_method_30_code 9 = .ok (.ireturn, 1) := by decide +kernel
theorem d_Mo_at_0 : decode prog_13_method_31_code 0 = .ok (.aload_n 0, 1) := by decide +kernel
theorem d_Mo_at_1 : decode prog_13_method_31_code 1 = .ok (.iconst 0, 1) := by decide +kernel
theorem d_Mo_at_2 : decode prog_13_method_31_code 2 = .ok (.putfield 56, 3) := by decide +kernel
theorem d_Mo_at_5 : decode prog_13_method_31_code 5 = .ok (.iload_n 1, 1) := by decide +kernel
theorem d_Mo_at_6 : decode prog_13_method_31_code 6 = .ok (.ifCond .lt 11, 3) := by decide +kernel
theorem d_Mo_at_9 : decode prog_13_method_31_code 9 = .ok (.iload_n 1, 1) := by decide +kernel
theorem d_Mo_at_10 : decode prog_13_method_31_code 10 = .ok (.aload_n 0, 1) := by decide +kernel
theorem d_Mo_at_11 : decode prog_13_method_31_code 11 = .ok (.getfield 99, 3) := by decide +kernel
theorem d_Mo_at_14 : decode prog_13_method_31_code 14 = .ok (.if_icmp .lt 7, 3) := by decide +kernel
theorem d_Mo_at_17 : decode prog_13_method_31_code 17 = .ok (.iconst (-1), 1) := by decide +kernel
theorem d_Mo_at_18 : decode prog_13_method_31_code 18 = .ok (.goto 9, 3) := by decide +kernel
theorem d_Mo_at_21 : decode prog_13_method_31_code 21 = .ok (.aload_n 0, 1) := by decide +kernel
theorem d_Mo_at_22 : decode prog_13_method_31_code 22 = .ok (.getfield 13, 3) := by decide +kernel
theorem d_Mo_at_25 : decode prog_13_method_31_code 25 = .ok (.iload_n 1, 1) := by decide +kernel
theorem d_Mo_at_26 : decode prog_13_method_31_code 26 = .ok (.iaload, 1) := by decide +kernel
theorem d_Mo_at_27 : decode prog_13_method_31_code 27 = .ok (.ireturn, 1) := by decide +kernel
theorem d_Mo_add_0 : decode prog_13_method_32_code 0 = .ok (.aload_n 0, 1) := by decide +kernel
theorem d_Mo_add_1 : decode prog_13_method_32_code 1 = .ok (.iconst 0, 1) := by decide +kernel
theorem d_Mo_add_2 : decode prog_13_method_32_code 2 = .ok (.putfield 56, 3) := by decide +kernel
theorem d_Mo_add_5 : decode prog_13_method_32_code 5 = .ok (.iload_n 1, 1) := by decide +kernel
theorem d_Mo_add_6 : decode prog_13_method_32_code 6 = .ok (.invokestatic 59, 3) := by decide +kernel
theorem d_Mo_add_9 : decode prog_13_method_32_code 9 = .ok (.ifCond .eq 13, 3) := by decide +kernel
theorem d_Mo_add_12 : decode prog_13_method_32_code 12 = .ok (.aload_n 0, 1) := by decide +kernel
theorem d_Mo_add_13 : decode prog_13_method_32_code 13 = .ok (.getfield 99, 3) := by decide +kernel
theorem d_Mo_add_16 : decode prog_13_method_32_code 16 = .ok (.sipush 200, 3) := by decide +kernel
theorem d_Mo_add_19 : decode prog_13_method_32_code 19 = .ok (.if_icmp .ne 5, 3) := by decide +kernel
theorem d_Mo_add_22 : decode prog_13_method_32_code 22 = .ok (.iconst 0, 1) := by decide +kernel
theorem d_Mo_add_23 : decode prog_13_method_32_code 23 = .ok (.ireturn, 1) := by decide +kernel
theorem d_Mo_add_24 : decode prog_13_method_32_code 24 = .ok (.aload_n 0, 1) := by decide +kernel
theorem d_Mo_add_25 : decode prog_13_method_32_code 25 = .ok (.getfield 13, 3) := by decide +kernel
theorem d_Mo_add_28 : decode prog_13_method_32_code 28 = .ok (.aload_n 0, 1) := by decide +kernel
theorem d_Mo_add_29 : decode prog_13_method_32_code 29 = .ok (.getfield 99, 3) := by decide +kernel
theorem d_Mo_add_32 : decode prog_13_method_32_code 32 = .ok (.iload_n 1, 1) := by decide +kernel
theorem d_Mo_add_33 : decode prog_13_method_32_code 33 = .ok (.iastore, 1) := by decide +kernel
theorem d_Mo_add_34 : decode prog_13_method_32_code 34 = .ok (.aload_n 0, 1) := by decide +kernel
theorem d_Mo_add_35 : decode prog_13_method_32_code 35 = .ok (.dup, 1) := by decide +kernel
theorem d_Mo_add_36 : decode prog_13_method_32_code 36 = .ok (.getfield 99, 3) := by decide +kernel
theorem d_Mo_add_39 : decode prog_13_method_32_code 39 = .ok (.iconst 1, 1) := by decide +kernel
theorem d_Mo_add_40 : decode prog_13_method_32_code 40 = .ok (.iadd, 1) := by decide +kernel
theorem d_Mo_add_41 : decode prog_13_method_32_code 41 = .ok (.putfield 99, 3) := by decide +kernel
theorem d_Mo_add_44 : decode prog_13_method_32_code 44 = .ok (.iconst 1, 1) := by decide +kernel
theorem d_Mo_add_45 : decode prog_13_method_32_code 45 = .ok (.ireturn, 1) := by decide +kernel
theorem d_Mo_put_0 : decode prog_13_method_33_code 0 = .ok (.aload_n 0, 1) := by decide +kernel
theorem d_Mo_put_1 : decode prog_13_method_33_code 1 = .ok (.iload_n 1, 1) := by decide +kernel
theorem d_Mo_put_2 : decode prog_13_method_33_code 2 = .ok (.ifCond .lt 11, 3) := by decide +kernel
theorem d_Mo_put_5 : decode prog_13_method_33_code 5 = .ok (.iload_n 1, 1) := by decide +kernel
theorem d_Mo_put_6 : decode prog_13_method_33_code 6 = .ok (.aload_n 0, 1) := by decide +kernel
theorem d_Mo_put_7 : decode prog_13_method_33_code 7 = .ok (.getfield 99, 3) := by decide +kernel
theorem d_Mo_put_10 : decode prog_13_method_33_code 10 = .ok (.if_icmp .lt 7, 3) := by decide +kernel
theorem d_Mo_put_13 : decode prog_13_method_33_code 13 = .ok (.iconst 1, 1) := by decide +kernel
theorem d_Mo_put_14 : decode prog_13_method_33_code 14 = .ok (.goto 15, 3) := by decide +kernel
theorem d_Mo_put_17 : decode prog_13_method_33_code 17 = .ok (.iload_n 2, 1) := by decide +kernel
theorem d_Mo_put_18 : decode prog_13_method_33_code 18 = .ok (.invokestatic 59, 3) := by decide +kernel
theorem d_Mo_put_21 : decode prog_13_method_33_code 21 = .ok (.ifCond .eq 7, 3) := by decide +kernel
theorem d_Mo_put_24 : decode prog_13_method_33_code 24 = .ok (.iconst 0, 1) := by decide +kernel
theorem d_Mo_put_25 : decode prog_13_method_33_code 25 = .ok (.goto 4, 3) := by decide +kernel
theorem d_Mo_put_28 : decode prog_13_method_33_code 28 = .ok (.iconst 2, 1) := by decide +kernel
theorem d_Mo_put_29 : decode prog_13_method_33_code 29 = .ok (.putfield 56, 3) := by decide +kernel
theorem d_Mo_put_32 : decode prog_13_method_33_code 32 = .ok (.aload_n 0, 1) := by decide +kernel
theorem d_Mo_put_33 : decode prog_13_method_33_code 33 = .ok (.getfield 56, 3) := by decide +kernel
theorem d_Mo_put_36 : decode prog_13_method_33_code 36 = .ok (.ifCond .le 5, 3) := by decide +kernel
theorem d_Mo_put_39 : decode prog_13_method_33_code 39 = .ok (.iconst 0, 1) := by decide +kernel
theorem d_Mo_put_40 : decode prog_13_method_33_code 40 = .ok (.ireturn, 1) := by decide +kernel
theorem d_Mo_put_41 : decode prog_13_method_33_code 41 = .ok (.aload_n 0, 1) := by decide +kernel
theorem d_Mo_put_42 : decode prog_13_method_33_code 42 = .ok (.getfield 13, 3) := by decide +kernel
theorem d_Mo_put_45 : decode prog_13_method_33_code 45 = .ok (.iload_n 1, 1) := by decide +kernel
theorem d_Mo_put_46 : decode prog_13_method_33_code 46 = .ok (.iaload, 1) := by decide +kernel
theorem d_Mo_put_47 : decode prog_13_method_33_code 47 = .ok (.istore_n 3, 1) := by decide +kernel
theorem d_Mo_put_48 : decode prog_13_method_33_code 48 = .ok (.aload_n 0, 1) := by decide +kernel
theorem d_Mo_put_49 : decode prog_13_method_33_code 49 = .ok (.getfield 13, 3) := by decide +kernel
theorem d_Mo_put_52 : decode prog_13_method_33_code 52 = .ok (.iload_n 1, 1) := by decide +kernel
theorem d_Mo_put_53 : decode prog_13_method_33_code 53 = .ok (.iload_n 2, 1) := by decide +kernel
theorem d_Mo_put_54 : decode prog_13_method_33_code 54 = .ok (.iastore, 1) := by decide +kernel
theorem d_Mo_put_55 : decode prog_13_method_33_code 55 = .ok (.iload_n 3, 1) := by decide +kernel
theorem d_Mo_put_56 : decode prog_13_method_33_code 56 = .ok (.ireturn, 1) := by decide +kernel
theorem d_Mo_cut_0 : decode prog_13_method_34_code 0 = .ok (.aload_n 0, 1) := by decide +kernel
theorem d_Mo_cut_1 : decode prog_13_method_34_code 1 = .ok (.iload_n 1, 1) := by decide +kernel
theorem d_Mo_cut_2 : decode prog_13_method_34_code 2 = .ok (.ifCond .ge 7, 3) := by decide +kernel
theorem d_Mo_cut_5 : decode prog_13_method_34_code 5 = .ok (.iconst 1, 1) := by decide +kernel
theorem d_Mo_cut_6 : decode prog_13_method_34_code 6 = .ok (.goto 4, 3) := by decide +kernel
theorem d_Mo_cut_9 : decode prog_13_method_34_code 9 = .ok (.iconst 0, 1) := by decide +kernel
theorem d_Mo_cut_10 : decode prog_13_method_34_code 10 = .ok (.putfield 56, 3) := by decide +kernel
theorem d_Mo_cut_13 : decode prog_13_method_34_code 13 = .ok (.aload_n 0, 1) := by decide +kernel
theorem d_Mo_cut_14 : decode prog_13_method_34_code 14 = .ok (.getfield 56, 3) := by decide +kernel
theorem d_Mo_cut_17 : decode prog_13_method_34_code 17 = .ok (.ifCond .gt 11, 3) := by decide +kernel
theorem d_Mo_cut_20 : decode prog_13_method_34_code 20 = .ok (.iload_n 1, 1) := by decide +kernel
theorem d_Mo_cut_21 : decode prog_13_method_34_code 21 = .ok (.aload_n 0, 1) := by decide +kernel
theorem d_Mo_cut_22 : decode prog_13_method_34_code 22 = .ok (.getfield 99, 3) := by decide +kernel
theorem d_Mo_cut_25 : decode prog_13_method_34_code 25 = .ok (.if_icmp .lt 5, 3) := by decide +kernel
theorem d_Mo_cut_28 : decode prog_13_method_34_code 28 = .ok (.iconst 0, 1) := by decide +kernel
theorem d_Mo_cut_29 : decode prog_13_method_34_code 29 = .ok (.ireturn, 1) := by decide +kernel
theorem d_Mo_cut_30 : decode prog_13_method_34_code 30 = .ok (.aload_n 0, 1) := by decide +kernel
theorem d_Mo_cut_31 : decode prog_13_method_34_code 31 = .ok (.getfield 99, 3) := by decide +kernel
theorem d_Mo_cut_34 : decode prog_13_method_34_code 34 = .ok (.iload_n 1, 1) := by decide +kernel
theorem d_Mo_cut_35 : decode prog_13_method_34_code 35 = .ok (.isub, 1) := by decide +kernel
theorem d_Mo_cut_36 : decode prog_13_method_34_code 36 = .ok (.istore_n 2, 1) := by decide +kernel
theorem d_Mo_cut_37 : decode prog_13_method_34_code 37 = .ok (.aload_n 0, 1) := by decide +kernel
theorem d_Mo_cut_38 : decode prog_13_method_34_code 38 = .ok (.iload_n 1, 1) := by decide +kernel
theorem d_Mo_cut_39 : decode prog_13_method_34_code 39 = .ok (.putfield 99, 3) := by decide +kernel
theorem d_Mo_cut_42 : decode prog_13_method_34_code 42 = .ok (.iload_n 2, 1) := by decide +kernel
theorem d_Mo_cut_43 : decode prog_13_method_34_code 43 = .ok (.ireturn, 1) := by decide +kernel
theorem d_Mo_told_0 : decode prog_13_method_35_code 0 = .ok (.aload_n 0, 1) := by decide +kernel
theorem d_Mo_told_1 : decode prog_13_method_35_code 1 = .ok (.iconst 0, 1) := by decide +kernel
theorem d_Mo_told_2 : decode prog_13_method_35_code 2 = .ok (.putfield 56, 3) := by decide +kernel
theorem d_Mo_told_5 : decode prog_13_method_35_code 5 = .ok (.aload_n 0, 1) := by decide +kernel
theorem d_Mo_told_6 : decode prog_13_method_35_code 6 = .ok (.getfield 190, 3) := by decide +kernel
theorem d_Mo_told_9 : decode prog_13_method_35_code 9 = .ok (.ireturn, 1) := by decide +kernel
theorem d_Mo_byteAt_0 : decode prog_13_method_36_code 0 = .ok (.aload_n 0, 1) := by decide +kernel
theorem d_Mo_byteAt_1 : decode prog_13_method_36_code 1 = .ok (.iconst 0, 1) := by decide +kernel
theorem d_Mo_byteAt_2 : decode prog_13_method_36_code 2 = .ok (.putfield 56, 3) := by decide +kernel
theorem d_Mo_byteAt_5 : decode prog_13_method_36_code 5 = .ok (.iload_n 1, 1) := by decide +kernel
theorem d_Mo_byteAt_6 : decode prog_13_method_36_code 6 = .ok (.ifCond .lt 11, 3) := by decide +kernel
theorem d_Mo_byteAt_9 : decode prog_13_method_36_code 9 = .ok (.iload_n 1, 1) := by decide +kernel
theorem d_Mo_byteAt_10 : decode prog_13_method_36_code 10 = .ok (.aload_n 0, 1) := by decide +kernel
theorem d_Mo_byteAt_11 : decode prog_13_method_36_code 11 = .ok (.getfield 190, 3) := by decide +kernel
theorem d_Mo_byteAt_14 : decode prog_13_method_36_code 14 = .ok (.if_icmp .lt 7, 3) := by decide +kernel
theorem d_Mo_byteAt_17 : decode prog_13_method_36_code 17 = .ok (.iconst (-1), 1) := by decide +kernel
theorem d_Mo_byteAt_18 : decode prog_13_method_36_code 18 = .ok (.goto 9, 3) := by decide +kernel
theorem d_Mo_byteAt_21 : decode prog_13_method_36_code 21 = .ok (.aload_n 0, 1) := by decide +kernel
theorem d_Mo_byteAt_22 : decode prog_13_method_36_code 22 = .ok (.getfield 16, 3) := by decide +kernel
theorem d_Mo_byteAt_25 : decode prog_13_method_36_code 25 = .ok (.iload_n 1, 1) := by decide +kernel
theorem d_Mo_byteAt_26 : decode prog_13_method_36_code 26 = .ok (.iaload, 1) := by decide +kernel
theorem d_Mo_byteAt_27 : decode prog_13_method_36_code 27 = .ok (.ireturn, 1) := by decide +kernel
theorem d_By_init_0 : decode prog_2_method_1_code 0 = .ok (.aload_n 0, 1) := by decide +kernel
theorem d_By_init_1 : decode prog_2_method_1_code 1 = .ok (.invokespecial 3, 3) := by decide +kernel
theorem d_By_init_4 : decode prog_2_method_1_code 4 = .ok (.aload_n 0, 1) := by decide +kernel
theorem d_By_init_5 : decode prog_2_method_1_code 5 = .ok (.iload_n 1, 1) := by decide +kernel
theorem d_By_init_6 : decode prog_2_method_1_code 6 = .ok (.newarray .int, 2) := by decide +kernel
theorem d_By_init_8 : decode prog_2_method_1_code 8 = .ok (.putfield 9, 3) := by decide +kernel
theorem d_By_init_11 : decode prog_2_method_1_code 11 = .ok (.return_, 1) := by decide +kernel
theorem d_By_has_0 : decode prog_2_method_2_code 0 = .ok (.iload_n 1, 1) := by decide +kernel
theorem d_By_has_1 : decode prog_2_method_2_code 1 = .ok (.ifCond .lt 15, 3) := by decide +kernel
theorem d_By_has_4 : decode prog_2_method_2_code 4 = .ok (.iload_n 1, 1) := by decide +kernel
theorem d_By_has_5 : decode prog_2_method_2_code 5 = .ok (.aload_n 0, 1) := by decide +kernel
theorem d_By_has_6 : decode prog_2_method_2_code 6 = .ok (.getfield 15, 3) := by decide +kernel
theorem d_By_has_9 : decode prog_2_method_2_code 9 = .ok (.if_icmp .ge 7, 3) := by decide +kernel
theorem d_By_has_12 : decode prog_2_method_2_code 12 = .ok (.iconst 1, 1) := by decide +kernel
theorem d_By_has_13 : decode prog_2_method_2_code 13 = .ok (.goto 4, 3) := by decide +kernel
theorem d_By_has_16 : decode prog_2_method_2_code 16 = .ok (.iconst 0, 1) := by decide +kernel
theorem d_By_has_17 : decode prog_2_method_2_code 17 = .ok (.ireturn, 1) := by decide +kernel
theorem d_By_get_0 : decode prog_2_method_3_code 0 = .ok (.aload_n 0, 1) := by decide +kernel
theorem d_By_get_1 : decode prog_2_method_3_code 1 = .ok (.iload_n 1, 1) := by decide +kernel
theorem d_By_get_2 : decode prog_2_method_3_code 2 = .ok (.invokevirtual 19, 3) := by decide +kernel
theorem d_By_get_5 : decode prog_2_method_3_code 5 = .ok (.ifCond .eq 12, 3) := by decide +kernel
theorem d_By_get_8 : decode prog_2_method_3_code 8 = .ok (.aload_n 0, 1) := by decide +kernel
theorem d_By_get_9 : decode prog_2_method_3_code 9 = .ok (.getfield 9, 3) := by decide +kernel
theorem d_By_get_12 : decode prog_2_method_3_code 12 = .ok (.iload_n 1, 1) := by decide +kernel
theorem d_By_get_13 : decode prog_2_method_3_code 13 = .ok (.iaload, 1) := by decide +kernel
theorem d_By_get_14 : decode prog_2_method_3_code 14 = .ok (.goto 4, 3) := by decide +kernel
theorem d_By_get_17 : decode prog_2_method_3_code 17 = .ok (.iconst (-1), 1) := by decide +kernel
theorem d_By_get_18 : decode prog_2_method_3_code 18 = .ok (.ireturn, 1) := by decide +kernel
theorem d_By_append_0 : decode prog_2_method_4_code 0 = .ok (.iload_n 1, 1) := by decide +kernel
theorem d_By_append_1 : decode prog_2_method_4_code 1 = .ok (.invokestatic 23, 3) := by decide +kernel
theorem d_By_append_4 : decode prog_2_method_4_code 4 = .ok (.ifCond .eq 15, 3) := by decide +kernel
theorem d_By_append_7 : decode prog_2_method_4_code 7 = .ok (.aload_n 0, 1) := by decide +kernel
theorem d_By_append_8 : decode prog_2_method_4_code 8 = .ok (.getfield 15, 3) := by decide +kernel
theorem d_By_append_11 : decode prog_2_method_4_code 11 = .ok (.aload_n 0, 1) := by decide +kernel
theorem d_By_append_12 : decode prog_2_method_4_code 12 = .ok (.getfield 9, 3) := by decide +kernel
theorem d_By_append_15 : decode prog_2_method_4_code 15 = .ok (.arraylength, 1) := by decide +kernel
theorem d_By_append_16 : decode prog_2_method_4_code 16 = .ok (.if_icmp .lt 5, 3) := by decide +kernel
theorem d_By_append_19 : decode prog_2_method_4_code 19 = .ok (.iconst 0, 1) := by decide +kernel
theorem d_By_append_20 : decode prog_2_method_4_code 20 = .ok (.ireturn, 1) := by decide +kernel
theorem d_By_append_21 : decode prog_2_method_4_code 21 = .ok (.aload_n 0, 1) := by decide +kernel
theorem d_By_append_22 : decode prog_2_method_4_code 22 = .ok (.getfield 9, 3) := by decide +kernel
theorem d_By_append_25 : decode prog_2_method_4_code 25 = .ok (.aload_n 0, 1) := by decide +kernel
theorem d_By_append_26 : decode prog_2_method_4_code 26 = .ok (.getfield 15, 3) := by decide +kernel
theorem d_By_append_29 : decode prog_2_method_4_code 29 = .ok (.iload_n 1, 1) := by decide +kernel
theorem d_By_append_30 : decode prog_2_method_4_code 30 = .ok (.iastore, 1) := by decide +kernel
theorem d_By_append_31 : decode prog_2_method_4_code 31 = .ok (.aload_n 0, 1) := by decide +kernel
theorem d_By_append_32 : decode prog_2_method_4_code 32 = .ok (.dup, 1) := by decide +kernel
end
section
theorem d_By_append_33 : decode prog_2_method_4_code 33 = .ok (.getfield 15, 3) := by decide +kernel
theorem d_By_append_36 : decode prog_2_method_4_code 36 = .ok (.iconst 1, 1) := by decide +kernel
theorem d_By_append_37 : decode prog_2_method_4_code 37 = .ok (.iadd, 1) := by decide +kernel
theorem d_By_append_38 : decode prog_2_method_4_code 38 = .ok (.putfield 15, 3) := by decide +kernel
theorem d_By_append_41 : decode prog_2_method_4_code 41 = .ok (.iconst 1, 1) := by decide +kernel
theorem d_By_append_42 : decode prog_2_method_4_code 42 = .ok (.ireturn, 1) := by decide +kernel
theorem d_By_shorten_0 : decode prog_2_method_5_code 0 = .ok (.aload_n 0, 1) := by decide +kernel
theorem d_By_shorten_1 : decode prog_2_method_5_code 1 = .ok (.getfield 15, 3) := by decide +kernel
theorem d_By_shorten_4 : decode prog_2_method_5_code 4 = .ok (.istore_n 2, 1) := by decide +kernel
theorem d_By_shorten_5 : decode prog_2_method_5_code 5 = .ok (.aload_n 0, 1) := by decide +kernel
theorem d_By_shorten_6 : decode prog_2_method_5_code 6 = .ok (.iconst 0, 1) := by decide +kernel
theorem d_By_shorten_7 : decode prog_2_method_5_code 7 = .ok (.iload_n 1, 1) := by decide +kernel
theorem d_By_shorten_8 : decode prog_2_method_5_code 8 = .ok (.iload_n 2, 1) := by decide +kernel
theorem d_By_shorten_9 : decode prog_2_method_5_code 9 = .ok (.invokestatic 26, 3) := by decide +kernel
theorem d_By_shorten_12 : decode prog_2_method_5_code 12 = .ok (.invokestatic 32, 3) := by decide +kernel
theorem d_By_shorten_15 : decode prog_2_method_5_code 15 = .ok (.putfield 15, 3) := by decide +kernel
theorem d_By_shorten_18 : decode prog_2_method_5_code 18 = .ok (.iload_n 2, 1) := by decide +kernel
theorem d_By_shorten_19 : decode prog_2_method_5_code 19 = .ok (.aload_n 0, 1) := by decide +kernel
theorem d_By_shorten_20 : decode prog_2_method_5_code 20 = .ok (.getfield 15, 3) := by decide +kernel
theorem d_By_shorten_23 : decode prog_2_method_5_code 23 = .ok (.isub, 1) := by decide +kernel
theorem d_By_shorten_24 : decode prog_2_method_5_code 24 = .ok (.ireturn, 1) := by decide +kernel
theorem d_By_copy_0 : decode prog_2_method_6_code 0 = .ok (.aload_n 0, 1) := by decide +kernel
theorem d_By_copy_1 : decode prog_2_method_6_code 1 = .ok (.iconst 0, 1) := by decide +kernel
theorem d_By_copy_2 : decode prog_2_method_6_code 2 = .ok (.iload_n 2, 1) := by decide +kernel
theorem d_By_copy_3 : decode prog_2_method_6_code 3 = .ok (.aload_n 1, 1) := by decide +kernel
theorem d_By_copy_4 : decode prog_2_method_6_code 4 = .ok (.arraylength, 1) := by decide +kernel
theorem d_By_copy_5 : decode prog_2_method_6_code 5 = .ok (.aload_n 0, 1) := by decide +kernel
theorem d_By_copy_6 : decode prog_2_method_6_code 6 = .ok (.getfield 9, 3) := by decide +kernel
theorem d_By_copy_9 : decode prog_2_method_6_code 9 = .ok (.arraylength, 1) := by decide +kernel
theorem d_By_copy_10 : decode prog_2_method_6_code 10 = .ok (.invokestatic 26, 3) := by decide +kernel
theorem d_By_copy_13 : decode prog_2_method_6_code 13 = .ok (.invokestatic 26, 3) := by decide +kernel
theorem d_By_copy_16 : decode prog_2_method_6_code 16 = .ok (.invokestatic 32, 3) := by decide +kernel
theorem d_By_copy_19 : decode prog_2_method_6_code 19 = .ok (.putfield 15, 3) := by decide +kernel
theorem d_By_copy_22 : decode prog_2_method_6_code 22 = .ok (.aload_n 1, 1) := by decide +kernel
theorem d_By_copy_23 : decode prog_2_method_6_code 23 = .ok (.iconst 0, 1) := by decide +kernel
theorem d_By_copy_24 : decode prog_2_method_6_code 24 = .ok (.aload_n 0, 1) := by decide +kernel
theorem d_By_copy_25 : decode prog_2_method_6_code 25 = .ok (.getfield 9, 3) := by decide +kernel
theorem d_By_copy_28 : decode prog_2_method_6_code 28 = .ok (.iconst 0, 1) := by decide +kernel
theorem d_By_copy_29 : decode prog_2_method_6_code 29 = .ok (.aload_n 0, 1) := by decide +kernel
theorem d_By_copy_30 : decode prog_2_method_6_code 30 = .ok (.getfield 15, 3) := by decide +kernel
theorem d_By_copy_33 : decode prog_2_method_6_code 33 = .ok (.invokestatic 35, 3) := by decide +kernel
theorem d_By_copy_36 : decode prog_2_method_6_code 36 = .ok (.return_, 1) := by decide +kernel
theorem d_Ch_init_0 : decode prog_3_method_1_code 0 = .ok (.aload_n 0, 1) := by decide +kernel
theorem d_Ch_init_1 : decode prog_3_method_1_code 1 = .ok (.invokespecial 3, 3) := by decide +kernel
theorem d_Ch_init_4 : decode prog_3_method_1_code 4 = .ok (.aload_n 0, 1) := by decide +kernel
theorem d_Ch_init_5 : decode prog_3_method_1_code 5 = .ok (.sipush 3820, 3) := by decide +kernel
theorem d_Ch_init_8 : decode prog_3_method_1_code 8 = .ok (.newarray .int, 2) := by decide +kernel
theorem d_Ch_init_10 : decode prog_3_method_1_code 10 = .ok (.putfield 9, 3) := by decide +kernel
theorem d_Ch_init_13 : decode prog_3_method_1_code 13 = .ok (.return_, 1) := by decide +kernel
theorem d_Ch_forget_0 : decode prog_3_method_2_code 0 = .ok (.aload_n 0, 1) := by decide +kernel
theorem d_Ch_forget_1 : decode prog_3_method_2_code 1 = .ok (.getfield 9, 3) := by decide +kernel
theorem d_Ch_forget_4 : decode prog_3_method_2_code 4 = .ok (.sipush 1024, 3) := by decide +kernel
theorem d_Ch_forget_7 : decode prog_3_method_2_code 7 = .ok (.invokestatic 15, 3) := by decide +kernel
theorem d_Ch_forget_10 : decode prog_3_method_2_code 10 = .ok (.return_, 1) := by decide +kernel
theorem d_Ch_boundIn_0 : decode prog_3_method_3_code 0 = .ok (.lload_n 1, 1) := by decide +kernel
theorem d_Ch_boundIn_1 : decode prog_3_method_3_code 1 = .ok (.bipush 11, 2) := by decide +kernel
theorem d_Ch_boundIn_3 : decode prog_3_method_3_code 3 = .ok (.lshr, 1) := by decide +kernel
theorem d_Ch_boundIn_4 : decode prog_3_method_3_code 4 = .ok (.aload_n 0, 1) := by decide +kernel
theorem d_Ch_boundIn_5 : decode prog_3_method_3_code 5 = .ok (.getfield 9, 3) := by decide +kernel
theorem d_Ch_boundIn_8 : decode prog_3_method_3_code 8 = .ok (.iload_n 3, 1) := by decide +kernel
theorem d_Ch_boundIn_9 : decode prog_3_method_3_code 9 = .ok (.iaload, 1) := by decide +kernel
theorem d_Ch_boundIn_10 : decode prog_3_method_3_code 10 = .ok (.i2l, 1) := by decide +kernel
theorem d_Ch_boundIn_11 : decode prog_3_method_3_code 11 = .ok (.lmul, 1) := by decide +kernel
theorem d_Ch_boundIn_12 : decode prog_3_method_3_code 12 = .ok (.lreturn, 1) := by decide +kernel
theorem d_Ch_learn_0 : decode prog_3_method_4_code 0 = .ok (.aload_n 0, 1) := by decide +kernel
theorem d_Ch_learn_1 : decode prog_3_method_4_code 1 = .ok (.getfield 9, 3) := by decide +kernel
theorem d_Ch_learn_4 : decode prog_3_method_4_code 4 = .ok (.iload_n 1, 1) := by decide +kernel
theorem d_Ch_learn_5 : decode prog_3_method_4_code 5 = .ok (.iaload, 1) := by decide +kernel
theorem d_Ch_learn_6 : decode prog_3_method_4_code 6 = .ok (.istore_n 3, 1) := by decide +kernel
theorem d_Ch_learn_7 : decode prog_3_method_4_code 7 = .ok (.aload_n 0, 1) := by decide +kernel
theorem d_Ch_learn_8 : decode prog_3_method_4_code 8 = .ok (.getfield 9, 3) := by decide +kernel
theorem d_Ch_learn_11 : decode prog_3_method_4_code 11 = .ok (.iload_n 1, 1) := by decide +kernel
theorem d_Ch_learn_12 : decode prog_3_method_4_code 12 = .ok (.iload_n 2, 1) := by decide +kernel
theorem d_Ch_learn_13 : decode prog_3_method_4_code 13 = .ok (.ifCond .ne 15, 3) := by decide +kernel
theorem d_Ch_learn_16 : decode prog_3_method_4_code 16 = .ok (.iload_n 3, 1) := by decide +kernel
theorem d_Ch_learn_17 : decode prog_3_method_4_code 17 = .ok (.sipush 2048, 3) := by decide +kernel
theorem d_Ch_learn_20 : decode prog_3_method_4_code 20 = .ok (.iload_n 3, 1) := by decide +kernel
theorem d_Ch_learn_21 : decode prog_3_method_4_code 21 = .ok (.isub, 1) := by decide +kernel
theorem d_Ch_learn_22 : decode prog_3_method_4_code 22 = .ok (.iconst 5, 1) := by decide +kernel
theorem d_Ch_learn_23 : decode prog_3_method_4_code 23 = .ok (.ishr, 1) := by decide +kernel
theorem d_Ch_learn_24 : decode prog_3_method_4_code 24 = .ok (.iadd, 1) := by decide +kernel
theorem d_Ch_learn_25 : decode prog_3_method_4_code 25 = .ok (.goto 8, 3) := by decide +kernel
theorem d_Ch_learn_28 : decode prog_3_method_4_code 28 = .ok (.iload_n 3, 1) := by decide +kernel
theorem d_Ch_learn_29 : decode prog_3_method_4_code 29 = .ok (.iload_n 3, 1) := by decide +kernel
theorem d_Ch_learn_30 : decode prog_3_method_4_code 30 = .ok (.iconst 5, 1) := by decide +kernel
theorem d_Ch_learn_31 : decode prog_3_method_4_code 31 = .ok (.ishr, 1) := by decide +kernel
theorem d_Ch_learn_32 : decode prog_3_method_4_code 32 = .ok (.isub, 1) := by decide +kernel
theorem d_Ch_learn_33 : decode prog_3_method_4_code 33 = .ok (.iastore, 1) := by decide +kernel
theorem d_Ch_learn_34 : decode prog_3_method_4_code 34 = .ok (.return_, 1) := by decide +kernel
theorem d_Co_init_0 : decode prog_4_method_1_code 0 = .ok (.aload_n 0, 1) := by decide +kernel
theorem d_Co_init_1 : decode prog_4_method_1_code 1 = .ok (.invokespecial 3, 3) := by decide +kernel
theorem d_Co_init_4 : decode prog_4_method_1_code 4 = .ok (.aload_n 0, 1) := by decide +kernel
theorem d_Co_init_5 : decode prog_4_method_1_code 5 = .ok (.iload_n 1, 1) := by decide +kernel
theorem d_Co_init_6 : decode prog_4_method_1_code 6 = .ok (.putfield 9, 3) := by decide +kernel
theorem d_Co_init_9 : decode prog_4_method_1_code 9 = .ok (.return_, 1) := by decide +kernel
theorem d_Co_choose_0 : decode prog_4_method_2_code 0 = .ok (.aload_n 3, 1) := by decide +kernel
theorem d_Co_choose_1 : decode prog_4_method_2_code 1 = .ok (.getfield 15, 3) := by decide +kernel
theorem d_Co_choose_4 : decode prog_4_method_2_code 4 = .ok (.getfield 21, 3) := by decide +kernel
theorem d_Co_choose_7 : decode prog_4_method_2_code 7 = .ok (.istore 4, 2) := by decide +kernel
theorem d_Co_choose_9 : decode prog_4_method_2_code 9 = .ok (.aload_n 3, 1) := by decide +kernel
theorem d_Co_choose_10 : decode prog_4_method_2_code 10 = .ok (.getfield 26, 3) := by decide +kernel
theorem d_Co_choose_13 : decode prog_4_method_2_code 13 = .ok (.astore 5, 2) := by decide +kernel
theorem d_Co_choose_15 : decode prog_4_method_2_code 15 = .ok (.aload_n 0, 1) := by decide +kernel
theorem d_Co_choose_16 : decode prog_4_method_2_code 16 = .ok (.aload_n 2, 1) := by decide +kernel
theorem d_Co_choose_17 : decode prog_4_method_2_code 17 = .ok (.iload 4, 2) := by decide +kernel
theorem d_Co_choose_19 : decode prog_4_method_2_code 19 = .ok (.invokevirtual 30, 3) := by decide +kernel
theorem d_Co_choose_22 : decode prog_4_method_2_code 22 = .ok (.aload_n 0, 1) := by decide +kernel
theorem d_Co_choose_23 : decode prog_4_method_2_code 23 = .ok (.aload_n 2, 1) := by decide +kernel
theorem d_Co_choose_24 : decode prog_4_method_2_code 24 = .ok (.iload 4, 2) := by decide +kernel
theorem d_Co_choose_26 : decode prog_4_method_2_code 26 = .ok (.aload 5, 2) := by decide +kernel
theorem d_Co_choose_28 : decode prog_4_method_2_code 28 = .ok (.invokevirtual 34, 3) := by decide +kernel
theorem d_Co_choose_31 : decode prog_4_method_2_code 31 = .ok (.aload_n 0, 1) := by decide +kernel
theorem d_Co_choose_32 : decode prog_4_method_2_code 32 = .ok (.getfield 38, 3) := by decide +kernel
theorem d_Co_choose_35 : decode prog_4_method_2_code 35 = .ok (.iconst 2, 1) := by decide +kernel
theorem d_Co_choose_36 : decode prog_4_method_2_code 36 = .ok (.if_icmp .lt 36, 3) := by decide +kernel
theorem d_Co_choose_39 : decode prog_4_method_2_code 39 = .ok (.aload_n 0, 1) := by decide +kernel
theorem d_Co_choose_40 : decode prog_4_method_2_code 40 = .ok (.getfield 38, 3) := by decide +kernel
theorem d_Co_choose_43 : decode prog_4_method_2_code 43 = .ok (.aload_n 0, 1) := by decide +kernel
theorem d_Co_choose_44 : decode prog_4_method_2_code 44 = .ok (.getfield 41, 3) := by decide +kernel
theorem d_Co_choose_47 : decode prog_4_method_2_code 47 = .ok (.if_icmp .lt 25, 3) := by decide +kernel
theorem d_Co_choose_50 : decode prog_4_method_2_code 50 = .ok (.aload_n 1, 1) := by decide +kernel
theorem d_Co_choose_51 : decode prog_4_method_2_code 51 = .ok (.aload_n 0, 1) := by decide +kernel
theorem d_Co_choose_52 : decode prog_4_method_2_code 52 = .ok (.getfield 44, 3) := by decide +kernel
theorem d_Co_choose_55 : decode prog_4_method_2_code 55 = .ok (.aload_n 0, 1) := by decide +kernel
theorem d_Co_choose_56 : decode prog_4_method_2_code 56 = .ok (.getfield 38, 3) := by decide +kernel
theorem d_Co_choose_59 : decode prog_4_method_2_code 59 = .ok (.aload 5, 2) := by decide +kernel
theorem d_Co_choose_61 : decode prog_4_method_2_code 61 = .ok (.aload_n 0, 1) := by decide +kernel
theorem d_Co_choose_62 : decode prog_4_method_2_code 62 = .ok (.getfield 44, 3) := by decide +kernel
theorem d_Co_choose_65 : decode prog_4_method_2_code 65 = .ok (.iaload, 1) := by decide +kernel
theorem d_Co_choose_66 : decode prog_4_method_2_code 66 = .ok (.invokevirtual 47, 3) := by decide +kernel
theorem d_Co_choose_69 : decode prog_4_method_2_code 69 = .ok (.goto 63, 3) := by decide +kernel
theorem d_Co_choose_72 : decode prog_4_method_2_code 72 = .ok (.aload_n 0, 1) := by decide +kernel
theorem d_Co_choose_73 : decode prog_4_method_2_code 73 = .ok (.getfield 41, 3) := by decide +kernel
theorem d_Co_choose_76 : decode prog_4_method_2_code 76 = .ok (.iconst 2, 1) := by decide +kernel
theorem d_Co_choose_77 : decode prog_4_method_2_code 77 = .ok (.if_icmp .lt 18, 3) := by decide +kernel
theorem d_Co_choose_80 : decode prog_4_method_2_code 80 = .ok (.aload_n 1, 1) := by decide +kernel
theorem d_Co_choose_81 : decode prog_4_method_2_code 81 = .ok (.aload_n 0, 1) := by decide +kernel
theorem d_Co_choose_82 : decode prog_4_method_2_code 82 = .ok (.getfield 41, 3) := by decide +kernel
theorem d_Co_choose_85 : decode prog_4_method_2_code 85 = .ok (.aload_n 0, 1) := by decide +kernel
theorem d_Co_choose_86 : decode prog_4_method_2_code 86 = .ok (.getfield 53, 3) := by decide +kernel
theorem d_Co_choose_89 : decode prog_4_method_2_code 89 = .ok (.invokevirtual 56, 3) := by decide +kernel
theorem d_Co_choose_92 : decode prog_4_method_2_code 92 = .ok (.goto 40, 3) := by decide +kernel
theorem d_Co_choose_95 : decode prog_4_method_2_code 95 = .ok (.aload_n 2, 1) := by decide +kernel
theorem d_Co_choose_96 : decode prog_4_method_2_code 96 = .ok (.iload 4, 2) := by decide +kernel
theorem d_Co_choose_98 : decode prog_4_method_2_code 98 = .ok (.aload 5, 2) := by decide +kernel
theorem d_Co_choose_100 : decode prog_4_method_2_code 100 = .ok (.iconst 0, 1) := by decide +kernel
theorem d_Co_choose_101 : decode prog_4_method_2_code 101 = .ok (.iaload, 1) := by decide +kernel
theorem d_Co_choose_102 : decode prog_4_method_2_code 102 = .ok (.isub, 1) := by decide +kernel
theorem d_Co_choose_103 : decode prog_4_method_2_code 103 = .ok (.iload 4, 2) := by decide +kernel
theorem d_Co_choose_105 : decode prog_4_method_2_code 105 = .ok (.invokestatic 60, 3) := by decide +kernel
theorem d_Co_choose_108 : decode prog_4_method_2_code 108 = .ok (.ifCond .le 14, 3) := by decide +kernel
theorem d_Co_choose_111 : decode prog_4_method_2_code 111 = .ok (.aload_n 1, 1) := by decide +kernel
theorem d_Co_choose_112 : decode prog_4_method_2_code 112 = .ok (.aload 5, 2) := by decide +kernel
theorem d_Co_choose_114 : decode prog_4_method_2_code 114 = .ok (.iconst 0, 1) := by decide +kernel
theorem d_Co_choose_115 : decode prog_4_method_2_code 115 = .ok (.iaload, 1) := by decide +kernel
theorem d_Co_choose_116 : decode prog_4_method_2_code 116 = .ok (.invokevirtual 64, 3) := by decide +kernel
theorem d_Co_choose_119 : decode prog_4_method_2_code 119 = .ok (.goto 13, 3) := by decide +kernel
theorem d_Co_choose_122 : decode prog_4_method_2_code 122 = .ok (.aload_n 1, 1) := by decide +kernel
theorem d_Co_choose_123 : decode prog_4_method_2_code 123 = .ok (.aload_n 2, 1) := by decide +kernel
theorem d_Co_choose_124 : decode prog_4_method_2_code 124 = .ok (.iload 4, 2) := by decide +kernel
theorem d_Co_choose_126 : decode prog_4_method_2_code 126 = .ok (.invokevirtual 68, 3) := by decide +kernel
theorem d_Co_choose_129 : decode prog_4_method_2_code 129 = .ok (.invokevirtual 72, 3) := by decide +kernel
theorem d_Co_choose_132 : decode prog_4_method_2_code 132 = .ok (.return_, 1) := by decide +kernel
theorem d_Co_findMatch_0 : decode prog_4_method_3_code 0 = .ok (.aload_n 0, 1) := by decide +kernel
theorem d_Co_findMatch_1 : decode prog_4_method_3_code 1 = .ok (.iconst 0, 1) := by decide +kernel
theorem d_Co_findMatch_2 : decode prog_4_method_3_code 2 = .ok (.putfield 41, 3) := by decide +kernel
theorem d_Co_findMatch_5 : decode prog_4_method_3_code 5 = .ok (.aload_n 0, 1) := by decide +kernel
theorem d_Co_findMatch_6 : decode prog_4_method_3_code 6 = .ok (.iconst 0, 1) := by decide +kernel
theorem d_Co_findMatch_7 : decode prog_4_method_3_code 7 = .ok (.putfield 53, 3) := by decide +kernel
theorem d_Co_findMatch_10 : decode prog_4_method_3_code 10 = .ok (.iconst 0, 1) := by decide +kernel
theorem d_Co_findMatch_11 : decode prog_4_method_3_code 11 = .ok (.istore_n 3, 1) := by decide +kernel
theorem d_Co_findMatch_12 : decode prog_4_method_3_code 12 = .ok (.iload_n 2, 1) := by decide +kernel
theorem d_Co_findMatch_13 : decode prog_4_method_3_code 13 = .ok (.iconst 1, 1) := by decide +kernel
theorem d_Co_findMatch_14 : decode prog_4_method_3_code 14 = .ok (.isub, 1) := by decide +kernel
theorem d_Co_findMatch_15 : decode prog_4_method_3_code 15 = .ok (.istore 4, 2) := by decide +kernel
theorem d_Co_findMatch_17 : decode prog_4_method_3_code 17 = .ok (.iload 4, 2) := by decide +kernel
theorem d_Co_findMatch_19 : decode prog_4_method_3_code 19 = .ok (.ifCond .lt 58, 3) := by decide +kernel
theorem d_Co_findMatch_22 : decode prog_4_method_3_code 22 = .ok (.iload_n 3, 1) := by decide +kernel
theorem d_Co_findMatch_23 : decode prog_4_method_3_code 23 = .ok (.aload_n 0, 1) := by decide +kernel
theorem d_Co_findMatch_24 : decode prog_4_method_3_code 24 = .ok (.getfield 9, 3) := by decide +kernel
theorem d_Co_findMatch_27 : decode prog_4_method_3_code 27 = .ok (.if_icmp .ge 50, 3) := by decide +kernel
theorem d_Co_findMatch_30 : decode prog_4_method_3_code 30 = .ok (.aload_n 1, 1) := by decide +kernel
theorem d_Co_findMatch_31 : decode prog_4_method_3_code 31 = .ok (.iload 4, 2) := by decide +kernel
theorem d_Co_findMatch_33 : decode prog_4_method_3_code 33 = .ok (.iload_n 2, 1) := by decide +kernel
theorem d_Co_findMatch_34 : decode prog_4_method_3_code 34 = .ok (.invokestatic 60, 3) := by decide +kernel
theorem d_Co_findMatch_37 : decode prog_4_method_3_code 37 = .ok (.istore 5, 2) := by decide +kernel
theorem d_Co_findMatch_39 : decode prog_4_method_3_code 39 = .ok (.iload 5, 2) := by decide +kernel
theorem d_Co_findMatch_41 : decode prog_4_method_3_code 41 = .ok (.iconst 2, 1) := by decide +kernel
theorem d_Co_findMatch_42 : decode prog_4_method_3_code 42 = .ok (.if_icmp .lt 29, 3) := by decide +kernel
theorem d_Co_findMatch_45 : decode prog_4_method_3_code 45 = .ok (.iinc 3 1, 3) := by decide +kernel
theorem d_Co_findMatch_48 : decode prog_4_method_3_code 48 = .ok (.iload 5, 2) := by decide +kernel
theorem d_Co_findMatch_50 : decode prog_4_method_3_code 50 = .ok (.aload_n 0, 1) := by decide +kernel
theorem d_Co_findMatch_51 : decode prog_4_method_3_code 51 = .ok (.getfield 41, 3) := by decide +kernel
theorem d_Co_findMatch_54 : decode prog_4_method_3_code 54 = .ok (.if_icmp .le 17, 3) := by decide +kernel
theorem d_Co_findMatch_57 : decode prog_4_method_3_code 57 = .ok (.aload_n 0, 1) := by decide +kernel
theorem d_Co_findMatch_58 : decode prog_4_method_3_code 58 = .ok (.iload 5, 2) := by decide +kernel
theorem d_Co_findMatch_60 : decode prog_4_method_3_code 60 = .ok (.putfield 41, 3) := by decide +kernel
theorem d_Co_findMatch_63 : decode prog_4_method_3_code 63 = .ok (.aload_n 0, 1) := by decide +kernel
theorem d_Co_findMatch_64 : decode prog_4_method_3_code 64 = .ok (.iload_n 2, 1) := by decide +kernel
theorem d_Co_findMatch_65 : decode prog_4_method_3_code 65 = .ok (.iload 4, 2) := by decide +kernel
theorem d_Co_findMatch_67 : decode prog_4_method_3_code 67 = .ok (.isub, 1) := by decide +kernel
theorem d_Co_findMatch_68 : decode prog_4_method_3_code 68 = .ok (.putfield 53, 3) := by decide +kernel
theorem d_Co_findMatch_71 : decode prog_4_method_3_code 71 = .ok (.iinc 4 (-1), 3) := by decide +kernel
theorem d_Co_findMatch_74 : decode prog_4_method_3_code 74 = .ok (.goto (-57), 3) := by decide +kernel
theorem d_Co_findMatch_77 : decode prog_4_method_3_code 77 = .ok (.return_, 1) := by decide +kernel
theorem d_Co_findEcho_0 : decode prog_4_method_4_code 0 = .ok (.aload_n 0, 1) := by decide +kernel
theorem d_Co_findEcho_1 : decode prog_4_method_4_code 1 = .ok (.iconst 0, 1) := by decide +kernel
theorem d_Co_findEcho_2 : decode prog_4_method_4_code 2 = .ok (.putfield 38, 3) := by decide +kernel
theorem d_Co_findEcho_5 : decode prog_4_method_4_code 5 = .ok (.aload_n 0, 1) := by decide +kernel
theorem d_Co_findEcho_6 : decode prog_4_method_4_code 6 = .ok (.iconst 0, 1) := by decide +kernel
theorem d_Co_findEcho_7 : decode prog_4_method_4_code 7 = .ok (.putfield 44, 3) := by decide +kernel
theorem d_Co_findEcho_10 : decode prog_4_method_4_code 10 = .ok (.iconst 0, 1) := by decide +kernel
theorem d_Co_findEcho_11 : decode prog_4_method_4_code 11 = .ok (.istore 4, 2) := by decide +kernel
theorem d_Co_findEcho_13 : decode prog_4_method_4_code 13 = .ok (.iload 4, 2) := by decide +kernel
theorem d_Co_findEcho_15 : decode prog_4_method_4_code 15 = .ok (.iconst 4, 1) := by decide +kernel
theorem d_Co_findEcho_16 : decode prog_4_method_4_code 16 = .ok (.if_icmp .ge 43, 3) := by decide +kernel
theorem d_Co_findEcho_19 : decode prog_4_method_4_code 19 = .ok (.aload_n 1, 1) := by decide +kernel
theorem d_Co_findEcho_20 : decode prog_4_method_4_code 20 = .ok (.iload_n 2, 1) := by decide +kernel
theorem d_Co_findEcho_21 : decode prog_4_method_4_code 21 = .ok (.aload_n 3, 1) := by decide +kernel
theorem d_Co_findEcho_22 : decode prog_4_method_4_code 22 = .ok (.iload 4, 2) := by decide +kernel
theorem d_Co_findEcho_24 : decode prog_4_method_4_code 24 = .ok (.iaload, 1) := by decide +kernel
theorem d_Co_findEcho_25 : decode prog_4_method_4_code 25 = .ok (.isub, 1) := by decide +kernel
theorem d_Co_findEcho_26 : decode prog_4_method_4_code 26 = .ok (.iload_n 2, 1) := by decide +kernel
theorem d_Co_findEcho_27 : decode prog_4_method_4_code 27 = .ok (.invokestatic 60, 3) := by decide +kernel
theorem d_Co_findEcho_30 : decode prog_4_method_4_code 30 = .ok (.istore 5, 2) := by decide +kernel
theorem d_Co_findEcho_32 : decode prog_4_method_4_code 32 = .ok (.iload 5, 2) := by decide +kernel
theorem d_Co_findEcho_34 : decode prog_4_method_4_code 34 = .ok (.aload_n 0, 1) := by decide +kernel
theorem d_Co_findEcho_35 : decode prog_4_method_4_code 35 = .ok (.getfield 38, 3) := by decide +kernel
theorem d_Co_findEcho_38 : decode prog_4_method_4_code 38 = .ok (.if_icmp .le 15, 3) := by decide +kernel
theorem d_Co_findEcho_41 : decode prog_4_method_4_code 41 = .ok (.aload_n 0, 1) := by decide +kernel
theorem d_Co_findEcho_42 : decode prog_4_method_4_code 42 = .ok (.iload 5, 2) := by decide +kernel
theorem d_Co_findEcho_44 : decode prog_4_method_4_code 44 = .ok (.putfield 38, 3) := by decide +kernel
theorem d_Co_findEcho_47 : decode prog_4_method_4_code 47 = .ok (.aload_n 0, 1) := by decide +kernel
theorem d_Co_findEcho_48 : decode prog_4_method_4_code 48 = .ok (.iload 4, 2) := by decide +kernel
theorem d_Co_findEcho_50 : decode prog_4_method_4_code 50 = .ok (.putfield 44, 3) := by decide +kernel
theorem d_Co_findEcho_53 : decode prog_4_method_4_code 53 = .ok (.iinc 4 1, 3) := by decide +kernel
theorem d_Co_findEcho_56 : decode prog_4_method_4_code 56 = .ok (.goto (-43), 3) := by decide +kernel
theorem d_Co_findEcho_59 : decode prog_4_method_4_code 59 = .ok (.return_, 1) := by decide +kernel
theorem d_Co_agreeing_0 : decode prog_4_method_5_code 0 = .ok (.iload_n 1, 1) := by decide +kernel
theorem d_Co_agreeing_1 : decode prog_4_method_5_code 1 = .ok (.ifCond .lt 8, 3) := by decide +kernel
theorem d_Co_agreeing_4 : decode prog_4_method_5_code 4 = .ok (.iload_n 1, 1) := by decide +kernel
theorem d_Co_agreeing_5 : decode prog_4_method_5_code 5 = .ok (.iload_n 2, 1) := by decide +kernel
theorem d_Co_agreeing_6 : decode prog_4_method_5_code 6 = .ok (.if_icmp .lt 5, 3) := by decide +kernel
theorem d_Co_agreeing_9 : decode prog_4_method_5_code 9 = .ok (.iconst 0, 1) := by decide +kernel
theorem d_Co_agreeing_10 : decode prog_4_method_5_code 10 = .ok (.ireturn, 1) := by decide +kernel
theorem d_Co_agreeing_11 : decode prog_4_method_5_code 11 = .ok (.iconst 0, 1) := by decide +kernel
theorem d_Co_agreeing_12 : decode prog_4_method_5_code 12 = .ok (.istore_n 3, 1) := by decide +kernel
theorem d_Co_agreeing_13 : decode prog_4_method_5_code 13 = .ok (.iload_n 2, 1) := by decide +kernel
theorem d_Co_agreeing_14 : decode prog_4_method_5_code 14 = .ok (.iload_n 3, 1) := by decide +kernel
theorem d_Co_agreeing_15 : decode prog_4_method_5_code 15 = .ok (.iadd, 1) := by decide +kernel
theorem d_Co_agreeing_16 : decode prog_4_method_5_code 16 = .ok (.aload_n 0, 1) := by decide +kernel
theorem d_Co_agreeing_17 : decode prog_4_method_5_code 17 = .ok (.getfield 21, 3) := by decide +kernel
theorem d_Co_agreeing_20 : decode prog_4_method_5_code 20 = .ok (.if_icmp .ge 28, 3) := by decide +kernel
theorem d_Co_agreeing_23 : decode prog_4_method_5_code 23 = .ok (.aload_n 0, 1) := by decide +kernel
theorem d_Co_agreeing_24 : decode prog_4_method_5_code 24 = .ok (.getfield 75, 3) := by decide +kernel
theorem d_Co_agreeing_27 : decode prog_4_method_5_code 27 = .ok (.iload_n 1, 1) := by decide +kernel
theorem d_Co_agreeing_28 : decode prog_4_method_5_code 28 = .ok (.iload_n 3, 1) := by decide +kernel
theorem d_Co_agreeing_29 : decode prog_4_method_5_code 29 = .ok (.iadd, 1) := by decide +kernel
theorem d_Co_agreeing_30 : decode prog_4_method_5_code 30 = .ok (.iaload, 1) := by decide +kernel
theorem d_Co_agreeing_31 : decode prog_4_method_5_code 31 = .ok (.aload_n 0, 1) := by decide +kernel
theorem d_Co_agreeing_32 : decode prog_4_method_5_code 32 = .ok (.getfield 75, 3) := by decide +kernel
theorem d_Co_agreeing_35 : decode prog_4_method_5_code 35 = .ok (.iload_n 2, 1) := by decide +kernel
theorem d_Co_agreeing_36 : decode prog_4_method_5_code 36 = .ok (.iload_n 3, 1) := by decide +kernel
theorem d_Co_agreeing_37 : decode prog_4_method_5_code 37 = .ok (.iadd, 1) := by decide +kernel
theorem d_Co_agreeing_38 : decode prog_4_method_5_code 38 = .ok (.iaload, 1) := by decide +kernel
theorem d_Co_agreeing_39 : decode prog_4_method_5_code 39 = .ok (.if_icmp .ne 9, 3) := by decide +kernel
theorem d_Co_agreeing_42 : decode prog_4_method_5_code 42 = .ok (.iinc 3 1, 3) := by decide +kernel
theorem d_Co_agreeing_45 : decode prog_4_method_5_code 45 = .ok (.goto (-32), 3) := by decide +kernel
theorem d_Co_agreeing_48 : decode prog_4_method_5_code 48 = .ok (.iload_n 3, 1) := by decide +kernel
theorem d_Co_agreeing_49 : decode prog_4_method_5_code 49 = .ok (.ireturn, 1) := by decide +kernel
theorem d_Fo_init_0 : decode prog_5_method_1_code 0 = .ok (.aload_n 0, 1) := by decide +kernel
theorem d_Fo_init_1 : decode prog_5_method_1_code 1 = .ok (.invokespecial 3, 3) := by decide +kernel
theorem d_Fo_init_4 : decode prog_5_method_1_code 4 = .ok (.aload_n 0, 1) := by decide +kernel
theorem d_Fo_init_5 : decode prog_5_method_1_code 5 = .ok (.new 9, 3) := by decide +kernel
theorem d_Fo_init_8 : decode prog_5_method_1_code 8 = .ok (.dup, 1) := by decide +kernel
theorem d_Fo_init_9 : decode prog_5_method_1_code 9 = .ok (.invokespecial 11, 3) := by decide +kernel
theorem d_Fo_init_12 : decode prog_5_method_1_code 12 = .ok (.putfield 12, 3) := by decide +kernel
theorem d_Fo_init_15 : decode prog_5_method_1_code 15 = .ok (.aload_n 0, 1) := by decide +kernel
theorem d_Fo_init_16 : decode prog_5_method_1_code 16 = .ok (.new 18, 3) := by decide +kernel
theorem d_Fo_init_19 : decode prog_5_method_1_code 19 = .ok (.dup, 1) := by decide +kernel
theorem d_Fo_init_20 : decode prog_5_method_1_code 20 = .ok (.sipush 200, 3) := by decide +kernel
theorem d_Fo_init_23 : decode prog_5_method_1_code 23 = .ok (.invokespecial 20, 3) := by decide +kernel
theorem d_Fo_init_26 : decode prog_5_method_1_code 26 = .ok (.putfield 23, 3) := by decide +kernel
theorem d_Fo_init_29 : decode prog_5_method_1_code 29 = .ok (.return_, 1) := by decide +kernel
theorem d_Fo_restart_0 : decode prog_5_method_2_code 0 = .ok (.aload_n 0, 1) := by decide +kernel
theorem d_Fo_restart_1 : decode prog_5_method_2_code 1 = .ok (.getfield 12, 3) := by decide +kernel
theorem d_Fo_restart_4 : decode prog_5_method_2_code 4 = .ok (.invokevirtual 27, 3) := by decide +kernel
theorem d_Fo_restart_7 : decode prog_5_method_2_code 7 = .ok (.aload_n 0, 1) := by decide +kernel
theorem d_Fo_restart_8 : decode prog_5_method_2_code 8 = .ok (.getfield 23, 3) := by decide +kernel
theorem d_Fo_restart_11 : decode prog_5_method_2_code 11 = .ok (.aload_n 1, 1) := by decide +kernel
theorem d_Fo_restart_12 : decode prog_5_method_2_code 12 = .ok (.getfield 30, 3) := by decide +kernel
theorem d_Fo_restart_15 : decode prog_5_method_2_code 15 = .ok (.aload_n 1, 1) := by decide +kernel
theorem d_Fo_restart_16 : decode prog_5_method_2_code 16 = .ok (.getfield 34, 3) := by decide +kernel
theorem d_Fo_restart_19 : decode prog_5_method_2_code 19 = .ok (.invokevirtual 38, 3) := by decide +kernel
theorem d_Fo_restart_22 : decode prog_5_method_2_code 22 = .ok (.aload_n 0, 1) := by decide +kernel
theorem d_Fo_restart_23 : decode prog_5_method_2_code 23 = .ok (.iconst 0, 1) := by decide +kernel
theorem d_Fo_restart_24 : decode prog_5_method_2_code 24 = .ok (.putfield 42, 3) := by decide +kernel
theorem d_Fo_restart_27 : decode prog_5_method_2_code 27 = .ok (.aload_n 0, 1) := by decide +kernel
theorem d_Fo_restart_28 : decode prog_5_method_2_code 28 = .ok (.lconst 0, 1) := by decide +kernel
theorem d_Fo_restart_29 : decode prog_5_method_2_code 29 = .ok (.putfield 45, 3) := by decide +kernel
theorem d_Fo_restart_32 : decode prog_5_method_2_code 32 = .ok (.aload_n 0, 1) := by decide +kernel
theorem d_Fo_restart_33 : decode prog_5_method_2_code 33 = .ok (.ldc2_w 49, 3) := by decide +kernel
theorem d_Fo_restart_36 : decode prog_5_method_2_code 36 = .ok (.putfield 51, 3) := by decide +kernel
theorem d_Fo_restart_39 : decode prog_5_method_2_code 39 = .ok (.iconst 0, 1) := by decide +kernel
theorem d_Fo_restart_40 : decode prog_5_method_2_code 40 = .ok (.istore_n 2, 1) := by decide +kernel
theorem d_Fo_restart_41 : decode prog_5_method_2_code 41 = .ok (.iload_n 2, 1) := by decide +kernel
theorem d_Fo_restart_42 : decode prog_5_method_2_code 42 = .ok (.iconst 4, 1) := by decide +kernel
theorem d_Fo_restart_43 : decode prog_5_method_2_code 43 = .ok (.if_icmp .ge 13, 3) := by decide +kernel
theorem d_Fo_restart_46 : decode prog_5_method_2_code 46 = .ok (.aload_n 0, 1) := by decide +kernel
theorem d_Fo_restart_47 : decode prog_5_method_2_code 47 = .ok (.invokevirtual 54, 3) := by decide +kernel
theorem d_Fo_restart_50 : decode prog_5_method_2_code 50 = .ok (.iinc 2 1, 3) := by decide +kernel
theorem d_Fo_restart_53 : decode prog_5_method_2_code 53 = .ok (.goto (-12), 3) := by decide +kernel
theorem d_Fo_restart_56 : decode prog_5_method_2_code 56 = .ok (.aload_n 0, 1) := by decide +kernel
theorem d_Fo_restart_57 : decode prog_5_method_2_code 57 = .ok (.getfield 45, 3) := by decide +kernel
theorem d_Fo_restart_60 : decode prog_5_method_2_code 60 = .ok (.aload_n 0, 1) := by decide +kernel
theorem d_Fo_restart_61 : decode prog_5_method_2_code 61 = .ok (.getfield 51, 3) := by decide +kernel
theorem d_Fo_restart_64 : decode prog_5_method_2_code 64 = .ok (.lcmp, 1) := by decide +kernel
theorem d_Fo_restart_65 : decode prog_5_method_2_code 65 = .ok (.ifCond .lt 13, 3) := by decide +kernel
theorem d_Fo_restart_68 : decode prog_5_method_2_code 68 = .ok (.new 57, 3) := by decide +kernel
theorem d_Fo_restart_71 : decode prog_5_method_2_code 71 = .ok (.dup, 1) := by decide +kernel
theorem d_Fo_restart_72 : decode prog_5_method_2_code 72 = .ok (.ldc 59, 2) := by decide +kernel
theorem d_Fo_restart_74 : decode prog_5_method_2_code 74 = .ok (.invokespecial 61, 3) := by decide +kernel
theorem d_Fo_restart_77 : decode prog_5_method_2_code 77 = .ok (.athrow, 1) := by decide +kernel
theorem d_Fo_restart_78 : decode prog_5_method_2_code 78 = .ok (.return_, 1) := by decide +kernel
theorem d_Fo_readBit_0 : decode prog_5_method_3_code 0 = .ok (.aload_n 0, 1) := by decide +kernel
theorem d_Fo_readBit_1 : decode prog_5_method_3_code 1 = .ok (.getfield 12, 3) := by decide +kernel
theorem d_Fo_readBit_4 : decode prog_5_method_3_code 4 = .ok (.aload_n 0, 1) := by decide +kernel
theorem d_Fo_readBit_5 : decode prog_5_method_3_code 5 = .ok (.getfield 51, 3) := by decide +kernel
theorem d_Fo_readBit_8 : decode prog_5_method_3_code 8 = .ok (.iload_n 1, 1) := by decide +kernel
theorem d_Fo_readBit_9 : decode prog_5_method_3_code 9 = .ok (.invokevirtual 64, 3) := by decide +kernel
theorem d_Fo_readBit_12 : decode prog_5_method_3_code 12 = .ok (.lstore_n 2, 1) := by decide +kernel
theorem d_Fo_readBit_13 : decode prog_5_method_3_code 13 = .ok (.aload_n 0, 1) := by decide +kernel
theorem d_Fo_readBit_14 : decode prog_5_method_3_code 14 = .ok (.getfield 45, 3) := by decide +kernel
theorem d_Fo_readBit_17 : decode prog_5_method_3_code 17 = .ok (.lload_n 2, 1) := by decide +kernel
theorem d_Fo_readBit_18 : decode prog_5_method_3_code 18 = .ok (.lcmp, 1) := by decide +kernel
theorem d_Fo_readBit_19 : decode prog_5_method_3_code 19 = .ok (.ifCond .ge 7, 3) := by decide +kernel
theorem d_Fo_readBit_22 : decode prog_5_method_3_code 22 = .ok (.iconst 0, 1) := by decide +kernel
theorem d_Fo_readBit_23 : decode prog_5_method_3_code 23 = .ok (.goto 4, 3) := by decide +kernel
theorem d_Fo_readBit_26 : decode prog_5_method_3_code 26 = .ok (.iconst 1, 1) := by decide +kernel
theorem d_Fo_readBit_27 : decode prog_5_method_3_code 27 = .ok (.istore 4, 2) := by decide +kernel
theorem d_Fo_readBit_29 : decode prog_5_method_3_code 29 = .ok (.iload 4, 2) := by decide +kernel
theorem d_Fo_readBit_31 : decode prog_5_method_3_code 31 = .ok (.ifCond .ne 11, 3) := by decide +kernel
theorem d_Fo_readBit_34 : decode prog_5_method_3_code 34 = .ok (.aload_n 0, 1) := by decide +kernel
theorem d_Fo_readBit_35 : decode prog_5_method_3_code 35 = .ok (.lload_n 2, 1) := by decide +kernel
theorem d_Fo_readBit_36 : decode prog_5_method_3_code 36 = .ok (.putfield 51, 3) := by decide +kernel
theorem d_Fo_readBit_39 : decode prog_5_method_3_code 39 = .ok (.goto 23, 3) := by decide +kernel
theorem d_Fo_readBit_42 : decode prog_5_method_3_code 42 = .ok (.aload_n 0, 1) := by decide +kernel
theorem d_Fo_readBit_43 : decode prog_5_method_3_code 43 = .ok (.dup, 1) := by decide +kernel
theorem d_Fo_readBit_44 : decode prog_5_method_3_code 44 = .ok (.getfield 45, 3) := by decide +kernel
theorem d_Fo_readBit_47 : decode prog_5_method_3_code 47 = .ok (.lload_n 2, 1) := by decide +kernel
theorem d_Fo_readBit_48 : decode prog_5_method_3_code 48 = .ok (.lsub, 1) := by decide +kernel
theorem d_Fo_readBit_49 : decode prog_5_method_3_code 49 = .ok (.putfield 45, 3) := by decide +kernel
theorem d_Fo_readBit_52 : decode prog_5_method_3_code 52 = .ok (.aload_n 0, 1) := by decide +kernel
theorem d_Fo_readBit_53 : decode prog_5_method_3_code 53 = .ok (.dup, 1) := by decide +kernel
theorem d_Fo_readBit_54 : decode prog_5_method_3_code 54 = .ok (.getfield 51, 3) := by decide +kernel
theorem d_Fo_readBit_57 : decode prog_5_method_3_code 57 = .ok (.lload_n 2, 1) := by decide +kernel
theorem d_Fo_readBit_58 : decode prog_5_method_3_code 58 = .ok (.lsub, 1) := by decide +kernel
theorem d_Fo_readBit_59 : decode prog_5_method_3_code 59 = .ok (.putfield 51, 3) := by decide +kernel
theorem d_Fo_readBit_62 : decode prog_5_method_3_code 62 = .ok (.aload_n 0, 1) := by decide +kernel
theorem d_Fo_readBit_63 : decode prog_5_method_3_code 63 = .ok (.getfield 12, 3) := by decide +kernel
theorem d_Fo_readBit_66 : decode prog_5_method_3_code 66 = .ok (.iload_n 1, 1) := by decide +kernel
theorem d_Fo_readBit_67 : decode prog_5_method_3_code 67 = .ok (.iload 4, 2) := by decide +kernel
theorem d_Fo_readBit_69 : decode prog_5_method_3_code 69 = .ok (.invokevirtual 68, 3) := by decide +kernel
theorem d_Fo_readBit_72 : decode prog_5_method_3_code 72 = .ok (.aload_n 0, 1) := by decide +kernel
theorem d_Fo_readBit_73 : decode prog_5_method_3_code 73 = .ok (.getfield 51, 3) := by decide +kernel
theorem d_Fo_readBit_76 : decode prog_5_method_3_code 76 = .ok (.ldc2_w 72, 3) := by decide +kernel
theorem d_Fo_readBit_79 : decode prog_5_method_3_code 79 = .ok (.lcmp, 1) := by decide +kernel
theorem d_Fo_readBit_80 : decode prog_5_method_3_code 80 = .ok (.ifCond .ge 18, 3) := by decide +kernel
theorem d_Fo_readBit_83 : decode prog_5_method_3_code 83 = .ok (.aload_n 0, 1) := by decide +kernel
theorem d_Fo_readBit_84 : decode prog_5_method_3_code 84 = .ok (.dup, 1) := by decide +kernel
theorem d_Fo_readBit_85 : decode prog_5_method_3_code 85 = .ok (.getfield 51, 3) := by decide +kernel
theorem d_Fo_readBit_88 : decode prog_5_method_3_code 88 = .ok (.bipush 8, 2) := by decide +kernel
theorem d_Fo_readBit_90 : decode prog_5_method_3_code 90 = .ok (.lshl, 1) := by decide +kernel
theorem d_Fo_readBit_91 : decode prog_5_method_3_code 91 = .ok (.putfield 51, 3) := by decide +kernel
theorem d_Fo_readBit_94 : decode prog_5_method_3_code 94 = .ok (.aload_n 0, 1) := by decide +kernel
theorem d_Fo_readBit_95 : decode prog_5_method_3_code 95 = .ok (.invokevirtual 54, 3) := by decide +kernel
theorem d_Fo_readBit_98 : decode prog_5_method_3_code 98 = .ok (.iload 4, 2) := by decide +kernel
theorem d_Fo_readBit_100 : decode prog_5_method_3_code 100 = .ok (.ireturn, 1) := by decide +kernel
theorem d_Fo_readTree_0 : decode prog_5_method_4_code 0 = .ok (.iconst 1, 1) := by decide +kernel
theorem d_Fo_readTree_1 : decode prog_5_method_4_code 1 = .ok (.istore_n 3, 1) := by decide +kernel
theorem d_Fo_readTree_2 : decode prog_5_method_4_code 2 = .ok (.iconst 0, 1) := by decide +kernel
theorem d_Fo_readTree_3 : decode prog_5_method_4_code 3 = .ok (.istore 4, 2) := by decide +kernel
theorem d_Fo_readTree_5 : decode prog_5_method_4_code 5 = .ok (.iload 4, 2) := by decide +kernel
theorem d_Fo_readTree_7 : decode prog_5_method_4_code 7 = .ok (.iload_n 2, 1) := by decide +kernel
theorem d_Fo_readTree_8 : decode prog_5_method_4_code 8 = .ok (.if_icmp .ge 21, 3) := by decide +kernel
theorem d_Fo_readTree_11 : decode prog_5_method_4_code 11 = .ok (.iconst 2, 1) := by decide +kernel
theorem d_Fo_readTree_12 : decode prog_5_method_4_code 12 = .ok (.iload_n 3, 1) := by decide +kernel
theorem d_Fo_readTree_13 : decode prog_5_method_4_code 13 = .ok (.imul, 1) := by decide +kernel
theorem d_Fo_readTree_14 : decode prog_5_method_4_code 14 = .ok (.aload_n 0, 1) := by decide +kernel
theorem d_Fo_readTree_15 : decode prog_5_method_4_code 15 = .ok (.iload_n 1, 1) := by decide +kernel
theorem d_Fo_readTree_16 : decode prog_5_method_4_code 16 = .ok (.iload_n 3, 1) := by decide +kernel
theorem d_Fo_readTree_17 : decode prog_5_method_4_code 17 = .ok (.iadd, 1) := by decide +kernel
theorem d_Fo_readTree_18 : decode prog_5_method_4_code 18 = .ok (.invokevirtual 74, 3) := by decide +kernel
theorem d_Fo_readTree_21 : decode prog_5_method_4_code 21 = .ok (.iadd, 1) := by decide +kernel
theorem d_Fo_readTree_22 : decode prog_5_method_4_code 22 = .ok (.istore_n 3, 1) := by decide +kernel
theorem d_Fo_readTree_23 : decode prog_5_method_4_code 23 = .ok (.iinc 4 1, 3) := by decide +kernel
theorem d_Fo_readTree_26 : decode prog_5_method_4_code 26 = .ok (.goto (-21), 3) := by decide +kernel
theorem d_Fo_readTree_29 : decode prog_5_method_4_code 29 = .ok (.iload_n 3, 1) := by decide +kernel
theorem d_Fo_readTree_30 : decode prog_5_method_4_code 30 = .ok (.iconst 1, 1) := by decide +kernel
theorem d_Fo_readTree_31 : decode prog_5_method_4_code 31 = .ok (.iload_n 2, 1) := by decide +kernel
theorem d_Fo_readTree_32 : decode prog_5_method_4_code 32 = .ok (.ishl, 1) := by decide +kernel
theorem d_Fo_readTree_33 : decode prog_5_method_4_code 33 = .ok (.isub, 1) := by decide +kernel
theorem d_Fo_readTree_34 : decode prog_5_method_4_code 34 = .ok (.ireturn, 1) := by decide +kernel
theorem d_Fo_readRow_0 : decode prog_5_method_5_code 0 = .ok (.iconst 1, 1) := by decide +kernel
theorem d_Fo_readRow_1 : decode prog_5_method_5_code 1 = .ok (.istore_n 3, 1) := by decide +kernel
theorem d_Fo_readRow_2 : decode prog_5_method_5_code 2 = .ok (.iconst 0, 1) := by decide +kernel
theorem d_Fo_readRow_3 : decode prog_5_method_5_code 3 = .ok (.istore 4, 2) := by decide +kernel
theorem d_Fo_readRow_5 : decode prog_5_method_5_code 5 = .ok (.iconst 0, 1) := by decide +kernel
theorem d_Fo_readRow_6 : decode prog_5_method_5_code 6 = .ok (.istore 5, 2) := by decide +kernel
theorem d_Fo_readRow_8 : decode prog_5_method_5_code 8 = .ok (.iload 5, 2) := by decide +kernel
theorem d_Fo_readRow_10 : decode prog_5_method_5_code 10 = .ok (.iload_n 2, 1) := by decide +kernel
theorem d_Fo_readRow_11 : decode prog_5_method_5_code 11 = .ok (.if_icmp .ge 35, 3) := by decide +kernel
theorem d_Fo_readRow_14 : decode prog_5_method_5_code 14 = .ok (.aload_n 0, 1) := by decide +kernel
theorem d_Fo_readRow_15 : decode prog_5_method_5_code 15 = .ok (.iload_n 1, 1) := by decide +kernel
theorem d_Fo_readRow_16 : decode prog_5_method_5_code 16 = .ok (.iload_n 3, 1) := by decide +kernel
theorem d_Fo_readRow_17 : decode prog_5_method_5_code 17 = .ok (.iadd, 1) := by decide +kernel
theorem d_Fo_readRow_18 : decode prog_5_method_5_code 18 = .ok (.invokevirtual 74, 3) := by decide +kernel
theorem d_Fo_readRow_21 : decode prog_5_method_5_code 21 = .ok (.istore 6, 2) := by decide +kernel
theorem d_Fo_readRow_23 : decode prog_5_method_5_code 23 = .ok (.iconst 2, 1) := by decide +kernel
theorem d_Fo_readRow_24 : decode prog_5_method_5_code 24 = .ok (.iload_n 3, 1) := by decide +kernel
theorem d_Fo_readRow_25 : decode prog_5_method_5_code 25 = .ok (.imul, 1) := by decide +kernel
theorem d_Fo_readRow_26 : decode prog_5_method_5_code 26 = .ok (.iload 6, 2) := by decide +kernel
theorem d_Fo_readRow_28 : decode prog_5_method_5_code 28 = .ok (.iadd, 1) := by decide +kernel
theorem d_Fo_readRow_29 : decode prog_5_method_5_code 29 = .ok (.istore_n 3, 1) := by decide +kernel
theorem d_Fo_readRow_30 : decode prog_5_method_5_code 30 = .ok (.iload 4, 2) := by decide +kernel
theorem d_Fo_readRow_32 : decode prog_5_method_5_code 32 = .ok (.iload 6, 2) := by decide +kernel
theorem d_Fo_readRow_34 : decode prog_5_method_5_code 34 = .ok (.iload 5, 2) := by decide +kernel
theorem d_Fo_readRow_36 : decode prog_5_method_5_code 36 = .ok (.ishl, 1) := by decide +kernel
theorem d_Fo_readRow_37 : decode prog_5_method_5_code 37 = .ok (.iadd, 1) := by decide +kernel
theorem d_Fo_readRow_38 : decode prog_5_method_5_code 38 = .ok (.istore 4, 2) := by decide +kernel
theorem d_Fo_readRow_40 : decode prog_5_method_5_code 40 = .ok (.iinc 5 1, 3) := by decide +kernel
theorem d_Fo_readRow_43 : decode prog_5_method_5_code 43 = .ok (.goto (-35), 3) := by decide +kernel
theorem d_Fo_readRow_46 : decode prog_5_method_5_code 46 = .ok (.iload 4, 2) := by decide +kernel
theorem d_Fo_readRow_48 : decode prog_5_method_5_code 48 = .ok (.ireturn, 1) := by decide +kernel
theorem d_Fo_refuseWhatIsLeft_0 : decode prog_5_method_6_code 0 = .ok (.aload_n 0, 1) := by decide +kernel
theorem d_Fo_refuseWhatIsLeft_1 : decode prog_5_method_6_code 1 = .ok (.getfield 42, 3) := by decide +kernel
theorem d_Fo_refuseWhatIsLeft_4 : decode prog_5_method_6_code 4 = .ok (.aload_n 0, 1) := by decide +kernel
theorem d_Fo_refuseWhatIsLeft_5 : decode prog_5_method_6_code 5 = .ok (.getfield 23, 3) := by decide +kernel
theorem d_Fo_refuseWhatIsLeft_8 : decode prog_5_method_6_code 8 = .ok (.getfield 34, 3) := by decide +kernel
theorem d_Fo_refuseWhatIsLeft_11 : decode prog_5_method_6_code 11 = .ok (.if_icmp .lt 12, 3) := by decide +kernel
theorem d_Fo_refuseWhatIsLeft_14 : decode prog_5_method_6_code 14 = .ok (.aload_n 0, 1) := by decide +kernel
theorem d_Fo_refuseWhatIsLeft_15 : decode prog_5_method_6_code 15 = .ok (.getfield 45, 3) := by decide +kernel
theorem d_Fo_refuseWhatIsLeft_18 : decode prog_5_method_6_code 18 = .ok (.lconst 0, 1) := by decide +kernel
theorem d_Fo_refuseWhatIsLeft_19 : decode prog_5_method_6_code 19 = .ok (.lcmp, 1) := by decide +kernel
theorem d_Fo_refuseWhatIsLeft_20 : decode prog_5_method_6_code 20 = .ok (.ifCond .eq 13, 3) := by decide +kernel
theorem d_Fo_refuseWhatIsLeft_23 : decode prog_5_method_6_code 23 = .ok (.new 57, 3) := by decide +kernel
theorem d_Fo_refuseWhatIsLeft_26 : decode prog_5_method_6_code 26 = .ok (.dup, 1) := by decide +kernel
theorem d_Fo_refuseWhatIsLeft_27 : decode prog_5_method_6_code 27 = .ok (.ldc 78, 2) := by decide +kernel
theorem d_Fo_refuseWhatIsLeft_29 : decode prog_5_method_6_code 29 = .ok (.invokespecial 61, 3) := by decide +kernel
theorem d_Fo_refuseWhatIsLeft_32 : decode prog_5_method_6_code 32 = .ok (.athrow, 1) := by decide +kernel
theorem d_Fo_refuseWhatIsLeft_33 : decode prog_5_method_6_code 33 = .ok (.return_, 1) := by decide +kernel
theorem d_Fo_takeByte_0 : decode prog_5_method_7_code 0 = .ok (.aload_n 0, 1) := by decide +kernel
theorem d_Fo_takeByte_1 : decode prog_5_method_7_code 1 = .ok (.getfield 23, 3) := by decide +kernel
theorem d_Fo_takeByte_4 : decode prog_5_method_7_code 4 = .ok (.aload_n 0, 1) := by decide +kernel
theorem d_Fo_takeByte_5 : decode prog_5_method_7_code 5 = .ok (.getfield 42, 3) := by decide +kernel
theorem d_Fo_takeByte_8 : decode prog_5_method_7_code 8 = .ok (.invokevirtual 80, 3) := by decide +kernel
theorem d_Fo_takeByte_11 : decode prog_5_method_7_code 11 = .ok (.ifCond .ne 13, 3) := by decide +kernel
theorem d_Fo_takeByte_14 : decode prog_5_method_7_code 14 = .ok (.new 84, 3) := by decide +kernel
theorem d_Fo_takeByte_17 : decode prog_5_method_7_code 17 = .ok (.dup, 1) := by decide +kernel
theorem d_Fo_takeByte_18 : decode prog_5_method_7_code 18 = .ok (.ldc 86, 2) := by decide +kernel
theorem d_Fo_takeByte_20 : decode prog_5_method_7_code 20 = .ok (.invokespecial 88, 3) := by decide +kernel
theorem d_Fo_takeByte_23 : decode prog_5_method_7_code 23 = .ok (.athrow, 1) := by decide +kernel
theorem d_Fo_takeByte_24 : decode prog_5_method_7_code 24 = .ok (.aload_n 0, 1) := by decide +kernel
theorem d_Fo_takeByte_25 : decode prog_5_method_7_code 25 = .ok (.aload_n 0, 1) := by decide +kernel
theorem d_Fo_takeByte_26 : decode prog_5_method_7_code 26 = .ok (.getfield 45, 3) := by decide +kernel
theorem d_Fo_takeByte_29 : decode prog_5_method_7_code 29 = .ok (.bipush 8, 2) := by decide +kernel
theorem d_Fo_takeByte_31 : decode prog_5_method_7_code 31 = .ok (.lshl, 1) := by decide +kernel
theorem d_Fo_takeByte_32 : decode prog_5_method_7_code 32 = .ok (.aload_n 0, 1) := by decide +kernel
theorem d_Fo_takeByte_33 : decode prog_5_method_7_code 33 = .ok (.getfield 23, 3) := by decide +kernel
theorem d_Fo_takeByte_36 : decode prog_5_method_7_code 36 = .ok (.getfield 30, 3) := by decide +kernel
theorem d_Fo_takeByte_39 : decode prog_5_method_7_code 39 = .ok (.aload_n 0, 1) := by decide +kernel
theorem d_Fo_takeByte_40 : decode prog_5_method_7_code 40 = .ok (.getfield 42, 3) := by decide +kernel
theorem d_Fo_takeByte_43 : decode prog_5_method_7_code 43 = .ok (.iaload, 1) := by decide +kernel
theorem d_Fo_takeByte_44 : decode prog_5_method_7_code 44 = .ok (.i2l, 1) := by decide +kernel
theorem d_Fo_takeByte_45 : decode prog_5_method_7_code 45 = .ok (.ladd, 1) := by decide +kernel
theorem d_Fo_takeByte_46 : decode prog_5_method_7_code 46 = .ok (.putfield 45, 3) := by decide +kernel
theorem d_Fo_takeByte_49 : decode prog_5_method_7_code 49 = .ok (.aload_n 0, 1) := by decide +kernel
theorem d_Fo_takeByte_50 : decode prog_5_method_7_code 50 = .ok (.dup, 1) := by decide +kernel
theorem d_Fo_takeByte_51 : decode prog_5_method_7_code 51 = .ok (.getfield 42, 3) := by decide +kernel
theorem d_Fo_takeByte_54 : decode prog_5_method_7_code 54 = .ok (.iconst 1, 1) := by decide +kernel
theorem d_Fo_takeByte_55 : decode prog_5_method_7_code 55 = .ok (.iadd, 1) := by decide +kernel
theorem d_Fo_takeByte_56 : decode prog_5_method_7_code 56 = .ok (.putfield 42, 3) := by decide +kernel
theorem d_Fo_takeByte_59 : decode prog_5_method_7_code 59 = .ok (.return_, 1) := by decide +kernel
theorem d_Hi_init_0 : decode prog_6_method_1_code 0 = .ok (.aload_n 0, 1) := by decide +kernel
theorem d_Hi_init_1 : decode prog_6_method_1_code 1 = .ok (.invokespecial 3, 3) := by decide +kernel
theorem d_Hi_init_4 : decode prog_6_method_1_code 4 = .ok (.aload_n 0, 1) := by decide +kernel
theorem d_Hi_init_5 : decode prog_6_method_1_code 5 = .ok (.new 9, 3) := by decide +kernel
theorem d_Hi_init_8 : decode prog_6_method_1_code 8 = .ok (.dup, 1) := by decide +kernel
theorem d_Hi_init_9 : decode prog_6_method_1_code 9 = .ok (.bipush 120, 2) := by decide +kernel
theorem d_Hi_init_11 : decode prog_6_method_1_code 11 = .ok (.invokespecial 11, 3) := by decide +kernel
theorem d_Hi_init_14 : decode prog_6_method_1_code 14 = .ok (.putfield 14, 3) := by decide +kernel
theorem d_Hi_init_17 : decode prog_6_method_1_code 17 = .ok (.aload_n 0, 1) := by decide +kernel
theorem d_Hi_init_18 : decode prog_6_method_1_code 18 = .ok (.iconst 4, 1) := by decide +kernel
theorem d_Hi_init_19 : decode prog_6_method_1_code 19 = .ok (.newarray .int, 2) := by decide +kernel
theorem d_Hi_init_21 : decode prog_6_method_1_code 21 = .ok (.putfield 20, 3) := by decide +kernel
theorem d_Hi_init_24 : decode prog_6_method_1_code 24 = .ok (.return_, 1) := by decide +kernel
theorem d_Hi_restart_0 : decode prog_6_method_2_code 0 = .ok (.aload_n 0, 1) := by decide +kernel
theorem d_Hi_restart_1 : decode prog_6_method_2_code 1 = .ok (.getfield 14, 3) := by decide +kernel
theorem d_Hi_restart_4 : decode prog_6_method_2_code 4 = .ok (.iconst 0, 1) := by decide +kernel
theorem d_Hi_restart_5 : decode prog_6_method_2_code 5 = .ok (.invokevirtual 24, 3) := by decide +kernel
theorem d_Hi_restart_8 : decode prog_6_method_2_code 8 = .ok (.pop, 1) := by decide +kernel
theorem d_Hi_restart_9 : decode prog_6_method_2_code 9 = .ok (.aload_n 0, 1) := by decide +kernel
theorem d_Hi_restart_10 : decode prog_6_method_2_code 10 = .ok (.getfield 20, 3) := by decide +kernel
theorem d_Hi_restart_13 : decode prog_6_method_2_code 13 = .ok (.iconst 1, 1) := by decide +kernel
theorem d_Hi_restart_14 : decode prog_6_method_2_code 14 = .ok (.invokestatic 28, 3) := by decide +kernel
theorem d_Hi_restart_17 : decode prog_6_method_2_code 17 = .ok (.aload_n 0, 1) := by decide +kernel
theorem d_Hi_restart_18 : decode prog_6_method_2_code 18 = .ok (.iconst 0, 1) := by decide +kernel
theorem d_Hi_restart_19 : decode prog_6_method_2_code 19 = .ok (.putfield 34, 3) := by decide +kernel
theorem d_Hi_restart_22 : decode prog_6_method_2_code 22 = .ok (.return_, 1) := by decide +kernel
theorem d_Hi_tell_0 : decode prog_6_method_3_code 0 = .ok (.aload_n 1, 1) := by decide +kernel
theorem d_Hi_tell_1 : decode prog_6_method_3_code 1 = .ok (.getfield 38, 3) := by decide +kernel
theorem d_Hi_tell_4 : decode prog_6_method_3_code 4 = .ok (.ifCond .ne 18, 3) := by decide +kernel
theorem d_Hi_tell_7 : decode prog_6_method_3_code 7 = .ok (.aload_n 0, 1) := by decide +kernel
theorem d_Hi_tell_8 : decode prog_6_method_3_code 8 = .ok (.getfield 14, 3) := by decide +kernel
theorem d_Hi_tell_11 : decode prog_6_method_3_code 11 = .ok (.aload_n 1, 1) := by decide +kernel
theorem d_Hi_tell_12 : decode prog_6_method_3_code 12 = .ok (.getfield 43, 3) := by decide +kernel
theorem d_Hi_tell_15 : decode prog_6_method_3_code 15 = .ok (.invokevirtual 46, 3) := by decide +kernel
theorem d_Hi_tell_18 : decode prog_6_method_3_code 18 = .ok (.pop, 1) := by decide +kernel
theorem d_Hi_tell_19 : decode prog_6_method_3_code 19 = .ok (.goto 15, 3) := by decide +kernel
theorem d_Hi_tell_22 : decode prog_6_method_3_code 22 = .ok (.aload_n 0, 1) := by decide +kernel
theorem d_Hi_tell_23 : decode prog_6_method_3_code 23 = .ok (.aload_n 1, 1) := by decide +kernel
theorem d_Hi_tell_24 : decode prog_6_method_3_code 24 = .ok (.getfield 50, 3) := by decide +kernel
theorem d_Hi_tell_27 : decode prog_6_method_3_code 27 = .ok (.aload_n 1, 1) := by decide +kernel
theorem d_Hi_tell_28 : decode prog_6_method_3_code 28 = .ok (.getfield 53, 3) := by decide +kernel
theorem d_Hi_tell_31 : decode prog_6_method_3_code 31 = .ok (.invokevirtual 56, 3) := by decide +kernel
theorem d_Hi_tell_34 : decode prog_6_method_3_code 34 = .ok (.aload_n 1, 1) := by decide +kernel
theorem d_Hi_tell_35 : decode prog_6_method_3_code 35 = .ok (.getfield 38, 3) := by decide +kernel
theorem d_Hi_tell_38 : decode prog_6_method_3_code 38 = .ok (.iconst 1, 1) := by decide +kernel
theorem d_Hi_tell_39 : decode prog_6_method_3_code 39 = .ok (.if_icmp .ne 15, 3) := by decide +kernel
theorem d_Hi_tell_42 : decode prog_6_method_3_code 42 = .ok (.aload_n 0, 1) := by decide +kernel
theorem d_Hi_tell_43 : decode prog_6_method_3_code 43 = .ok (.iconst 3, 1) := by decide +kernel
theorem d_Hi_tell_44 : decode prog_6_method_3_code 44 = .ok (.aload_n 1, 1) := by decide +kernel
theorem d_Hi_tell_45 : decode prog_6_method_3_code 45 = .ok (.getfield 53, 3) := by decide +kernel
theorem d_Hi_tell_48 : decode prog_6_method_3_code 48 = .ok (.invokevirtual 60, 3) := by decide +kernel
theorem d_Hi_tell_51 : decode prog_6_method_3_code 51 = .ok (.goto 23, 3) := by decide +kernel
theorem d_Hi_tell_54 : decode prog_6_method_3_code 54 = .ok (.aload_n 1, 1) := by decide +kernel
theorem d_Hi_tell_55 : decode prog_6_method_3_code 55 = .ok (.getfield 38, 3) := by decide +kernel
theorem d_Hi_tell_58 : decode prog_6_method_3_code 58 = .ok (.iconst 2, 1) := by decide +kernel
theorem d_Hi_tell_59 : decode prog_6_method_3_code 59 = .ok (.if_icmp .ne 15, 3) := by decide +kernel
theorem d_Hi_tell_62 : decode prog_6_method_3_code 62 = .ok (.aload_n 0, 1) := by decide +kernel
theorem d_Hi_tell_63 : decode prog_6_method_3_code 63 = .ok (.aload_n 1, 1) := by decide +kernel
theorem d_Hi_tell_64 : decode prog_6_method_3_code 64 = .ok (.getfield 63, 3) := by decide +kernel
theorem d_Hi_tell_67 : decode prog_6_method_3_code 67 = .ok (.aload_n 1, 1) := by decide +kernel
theorem d_Hi_tell_68 : decode prog_6_method_3_code 68 = .ok (.getfield 53, 3) := by decide +kernel
theorem d_Hi_tell_71 : decode prog_6_method_3_code 71 = .ok (.invokevirtual 60, 3) := by decide +kernel
theorem d_Hi_tell_74 : decode prog_6_method_3_code 74 = .ok (.aload_n 0, 1) := by decide +kernel
theorem d_Hi_tell_75 : decode prog_6_method_3_code 75 = .ok (.aload_n 0, 1) := by decide +kernel
theorem d_Hi_tell_76 : decode prog_6_method_3_code 76 = .ok (.aload_n 1, 1) := by decide +kernel
theorem d_Hi_tell_77 : decode prog_6_method_3_code 77 = .ok (.getfield 38, 3) := by decide +kernel
theorem d_Hi_tell_80 : decode prog_6_method_3_code 80 = .ok (.invokevirtual 66, 3) := by decide +kernel
theorem d_Hi_tell_83 : decode prog_6_method_3_code 83 = .ok (.putfield 34, 3) := by decide +kernel
theorem d_Hi_tell_86 : decode prog_6_method_3_code 86 = .ok (.return_, 1) := by decide +kernel
theorem d_Hi_byteBefore_0 : decode prog_6_method_4_code 0 = .ok (.iload_n 1, 1) := by decide +kernel
theorem d_Hi_byteBefore_1 : decode prog_6_method_4_code 1 = .ok (.iconst 1, 1) := by decide +kernel
theorem d_Hi_byteBefore_2 : decode prog_6_method_4_code 2 = .ok (.if_icmp .lt 18, 3) := by decide +kernel
theorem d_Hi_byteBefore_5 : decode prog_6_method_4_code 5 = .ok (.iload_n 1, 1) := by decide +kernel
theorem d_Hi_byteBefore_6 : decode prog_6_method_4_code 6 = .ok (.aload_n 0, 1) := by decide +kernel
theorem d_Hi_byteBefore_7 : decode prog_6_method_4_code 7 = .ok (.getfield 14, 3) := by decide +kernel
theorem d_Hi_byteBefore_10 : decode prog_6_method_4_code 10 = .ok (.getfield 69, 3) := by decide +kernel
theorem d_Hi_byteBefore_13 : decode prog_6_method_4_code 13 = .ok (.if_icmp .gt 7, 3) := by decide +kernel
theorem d_Hi_byteBefore_16 : decode prog_6_method_4_code 16 = .ok (.iconst 1, 1) := by decide +kernel
theorem d_Hi_byteBefore_17 : decode prog_6_method_4_code 17 = .ok (.goto 4, 3) := by decide +kernel
theorem d_Hi_byteBefore_20 : decode prog_6_method_4_code 20 = .ok (.iconst 0, 1) := by decide +kernel
theorem d_Hi_byteBefore_21 : decode prog_6_method_4_code 21 = .ok (.istore_n 2, 1) := by decide +kernel
theorem d_Hi_byteBefore_22 : decode prog_6_method_4_code 22 = .ok (.iload_n 2, 1) := by decide +kernel
theorem d_Hi_byteBefore_23 : decode prog_6_method_4_code 23 = .ok (.ifCond .eq 23, 3) := by decide +kernel
theorem d_Hi_byteBefore_26 : decode prog_6_method_4_code 26 = .ok (.aload_n 0, 1) := by decide +kernel
theorem d_Hi_byteBefore_27 : decode prog_6_method_4_code 27 = .ok (.getfield 14, 3) := by decide +kernel
theorem d_Hi_byteBefore_30 : decode prog_6_method_4_code 30 = .ok (.getfield 72, 3) := by decide +kernel
theorem d_Hi_byteBefore_33 : decode prog_6_method_4_code 33 = .ok (.aload_n 0, 1) := by decide +kernel
theorem d_Hi_byteBefore_34 : decode prog_6_method_4_code 34 = .ok (.getfield 14, 3) := by decide +kernel
theorem d_Hi_byteBefore_37 : decode prog_6_method_4_code 37 = .ok (.getfield 69, 3) := by decide +kernel
theorem d_Hi_byteBefore_40 : decode prog_6_method_4_code 40 = .ok (.iload_n 1, 1) := by decide +kernel
theorem d_Hi_byteBefore_41 : decode prog_6_method_4_code 41 = .ok (.isub, 1) := by decide +kernel
theorem d_Hi_byteBefore_42 : decode prog_6_method_4_code 42 = .ok (.iaload, 1) := by decide +kernel
theorem d_Hi_byteBefore_43 : decode prog_6_method_4_code 43 = .ok (.goto 4, 3) := by decide +kernel
theorem d_Hi_byteBefore_46 : decode prog_6_method_4_code 46 = .ok (.iconst 0, 1) := by decide +kernel
theorem d_Hi_byteBefore_47 : decode prog_6_method_4_code 47 = .ok (.ireturn, 1) := by decide +kernel
theorem d_Hi_isBehindACopy_0 : decode prog_6_method_5_code 0 = .ok (.aload_n 0, 1) := by decide +kernel
theorem d_Hi_isBehindACopy_1 : decode prog_6_method_5_code 1 = .ok (.getfield 34, 3) := by decide +kernel
theorem d_Hi_isBehindACopy_4 : decode prog_6_method_5_code 4 = .ok (.bipush 7, 2) := by decide +kernel
theorem d_Hi_isBehindACopy_6 : decode prog_6_method_5_code 6 = .ok (.if_icmp .lt 7, 3) := by decide +kernel
theorem d_Hi_isBehindACopy_9 : decode prog_6_method_5_code 9 = .ok (.iconst 1, 1) := by decide +kernel
theorem d_Hi_isBehindACopy_10 : decode prog_6_method_5_code 10 = .ok (.goto 4, 3) := by decide +kernel
theorem d_Hi_isBehindACopy_13 : decode prog_6_method_5_code 13 = .ok (.iconst 0, 1) := by decide +kernel
theorem d_Hi_isBehindACopy_14 : decode prog_6_method_5_code 14 = .ok (.ireturn, 1) := by decide +kernel
theorem d_Hi_placeOfLiterals_0 : decode prog_6_method_6_code 0 = .ok (.aload_n 0, 1) := by decide +kernel
theorem d_Hi_placeOfLiterals_1 : decode prog_6_method_6_code 1 = .ok (.iconst 1, 1) := by decide +kernel
theorem d_Hi_placeOfLiterals_2 : decode prog_6_method_6_code 2 = .ok (.invokevirtual 75, 3) := by decide +kernel
theorem d_Hi_placeOfLiterals_5 : decode prog_6_method_6_code 5 = .ok (.bipush 6, 2) := by decide +kernel
theorem d_Hi_placeOfLiterals_7 : decode prog_6_method_6_code 7 = .ok (.ishr, 1) := by decide +kernel
theorem d_Hi_placeOfLiterals_8 : decode prog_6_method_6_code 8 = .ok (.istore_n 1, 1) := by decide +kernel
theorem d_Hi_placeOfLiterals_9 : decode prog_6_method_6_code 9 = .ok (.sipush 748, 3) := by decide +kernel
theorem d_Hi_placeOfLiterals_12 : decode prog_6_method_6_code 12 = .ok (.iload_n 1, 1) := by decide +kernel
theorem d_Hi_placeOfLiterals_13 : decode prog_6_method_6_code 13 = .ok (.iconst 3, 1) := by decide +kernel
theorem d_Hi_placeOfLiterals_14 : decode prog_6_method_6_code 14 = .ok (.imul, 1) := by decide +kernel
theorem d_Hi_placeOfLiterals_15 : decode prog_6_method_6_code 15 = .ok (.sipush 256, 3) := by decide +kernel
theorem d_Hi_placeOfLiterals_18 : decode prog_6_method_6_code 18 = .ok (.imul, 1) := by decide +kernel
theorem d_Hi_placeOfLiterals_19 : decode prog_6_method_6_code 19 = .ok (.iadd, 1) := by decide +kernel
theorem d_Hi_placeOfLiterals_20 : decode prog_6_method_6_code 20 = .ok (.ireturn, 1) := by decide +kernel
theorem d_Hi_repeat_0 : decode prog_6_method_7_code 0 = .ok (.iconst 0, 1) := by decide +kernel
theorem d_Hi_repeat_1 : decode prog_6_method_7_code 1 = .ok (.istore_n 3, 1) := by decide +kernel
theorem d_Hi_repeat_2 : decode prog_6_method_7_code 2 = .ok (.iload_n 3, 1) := by decide +kernel
theorem d_Hi_repeat_3 : decode prog_6_method_7_code 3 = .ok (.iload_n 1, 1) := by decide +kernel
theorem d_Hi_repeat_4 : decode prog_6_method_7_code 4 = .ok (.if_icmp .ge 22, 3) := by decide +kernel
theorem d_Hi_repeat_7 : decode prog_6_method_7_code 7 = .ok (.aload_n 0, 1) := by decide +kernel
theorem d_Hi_repeat_8 : decode prog_6_method_7_code 8 = .ok (.getfield 14, 3) := by decide +kernel
theorem d_Hi_repeat_11 : decode prog_6_method_7_code 11 = .ok (.aload_n 0, 1) := by decide +kernel
theorem d_Hi_repeat_12 : decode prog_6_method_7_code 12 = .ok (.iload_n 2, 1) := by decide +kernel
theorem d_Hi_repeat_13 : decode prog_6_method_7_code 13 = .ok (.invokevirtual 75, 3) := by decide +kernel
theorem d_Hi_repeat_16 : decode prog_6_method_7_code 16 = .ok (.invokevirtual 46, 3) := by decide +kernel
theorem d_Hi_repeat_19 : decode prog_6_method_7_code 19 = .ok (.pop, 1) := by decide +kernel
theorem d_Hi_repeat_20 : decode prog_6_method_7_code 20 = .ok (.iinc 3 1, 3) := by decide +kernel
theorem d_Hi_repeat_23 : decode prog_6_method_7_code 23 = .ok (.goto (-21), 3) := by decide +kernel
theorem d_Hi_repeat_26 : decode prog_6_method_7_code 26 = .ok (.return_, 1) := by decide +kernel
theorem d_Hi_bringToFront_0 : decode prog_6_method_8_code 0 = .ok (.iload_n 1, 1) := by decide +kernel
theorem d_Hi_bringToFront_1 : decode prog_6_method_8_code 1 = .ok (.istore_n 3, 1) := by decide +kernel
theorem d_Hi_bringToFront_2 : decode prog_6_method_8_code 2 = .ok (.iload_n 3, 1) := by decide +kernel
theorem d_Hi_bringToFront_3 : decode prog_6_method_8_code 3 = .ok (.ifCond .le 23, 3) := by decide +kernel
theorem d_Hi_bringToFront_6 : decode prog_6_method_8_code 6 = .ok (.aload_n 0, 1) := by decide +kernel
theorem d_Hi_bringToFront_7 : decode prog_6_method_8_code 7 = .ok (.getfield 20, 3) := by decide +kernel
theorem d_Hi_bringToFront_10 : decode prog_6_method_8_code 10 = .ok (.iload_n 3, 1) := by decide +kernel
theorem d_Hi_bringToFront_11 : decode prog_6_method_8_code 11 = .ok (.aload_n 0, 1) := by decide +kernel
theorem d_Hi_bringToFront_12 : decode prog_6_method_8_code 12 = .ok (.getfield 20, 3) := by decide +kernel
theorem d_Hi_bringToFront_15 : decode prog_6_method_8_code 15 = .ok (.iload_n 3, 1) := by decide +kernel
theorem d_Hi_bringToFront_16 : decode prog_6_method_8_code 16 = .ok (.iconst 1, 1) := by decide +kernel
theorem d_Hi_bringToFront_17 : decode prog_6_method_8_code 17 = .ok (.isub, 1) := by decide +kernel
theorem d_Hi_bringToFront_18 : decode prog_6_method_8_code 18 = .ok (.iaload, 1) := by decide +kernel
theorem d_Hi_bringToFront_19 : decode prog_6_method_8_code 19 = .ok (.iastore, 1) := by decide +kernel
theorem d_Hi_bringToFront_20 : decode prog_6_method_8_code 20 = .ok (.iinc 3 (-1), 3) := by decide +kernel
theorem d_Hi_bringToFront_23 : decode prog_6_method_8_code 23 = .ok (.goto (-21), 3) := by decide +kernel
theorem d_Hi_bringToFront_26 : decode prog_6_method_8_code 26 = .ok (.aload_n 0, 1) := by decide +kernel
theorem d_Hi_bringToFront_27 : decode prog_6_method_8_code 27 = .ok (.getfield 20, 3) := by decide +kernel
theorem d_Hi_bringToFront_30 : decode prog_6_method_8_code 30 = .ok (.iconst 0, 1) := by decide +kernel
theorem d_Hi_bringToFront_31 : decode prog_6_method_8_code 31 = .ok (.iload_n 2, 1) := by decide +kernel
theorem d_Hi_bringToFront_32 : decode prog_6_method_8_code 32 = .ok (.iastore, 1) := by decide +kernel
theorem d_Hi_bringToFront_33 : decode prog_6_method_8_code 33 = .ok (.return_, 1) := by decide +kernel
theorem d_Hi_stateBehind_0 : decode prog_6_method_9_code 0 = .ok (.iload_n 1, 1) := by decide +kernel
theorem d_Hi_stateBehind_1 : decode prog_6_method_9_code 1 = .ok (.tableswitch 62 0 2 #[27, 32, 47], 27) := by decide +kernel
theorem d_Hi_stateBehind_28 : decode prog_6_method_9_code 28 = .ok (.aload_n 0, 1) := by decide +kernel
theorem d_Hi_stateBehind_29 : decode prog_6_method_9_code 29 = .ok (.invokevirtual 78, 3) := by decide +kernel
theorem d_Hi_stateBehind_32 : decode prog_6_method_9_code 32 = .ok (.ireturn, 1) := by decide +kernel
theorem d_Hi_stateBehind_33 : decode prog_6_method_9_code 33 = .ok (.aload_n 0, 1) := by decide +kernel
theorem d_Hi_stateBehind_34 : decode prog_6_method_9_code 34 = .ok (.invokevirtual 82, 3) := by decide +kernel
theorem d_Hi_stateBehind_37 : decode prog_6_method_9_code 37 = .ok (.ifCond .eq 8, 3) := by decide +kernel
theorem d_Hi_stateBehind_40 : decode prog_6_method_9_code 40 = .ok (.bipush 10, 2) := by decide +kernel
theorem d_Hi_stateBehind_42 : decode prog_6_method_9_code 42 = .ok (.goto 5, 3) := by decide +kernel
theorem d_Hi_stateBehind_45 : decode prog_6_method_9_code 45 = .ok (.bipush 7, 2) := by decide +kernel
theorem d_Hi_stateBehind_47 : decode prog_6_method_9_code 47 = .ok (.ireturn, 1) := by decide +kernel
theorem d_Hi_stateBehind_48 : decode prog_6_method_9_code 48 = .ok (.aload_n 0, 1) := by decide +kernel
theorem d_Hi_stateBehind_49 : decode prog_6_method_9_code 49 = .ok (.invokevirtual 82, 3) := by decide +kernel
theorem d_Hi_stateBehind_52 : decode prog_6_method_9_code 52 = .ok (.ifCond .eq 8, 3) := by decide +kernel
theorem d_Hi_stateBehind_55 : decode prog_6_method_9_code 55 = .ok (.bipush 11, 2) := by decide +kernel
theorem d_Hi_stateBehind_57 : decode prog_6_method_9_code 57 = .ok (.goto 5, 3) := by decide +kernel
theorem d_Hi_stateBehind_60 : decode prog_6_method_9_code 60 = .ok (.bipush 8, 2) := by decide +kernel
theorem d_Hi_stateBehind_62 : decode prog_6_method_9_code 62 = .ok (.ireturn, 1) := by decide +kernel
theorem d_Hi_stateBehind_63 : decode prog_6_method_9_code 63 = .ok (.aload_n 0, 1) := by decide +kernel
theorem d_Hi_stateBehind_64 : decode prog_6_method_9_code 64 = .ok (.invokevirtual 82, 3) := by decide +kernel
theorem d_Hi_stateBehind_67 : decode prog_6_method_9_code 67 = .ok (.ifCond .eq 8, 3) := by decide +kernel
theorem d_Hi_stateBehind_70 : decode prog_6_method_9_code 70 = .ok (.bipush 11, 2) := by decide +kernel
theorem d_Hi_stateBehind_72 : decode prog_6_method_9_code 72 = .ok (.goto 5, 3) := by decide +kernel
theorem d_Hi_stateBehind_75 : decode prog_6_method_9_code 75 = .ok (.bipush 9, 2) := by decide +kernel
theorem d_Hi_stateBehind_77 : decode prog_6_method_9_code 77 = .ok (.ireturn, 1) := by decide +kernel
theorem d_Hi_stateBehindLiteral_0 : decode prog_6_method_10_code 0 = .ok (.aload_n 0, 1) := by decide +kernel
theorem d_Hi_stateBehindLiteral_1 : decode prog_6_method_10_code 1 = .ok (.getfield 34, 3) := by decide +kernel
theorem d_Hi_stateBehindLiteral_4 : decode prog_6_method_10_code 4 = .ok (.iconst 4, 1) := by decide +kernel
theorem d_Hi_stateBehindLiteral_5 : decode prog_6_method_10_code 5 = .ok (.if_icmp .ge 5, 3) := by decide +kernel
theorem d_Hi_stateBehindLiteral_8 : decode prog_6_method_10_code 8 = .ok (.iconst 0, 1) := by decide +kernel
theorem d_Hi_stateBehindLiteral_9 : decode prog_6_method_10_code 9 = .ok (.ireturn, 1) := by decide +kernel
theorem d_Hi_stateBehindLiteral_10 : decode prog_6_method_10_code 10 = .ok (.aload_n 0, 1) := by decide +kernel
theorem d_Hi_stateBehindLiteral_11 : decode prog_6_method_10_code 11 = .ok (.getfield 34, 3) := by decide +kernel
theorem d_Hi_stateBehindLiteral_14 : decode prog_6_method_10_code 14 = .ok (.bipush 10, 2) := by decide +kernel
theorem d_Hi_stateBehindLiteral_16 : decode prog_6_method_10_code 16 = .ok (.if_icmp .ge 12, 3) := by decide +kernel
theorem d_Hi_stateBehindLiteral_19 : decode prog_6_method_10_code 19 = .ok (.aload_n 0, 1) := by decide +kernel
theorem d_Hi_stateBehindLiteral_20 : decode prog_6_method_10_code 20 = .ok (.getfield 34, 3) := by decide +kernel
theorem d_Hi_stateBehindLiteral_23 : decode prog_6_method_10_code 23 = .ok (.iconst 3, 1) := by decide +kernel
theorem d_Hi_stateBehindLiteral_24 : decode prog_6_method_10_code 24 = .ok (.isub, 1) := by decide +kernel
theorem d_Hi_stateBehindLiteral_25 : decode prog_6_method_10_code 25 = .ok (.goto 10, 3) := by decide +kernel
theorem d_Hi_stateBehindLiteral_28 : decode prog_6_method_10_code 28 = .ok (.aload_n 0, 1) := by decide +kernel
theorem d_Hi_stateBehindLiteral_29 : decode prog_6_method_10_code 29 = .ok (.getfield 34, 3) := by decide +kernel
theorem d_Hi_stateBehindLiteral_32 : decode prog_6_method_10_code 32 = .ok (.bipush 6, 2) := by decide +kernel
theorem d_Hi_stateBehindLiteral_34 : decode prog_6_method_10_code 34 = .ok (.isub, 1) := by decide +kernel
theorem d_Hi_stateBehindLiteral_35 : decode prog_6_method_10_code 35 = .ok (.ireturn, 1) := by decide +kernel
theorem d_Na_init_0 : decode prog_7_method_1_code 0 = .ok (.aload_n 0, 1) := by decide +kernel
theorem d_Na_init_1 : decode prog_7_method_1_code 1 = .ok (.invokespecial 3, 3) := by decide +kernel
theorem d_Na_init_4 : decode prog_7_method_1_code 4 = .ok (.aload_n 0, 1) := by decide +kernel
theorem d_Na_init_5 : decode prog_7_method_1_code 5 = .ok (.new 9, 3) := by decide +kernel
theorem d_Na_init_8 : decode prog_7_method_1_code 8 = .ok (.dup, 1) := by decide +kernel
theorem d_Na_init_9 : decode prog_7_method_1_code 9 = .ok (.invokespecial 11, 3) := by decide +kernel
theorem d_Na_init_12 : decode prog_7_method_1_code 12 = .ok (.putfield 12, 3) := by decide +kernel
theorem d_Na_init_15 : decode prog_7_method_1_code 15 = .ok (.aload_n 0, 1) := by decide +kernel
theorem d_Na_init_16 : decode prog_7_method_1_code 16 = .ok (.sipush 200, 3) := by decide +kernel
theorem d_Na_init_19 : decode prog_7_method_1_code 19 = .ok (.newarray .int, 2) := by decide +kernel
theorem d_Na_init_21 : decode prog_7_method_1_code 21 = .ok (.putfield 18, 3) := by decide +kernel
theorem d_Na_init_24 : decode prog_7_method_1_code 24 = .ok (.return_, 1) := by decide +kernel
theorem d_Na_restart_0 : decode prog_7_method_2_code 0 = .ok (.aload_n 0, 1) := by decide +kernel
theorem d_Na_restart_1 : decode prog_7_method_2_code 1 = .ok (.getfield 12, 3) := by decide +kernel
theorem d_Na_restart_4 : decode prog_7_method_2_code 4 = .ok (.invokevirtual 22, 3) := by decide +kernel
theorem d_Na_restart_7 : decode prog_7_method_2_code 7 = .ok (.aload_n 0, 1) := by decide +kernel
theorem d_Na_restart_8 : decode prog_7_method_2_code 8 = .ok (.getfield 18, 3) := by decide +kernel
end
section
theorem d_Na_restart_11 : decode prog_7_method_2_code 11 = .ok (.iconst 0, 1) := by decide +kernel
theorem d_Na_restart_12 : decode prog_7_method_2_code 12 = .ok (.invokestatic 25, 3) := by decide +kernel
theorem d_Na_restart_15 : decode prog_7_method_2_code 15 = .ok (.aload_n 0, 1) := by decide +kernel
theorem d_Na_restart_16 : decode prog_7_method_2_code 16 = .ok (.iconst 4, 1) := by decide +kernel
theorem d_Na_restart_17 : decode prog_7_method_2_code 17 = .ok (.putfield 31, 3) := by decide +kernel
theorem d_Na_restart_20 : decode prog_7_method_2_code 20 = .ok (.aload_n 0, 1) := by decide +kernel
theorem d_Na_restart_21 : decode prog_7_method_2_code 21 = .ok (.ldc2_w 35, 3) := by decide +kernel
theorem d_Na_restart_24 : decode prog_7_method_2_code 24 = .ok (.putfield 37, 3) := by decide +kernel
theorem d_Na_restart_27 : decode prog_7_method_2_code 27 = .ok (.return_, 1) := by decide +kernel
theorem d_Na_fits_0 : decode prog_7_method_3_code 0 = .ok (.aload_n 0, 1) := by decide +kernel
theorem d_Na_fits_1 : decode prog_7_method_3_code 1 = .ok (.getfield 31, 3) := by decide +kernel
theorem d_Na_fits_4 : decode prog_7_method_3_code 4 = .ok (.sipush 200, 3) := by decide +kernel
theorem d_Na_fits_7 : decode prog_7_method_3_code 7 = .ok (.if_icmp .gt 7, 3) := by decide +kernel
theorem d_Na_fits_10 : decode prog_7_method_3_code 10 = .ok (.iconst 1, 1) := by decide +kernel
theorem d_Na_fits_11 : decode prog_7_method_3_code 11 = .ok (.goto 4, 3) := by decide +kernel
theorem d_Na_fits_14 : decode prog_7_method_3_code 14 = .ok (.iconst 0, 1) := by decide +kernel
theorem d_Na_fits_15 : decode prog_7_method_3_code 15 = .ok (.ireturn, 1) := by decide +kernel
theorem d_Na_writeBit_0 : decode prog_7_method_4_code 0 = .ok (.aload_n 0, 1) := by decide +kernel
theorem d_Na_writeBit_1 : decode prog_7_method_4_code 1 = .ok (.getfield 12, 3) := by decide +kernel
theorem d_Na_writeBit_4 : decode prog_7_method_4_code 4 = .ok (.aload_n 0, 1) := by decide +kernel
theorem d_Na_writeBit_5 : decode prog_7_method_4_code 5 = .ok (.getfield 37, 3) := by decide +kernel
theorem d_Na_writeBit_8 : decode prog_7_method_4_code 8 = .ok (.iload_n 1, 1) := by decide +kernel
theorem d_Na_writeBit_9 : decode prog_7_method_4_code 9 = .ok (.invokevirtual 41, 3) := by decide +kernel
theorem d_Na_writeBit_12 : decode prog_7_method_4_code 12 = .ok (.lstore_n 3, 1) := by decide +kernel
theorem d_Na_writeBit_13 : decode prog_7_method_4_code 13 = .ok (.iload_n 2, 1) := by decide +kernel
theorem d_Na_writeBit_14 : decode prog_7_method_4_code 14 = .ok (.ifCond .ne 11, 3) := by decide +kernel
theorem d_Na_writeBit_17 : decode prog_7_method_4_code 17 = .ok (.aload_n 0, 1) := by decide +kernel
theorem d_Na_writeBit_18 : decode prog_7_method_4_code 18 = .ok (.lload_n 3, 1) := by decide +kernel
theorem d_Na_writeBit_19 : decode prog_7_method_4_code 19 = .ok (.putfield 37, 3) := by decide +kernel
theorem d_Na_writeBit_22 : decode prog_7_method_4_code 22 = .ok (.goto 18, 3) := by decide +kernel
theorem d_Na_writeBit_25 : decode prog_7_method_4_code 25 = .ok (.aload_n 0, 1) := by decide +kernel
theorem d_Na_writeBit_26 : decode prog_7_method_4_code 26 = .ok (.lload_n 3, 1) := by decide +kernel
theorem d_Na_writeBit_27 : decode prog_7_method_4_code 27 = .ok (.invokevirtual 45, 3) := by decide +kernel
theorem d_Na_writeBit_30 : decode prog_7_method_4_code 30 = .ok (.aload_n 0, 1) := by decide +kernel
theorem d_Na_writeBit_31 : decode prog_7_method_4_code 31 = .ok (.dup, 1) := by decide +kernel
theorem d_Na_writeBit_32 : decode prog_7_method_4_code 32 = .ok (.getfield 37, 3) := by decide +kernel
theorem d_Na_writeBit_35 : decode prog_7_method_4_code 35 = .ok (.lload_n 3, 1) := by decide +kernel
theorem d_Na_writeBit_36 : decode prog_7_method_4_code 36 = .ok (.lsub, 1) := by decide +kernel
theorem d_Na_writeBit_37 : decode prog_7_method_4_code 37 = .ok (.putfield 37, 3) := by decide +kernel
theorem d_Na_writeBit_40 : decode prog_7_method_4_code 40 = .ok (.aload_n 0, 1) := by decide +kernel
theorem d_Na_writeBit_41 : decode prog_7_method_4_code 41 = .ok (.getfield 12, 3) := by decide +kernel
theorem d_Na_writeBit_44 : decode prog_7_method_4_code 44 = .ok (.iload_n 1, 1) := by decide +kernel
theorem d_Na_writeBit_45 : decode prog_7_method_4_code 45 = .ok (.iload_n 2, 1) := by decide +kernel
theorem d_Na_writeBit_46 : decode prog_7_method_4_code 46 = .ok (.invokevirtual 49, 3) := by decide +kernel
theorem d_Na_writeBit_49 : decode prog_7_method_4_code 49 = .ok (.aload_n 0, 1) := by decide +kernel
theorem d_Na_writeBit_50 : decode prog_7_method_4_code 50 = .ok (.getfield 37, 3) := by decide +kernel
theorem d_Na_writeBit_53 : decode prog_7_method_4_code 53 = .ok (.ldc2_w 53, 3) := by decide +kernel
theorem d_Na_writeBit_56 : decode prog_7_method_4_code 56 = .ok (.lcmp, 1) := by decide +kernel
theorem d_Na_writeBit_57 : decode prog_7_method_4_code 57 = .ok (.ifCond .ge 24, 3) := by decide +kernel
theorem d_Na_writeBit_60 : decode prog_7_method_4_code 60 = .ok (.aload_n 0, 1) := by decide +kernel
theorem d_Na_writeBit_61 : decode prog_7_method_4_code 61 = .ok (.dup, 1) := by decide +kernel
theorem d_Na_writeBit_62 : decode prog_7_method_4_code 62 = .ok (.getfield 37, 3) := by decide +kernel
theorem d_Na_writeBit_65 : decode prog_7_method_4_code 65 = .ok (.bipush 8, 2) := by decide +kernel
theorem d_Na_writeBit_67 : decode prog_7_method_4_code 67 = .ok (.lshl, 1) := by decide +kernel
theorem d_Na_writeBit_68 : decode prog_7_method_4_code 68 = .ok (.putfield 37, 3) := by decide +kernel
theorem d_Na_writeBit_71 : decode prog_7_method_4_code 71 = .ok (.aload_n 0, 1) := by decide +kernel
theorem d_Na_writeBit_72 : decode prog_7_method_4_code 72 = .ok (.dup, 1) := by decide +kernel
theorem d_Na_writeBit_73 : decode prog_7_method_4_code 73 = .ok (.getfield 31, 3) := by decide +kernel
theorem d_Na_writeBit_76 : decode prog_7_method_4_code 76 = .ok (.iconst 1, 1) := by decide +kernel
theorem d_Na_writeBit_77 : decode prog_7_method_4_code 77 = .ok (.iadd, 1) := by decide +kernel
theorem d_Na_writeBit_78 : decode prog_7_method_4_code 78 = .ok (.putfield 31, 3) := by decide +kernel
theorem d_Na_writeBit_81 : decode prog_7_method_4_code 81 = .ok (.return_, 1) := by decide +kernel
theorem d_Na_writeTree_0 : decode prog_7_method_5_code 0 = .ok (.iconst 1, 1) := by decide +kernel
theorem d_Na_writeTree_1 : decode prog_7_method_5_code 1 = .ok (.istore 4, 2) := by decide +kernel
theorem d_Na_writeTree_3 : decode prog_7_method_5_code 3 = .ok (.iload_n 2, 1) := by decide +kernel
theorem d_Na_writeTree_4 : decode prog_7_method_5_code 4 = .ok (.iconst 1, 1) := by decide +kernel
theorem d_Na_writeTree_5 : decode prog_7_method_5_code 5 = .ok (.isub, 1) := by decide +kernel
theorem d_Na_writeTree_6 : decode prog_7_method_5_code 6 = .ok (.istore 5, 2) := by decide +kernel
theorem d_Na_writeTree_8 : decode prog_7_method_5_code 8 = .ok (.iload 5, 2) := by decide +kernel
theorem d_Na_writeTree_10 : decode prog_7_method_5_code 10 = .ok (.ifCond .lt 36, 3) := by decide +kernel
theorem d_Na_writeTree_13 : decode prog_7_method_5_code 13 = .ok (.iload_n 3, 1) := by decide +kernel
theorem d_Na_writeTree_14 : decode prog_7_method_5_code 14 = .ok (.iload 5, 2) := by decide +kernel
theorem d_Na_writeTree_16 : decode prog_7_method_5_code 16 = .ok (.ishr, 1) := by decide +kernel
theorem d_Na_writeTree_17 : decode prog_7_method_5_code 17 = .ok (.iconst 1, 1) := by decide +kernel
theorem d_Na_writeTree_18 : decode prog_7_method_5_code 18 = .ok (.iand, 1) := by decide +kernel
theorem d_Na_writeTree_19 : decode prog_7_method_5_code 19 = .ok (.istore 6, 2) := by decide +kernel
theorem d_Na_writeTree_21 : decode prog_7_method_5_code 21 = .ok (.aload_n 0, 1) := by decide +kernel
theorem d_Na_writeTree_22 : decode prog_7_method_5_code 22 = .ok (.iload_n 1, 1) := by decide +kernel
theorem d_Na_writeTree_23 : decode prog_7_method_5_code 23 = .ok (.iload 4, 2) := by decide +kernel
theorem d_Na_writeTree_25 : decode prog_7_method_5_code 25 = .ok (.iadd, 1) := by decide +kernel
theorem d_Na_writeTree_26 : decode prog_7_method_5_code 26 = .ok (.iload 6, 2) := by decide +kernel
theorem d_Na_writeTree_28 : decode prog_7_method_5_code 28 = .ok (.invokevirtual 55, 3) := by decide +kernel
theorem d_Na_writeTree_31 : decode prog_7_method_5_code 31 = .ok (.iconst 2, 1) := by decide +kernel
theorem d_Na_writeTree_32 : decode prog_7_method_5_code 32 = .ok (.iload 4, 2) := by decide +kernel
theorem d_Na_writeTree_34 : decode prog_7_method_5_code 34 = .ok (.imul, 1) := by decide +kernel
theorem d_Na_writeTree_35 : decode prog_7_method_5_code 35 = .ok (.iload 6, 2) := by decide +kernel
theorem d_Na_writeTree_37 : decode prog_7_method_5_code 37 = .ok (.iadd, 1) := by decide +kernel
theorem d_Na_writeTree_38 : decode prog_7_method_5_code 38 = .ok (.istore 4, 2) := by decide +kernel
theorem d_Na_writeTree_40 : decode prog_7_method_5_code 40 = .ok (.iinc 5 (-1), 3) := by decide +kernel
theorem d_Na_writeTree_43 : decode prog_7_method_5_code 43 = .ok (.goto (-35), 3) := by decide +kernel
theorem d_Na_writeTree_46 : decode prog_7_method_5_code 46 = .ok (.return_, 1) := by decide +kernel
theorem d_Na_writeRow_0 : decode prog_7_method_6_code 0 = .ok (.iconst 1, 1) := by decide +kernel
theorem d_Na_writeRow_1 : decode prog_7_method_6_code 1 = .ok (.istore 4, 2) := by decide +kernel
theorem d_Na_writeRow_3 : decode prog_7_method_6_code 3 = .ok (.iconst 0, 1) := by decide +kernel
theorem d_Na_writeRow_4 : decode prog_7_method_6_code 4 = .ok (.istore 5, 2) := by decide +kernel
theorem d_Na_writeRow_6 : decode prog_7_method_6_code 6 = .ok (.iload 5, 2) := by decide +kernel
theorem d_Na_writeRow_8 : decode prog_7_method_6_code 8 = .ok (.iload_n 2, 1) := by decide +kernel
theorem d_Na_writeRow_9 : decode prog_7_method_6_code 9 = .ok (.if_icmp .ge 36, 3) := by decide +kernel
theorem d_Na_writeRow_12 : decode prog_7_method_6_code 12 = .ok (.iload_n 3, 1) := by decide +kernel
theorem d_Na_writeRow_13 : decode prog_7_method_6_code 13 = .ok (.iload 5, 2) := by decide +kernel
theorem d_Na_writeRow_15 : decode prog_7_method_6_code 15 = .ok (.ishr, 1) := by decide +kernel
theorem d_Na_writeRow_16 : decode prog_7_method_6_code 16 = .ok (.iconst 1, 1) := by decide +kernel
theorem d_Na_writeRow_17 : decode prog_7_method_6_code 17 = .ok (.iand, 1) := by decide +kernel
theorem d_Na_writeRow_18 : decode prog_7_method_6_code 18 = .ok (.istore 6, 2) := by decide +kernel
theorem d_Na_writeRow_20 : decode prog_7_method_6_code 20 = .ok (.aload_n 0, 1) := by decide +kernel
theorem d_Na_writeRow_21 : decode prog_7_method_6_code 21 = .ok (.iload_n 1, 1) := by decide +kernel
theorem d_Na_writeRow_22 : decode prog_7_method_6_code 22 = .ok (.iload 4, 2) := by decide +kernel
theorem d_Na_writeRow_24 : decode prog_7_method_6_code 24 = .ok (.iadd, 1) := by decide +kernel
theorem d_Na_writeRow_25 : decode prog_7_method_6_code 25 = .ok (.iload 6, 2) := by decide +kernel
theorem d_Na_writeRow_27 : decode prog_7_method_6_code 27 = .ok (.invokevirtual 55, 3) := by decide +kernel
theorem d_Na_writeRow_30 : decode prog_7_method_6_code 30 = .ok (.iconst 2, 1) := by decide +kernel
theorem d_Na_writeRow_31 : decode prog_7_method_6_code 31 = .ok (.iload 4, 2) := by decide +kernel
theorem d_Na_writeRow_33 : decode prog_7_method_6_code 33 = .ok (.imul, 1) := by decide +kernel
theorem d_Na_writeRow_34 : decode prog_7_method_6_code 34 = .ok (.iload 6, 2) := by decide +kernel
theorem d_Na_writeRow_36 : decode prog_7_method_6_code 36 = .ok (.iadd, 1) := by decide +kernel
theorem d_Na_writeRow_37 : decode prog_7_method_6_code 37 = .ok (.istore 4, 2) := by decide +kernel
theorem d_Na_writeRow_39 : decode prog_7_method_6_code 39 = .ok (.iinc 5 1, 3) := by decide +kernel
theorem d_Na_writeRow_42 : decode prog_7_method_6_code 42 = .ok (.goto (-36), 3) := by decide +kernel
theorem d_Na_writeRow_45 : decode prog_7_method_6_code 45 = .ok (.return_, 1) := by decide +kernel
theorem d_Na_raiseLow_0 : decode prog_7_method_7_code 0 = .ok (.aload_n 0, 1) := by decide +kernel
theorem d_Na_raiseLow_1 : decode prog_7_method_7_code 1 = .ok (.getfield 31, 3) := by decide +kernel
theorem d_Na_raiseLow_4 : decode prog_7_method_7_code 4 = .ok (.sipush 200, 3) := by decide +kernel
theorem d_Na_raiseLow_7 : decode prog_7_method_7_code 7 = .ok (.if_icmp .le 4, 3) := by decide +kernel
theorem d_Na_raiseLow_10 : decode prog_7_method_7_code 10 = .ok (.return_, 1) := by decide +kernel
theorem d_Na_raiseLow_11 : decode prog_7_method_7_code 11 = .ok (.lload_n 1, 1) := by decide +kernel
theorem d_Na_raiseLow_12 : decode prog_7_method_7_code 12 = .ok (.lstore_n 3, 1) := by decide +kernel
theorem d_Na_raiseLow_13 : decode prog_7_method_7_code 13 = .ok (.aload_n 0, 1) := by decide +kernel
theorem d_Na_raiseLow_14 : decode prog_7_method_7_code 14 = .ok (.getfield 31, 3) := by decide +kernel
theorem d_Na_raiseLow_17 : decode prog_7_method_7_code 17 = .ok (.iconst 1, 1) := by decide +kernel
theorem d_Na_raiseLow_18 : decode prog_7_method_7_code 18 = .ok (.isub, 1) := by decide +kernel
theorem d_Na_raiseLow_19 : decode prog_7_method_7_code 19 = .ok (.istore 5, 2) := by decide +kernel
theorem d_Na_raiseLow_21 : decode prog_7_method_7_code 21 = .ok (.iload 5, 2) := by decide +kernel
theorem d_Na_raiseLow_23 : decode prog_7_method_7_code 23 = .ok (.ifCond .lt 44, 3) := by decide +kernel
theorem d_Na_raiseLow_26 : decode prog_7_method_7_code 26 = .ok (.lload_n 3, 1) := by decide +kernel
theorem d_Na_raiseLow_27 : decode prog_7_method_7_code 27 = .ok (.lconst 0, 1) := by decide +kernel
theorem d_Na_raiseLow_28 : decode prog_7_method_7_code 28 = .ok (.lcmp, 1) := by decide +kernel
theorem d_Na_raiseLow_29 : decode prog_7_method_7_code 29 = .ok (.ifCond .le 38, 3) := by decide +kernel
theorem d_Na_raiseLow_32 : decode prog_7_method_7_code 32 = .ok (.lload_n 3, 1) := by decide +kernel
theorem d_Na_raiseLow_33 : decode prog_7_method_7_code 33 = .ok (.aload_n 0, 1) := by decide +kernel
theorem d_Na_raiseLow_34 : decode prog_7_method_7_code 34 = .ok (.getfield 18, 3) := by decide +kernel
theorem d_Na_raiseLow_37 : decode prog_7_method_7_code 37 = .ok (.iload 5, 2) := by decide +kernel
theorem d_Na_raiseLow_39 : decode prog_7_method_7_code 39 = .ok (.iaload, 1) := by decide +kernel
theorem d_Na_raiseLow_40 : decode prog_7_method_7_code 40 = .ok (.i2l, 1) := by decide +kernel
theorem d_Na_raiseLow_41 : decode prog_7_method_7_code 41 = .ok (.ladd, 1) := by decide +kernel
theorem d_Na_raiseLow_42 : decode prog_7_method_7_code 42 = .ok (.lstore_n 3, 1) := by decide +kernel
theorem d_Na_raiseLow_43 : decode prog_7_method_7_code 43 = .ok (.aload_n 0, 1) := by decide +kernel
theorem d_Na_raiseLow_44 : decode prog_7_method_7_code 44 = .ok (.getfield 18, 3) := by decide +kernel
theorem d_Na_raiseLow_47 : decode prog_7_method_7_code 47 = .ok (.iload 5, 2) := by decide +kernel
theorem d_Na_raiseLow_49 : decode prog_7_method_7_code 49 = .ok (.lload_n 3, 1) := by decide +kernel
theorem d_Na_raiseLow_50 : decode prog_7_method_7_code 50 = .ok (.ldc2_w 58, 3) := by decide +kernel
theorem d_Na_raiseLow_53 : decode prog_7_method_7_code 53 = .ok (.land, 1) := by decide +kernel
theorem d_Na_raiseLow_54 : decode prog_7_method_7_code 54 = .ok (.l2i, 1) := by decide +kernel
theorem d_Na_raiseLow_55 : decode prog_7_method_7_code 55 = .ok (.iastore, 1) := by decide +kernel
theorem d_Na_raiseLow_56 : decode prog_7_method_7_code 56 = .ok (.lload_n 3, 1) := by decide +kernel
theorem d_Na_raiseLow_57 : decode prog_7_method_7_code 57 = .ok (.bipush 8, 2) := by decide +kernel
theorem d_Na_raiseLow_59 : decode prog_7_method_7_code 59 = .ok (.lshr, 1) := by decide +kernel
theorem d_Na_raiseLow_60 : decode prog_7_method_7_code 60 = .ok (.lstore_n 3, 1) := by decide +kernel
theorem d_Na_raiseLow_61 : decode prog_7_method_7_code 61 = .ok (.iinc 5 (-1), 3) := by decide +kernel
theorem d_Na_raiseLow_64 : decode prog_7_method_7_code 64 = .ok (.goto (-43), 3) := by decide +kernel
theorem d_Na_raiseLow_67 : decode prog_7_method_7_code 67 = .ok (.return_, 1) := by decide +kernel
theorem d_Pa_init_0 : decode prog_8_method_1_code 0 = .ok (.aload_n 0, 1) := by decide +kernel
theorem d_Pa_init_1 : decode prog_8_method_1_code 1 = .ok (.invokespecial 3, 3) := by decide +kernel
theorem d_Pa_init_4 : decode prog_8_method_1_code 4 = .ok (.return_, 1) := by decide +kernel
theorem d_Pa_becomeLiteral_0 : decode prog_8_method_2_code 0 = .ok (.aload_n 0, 1) := by decide +kernel
theorem d_Pa_becomeLiteral_1 : decode prog_8_method_2_code 1 = .ok (.iconst 0, 1) := by decide +kernel
theorem d_Pa_becomeLiteral_2 : decode prog_8_method_2_code 2 = .ok (.iconst 1, 1) := by decide +kernel
theorem d_Pa_becomeLiteral_3 : decode prog_8_method_2_code 3 = .ok (.iconst 0, 1) := by decide +kernel
theorem d_Pa_becomeLiteral_4 : decode prog_8_method_2_code 4 = .ok (.invokevirtual 9, 3) := by decide +kernel
theorem d_Pa_becomeLiteral_7 : decode prog_8_method_2_code 7 = .ok (.aload_n 0, 1) := by decide +kernel
theorem d_Pa_becomeLiteral_8 : decode prog_8_method_2_code 8 = .ok (.iload_n 1, 1) := by decide +kernel
theorem d_Pa_becomeLiteral_9 : decode prog_8_method_2_code 9 = .ok (.putfield 15, 3) := by decide +kernel
theorem d_Pa_becomeLiteral_12 : decode prog_8_method_2_code 12 = .ok (.return_, 1) := by decide +kernel
theorem d_Pa_becomeMatch_0 : decode prog_8_method_3_code 0 = .ok (.aload_n 0, 1) := by decide +kernel
theorem d_Pa_becomeMatch_1 : decode prog_8_method_3_code 1 = .ok (.iconst 1, 1) := by decide +kernel
theorem d_Pa_becomeMatch_2 : decode prog_8_method_3_code 2 = .ok (.iload_n 1, 1) := by decide +kernel
theorem d_Pa_becomeMatch_3 : decode prog_8_method_3_code 3 = .ok (.iload_n 2, 1) := by decide +kernel
theorem d_Pa_becomeMatch_4 : decode prog_8_method_3_code 4 = .ok (.invokevirtual 9, 3) := by decide +kernel
theorem d_Pa_becomeMatch_7 : decode prog_8_method_3_code 7 = .ok (.return_, 1) := by decide +kernel
theorem d_Pa_becomeEcho_0 : decode prog_8_method_4_code 0 = .ok (.aload_n 0, 1) := by decide +kernel
theorem d_Pa_becomeEcho_1 : decode prog_8_method_4_code 1 = .ok (.iconst 2, 1) := by decide +kernel
theorem d_Pa_becomeEcho_2 : decode prog_8_method_4_code 2 = .ok (.iload_n 2, 1) := by decide +kernel
theorem d_Pa_becomeEcho_3 : decode prog_8_method_4_code 3 = .ok (.iload_n 3, 1) := by decide +kernel
theorem d_Pa_becomeEcho_4 : decode prog_8_method_4_code 4 = .ok (.invokevirtual 9, 3) := by decide +kernel
theorem d_Pa_becomeEcho_7 : decode prog_8_method_4_code 7 = .ok (.aload_n 0, 1) := by decide +kernel
theorem d_Pa_becomeEcho_8 : decode prog_8_method_4_code 8 = .ok (.iload_n 1, 1) := by decide +kernel
theorem d_Pa_becomeEcho_9 : decode prog_8_method_4_code 9 = .ok (.putfield 19, 3) := by decide +kernel
theorem d_Pa_becomeEcho_12 : decode prog_8_method_4_code 12 = .ok (.return_, 1) := by decide +kernel
theorem d_Pa_becomeShort_0 : decode prog_8_method_5_code 0 = .ok (.aload_n 0, 1) := by decide +kernel
theorem d_Pa_becomeShort_1 : decode prog_8_method_5_code 1 = .ok (.iconst 3, 1) := by decide +kernel
theorem d_Pa_becomeShort_2 : decode prog_8_method_5_code 2 = .ok (.iconst 1, 1) := by decide +kernel
theorem d_Pa_becomeShort_3 : decode prog_8_method_5_code 3 = .ok (.iload_n 1, 1) := by decide +kernel
theorem d_Pa_becomeShort_4 : decode prog_8_method_5_code 4 = .ok (.invokevirtual 9, 3) := by decide +kernel
theorem d_Pa_becomeShort_7 : decode prog_8_method_5_code 7 = .ok (.return_, 1) := by decide +kernel
theorem d_Pa_becomeEnd_0 : decode prog_8_method_6_code 0 = .ok (.aload_n 0, 1) := by decide +kernel
theorem d_Pa_becomeEnd_1 : decode prog_8_method_6_code 1 = .ok (.iconst 4, 1) := by decide +kernel
theorem d_Pa_becomeEnd_2 : decode prog_8_method_6_code 2 = .ok (.iconst 0, 1) := by decide +kernel
theorem d_Pa_becomeEnd_3 : decode prog_8_method_6_code 3 = .ok (.iconst 0, 1) := by decide +kernel
theorem d_Pa_becomeEnd_4 : decode prog_8_method_6_code 4 = .ok (.invokevirtual 9, 3) := by decide +kernel
theorem d_Pa_becomeEnd_7 : decode prog_8_method_6_code 7 = .ok (.return_, 1) := by decide +kernel
theorem d_Pa_become_0 : decode prog_8_method_7_code 0 = .ok (.aload_n 0, 1) := by decide +kernel
theorem d_Pa_become_1 : decode prog_8_method_7_code 1 = .ok (.iload_n 1, 1) := by decide +kernel
theorem d_Pa_become_2 : decode prog_8_method_7_code 2 = .ok (.putfield 22, 3) := by decide +kernel
theorem d_Pa_become_5 : decode prog_8_method_7_code 5 = .ok (.aload_n 0, 1) := by decide +kernel
theorem d_Pa_become_6 : decode prog_8_method_7_code 6 = .ok (.iload_n 2, 1) := by decide +kernel
theorem d_Pa_become_7 : decode prog_8_method_7_code 7 = .ok (.putfield 25, 3) := by decide +kernel
theorem d_Pa_become_10 : decode prog_8_method_7_code 10 = .ok (.aload_n 0, 1) := by decide +kernel
theorem d_Pa_become_11 : decode prog_8_method_7_code 11 = .ok (.iload_n 3, 1) := by decide +kernel
theorem d_Pa_become_12 : decode prog_8_method_7_code 12 = .ok (.putfield 28, 3) := by decide +kernel
theorem d_Pa_become_15 : decode prog_8_method_7_code 15 = .ok (.return_, 1) := by decide +kernel
theorem d_Pl_init_0 : decode prog_9_method_1_code 0 = .ok (.aload_n 0, 1) := by decide +kernel
theorem d_Pl_init_1 : decode prog_9_method_1_code 1 = .ok (.invokespecial 3, 3) := by decide +kernel
theorem d_Pl_init_4 : decode prog_9_method_1_code 4 = .ok (.aload_n 0, 1) := by decide +kernel
theorem d_Pl_init_5 : decode prog_9_method_1_code 5 = .ok (.bipush 120, 2) := by decide +kernel
theorem d_Pl_init_7 : decode prog_9_method_1_code 7 = .ok (.newarray .int, 2) := by decide +kernel
theorem d_Pl_init_9 : decode prog_9_method_1_code 9 = .ok (.putfield 9, 3) := by decide +kernel
theorem d_Pl_init_12 : decode prog_9_method_1_code 12 = .ok (.aload_n 0, 1) := by decide +kernel
theorem d_Pl_init_13 : decode prog_9_method_1_code 13 = .ok (.bipush 120, 2) := by decide +kernel
theorem d_Pl_init_15 : decode prog_9_method_1_code 15 = .ok (.newarray .int, 2) := by decide +kernel
theorem d_Pl_init_17 : decode prog_9_method_1_code 17 = .ok (.putfield 15, 3) := by decide +kernel
theorem d_Pl_init_20 : decode prog_9_method_1_code 20 = .ok (.aload_n 0, 1) := by decide +kernel
theorem d_Pl_init_21 : decode prog_9_method_1_code 21 = .ok (.bipush 120, 2) := by decide +kernel
theorem d_Pl_init_23 : decode prog_9_method_1_code 23 = .ok (.newarray .int, 2) := by decide +kernel
theorem d_Pl_init_25 : decode prog_9_method_1_code 25 = .ok (.putfield 18, 3) := by decide +kernel
theorem d_Pl_init_28 : decode prog_9_method_1_code 28 = .ok (.return_, 1) := by decide +kernel
theorem d_Pl_clear_0 : decode prog_9_method_2_code 0 = .ok (.aload_n 0, 1) := by decide +kernel
theorem d_Pl_clear_1 : decode prog_9_method_2_code 1 = .ok (.iconst 0, 1) := by decide +kernel
theorem d_Pl_clear_2 : decode prog_9_method_2_code 2 = .ok (.putfield 21, 3) := by decide +kernel
theorem d_Pl_clear_5 : decode prog_9_method_2_code 5 = .ok (.return_, 1) := by decide +kernel
theorem d_Pl_append_0 : decode prog_9_method_3_code 0 = .ok (.aload_n 0, 1) := by decide +kernel
theorem d_Pl_append_1 : decode prog_9_method_3_code 1 = .ok (.getfield 21, 3) := by decide +kernel
theorem d_Pl_append_4 : decode prog_9_method_3_code 4 = .ok (.bipush 120, 2) := by decide +kernel
theorem d_Pl_append_6 : decode prog_9_method_3_code 6 = .ok (.if_icmp .ge 66, 3) := by decide +kernel
theorem d_Pl_append_9 : decode prog_9_method_3_code 9 = .ok (.aload_n 0, 1) := by decide +kernel
theorem d_Pl_append_10 : decode prog_9_method_3_code 10 = .ok (.getfield 9, 3) := by decide +kernel
theorem d_Pl_append_13 : decode prog_9_method_3_code 13 = .ok (.aload_n 0, 1) := by decide +kernel
theorem d_Pl_append_14 : decode prog_9_method_3_code 14 = .ok (.getfield 21, 3) := by decide +kernel
theorem d_Pl_append_17 : decode prog_9_method_3_code 17 = .ok (.aload_n 1, 1) := by decide +kernel
theorem d_Pl_append_18 : decode prog_9_method_3_code 18 = .ok (.getfield 25, 3) := by decide +kernel
theorem d_Pl_append_21 : decode prog_9_method_3_code 21 = .ok (.iastore, 1) := by decide +kernel
theorem d_Pl_append_22 : decode prog_9_method_3_code 22 = .ok (.aload_n 0, 1) := by decide +kernel
theorem d_Pl_append_23 : decode prog_9_method_3_code 23 = .ok (.getfield 15, 3) := by decide +kernel
theorem d_Pl_append_26 : decode prog_9_method_3_code 26 = .ok (.aload_n 0, 1) := by decide +kernel
theorem d_Pl_append_27 : decode prog_9_method_3_code 27 = .ok (.getfield 21, 3) := by decide +kernel
theorem d_Pl_append_30 : decode prog_9_method_3_code 30 = .ok (.aload_n 1, 1) := by decide +kernel
theorem d_Pl_append_31 : decode prog_9_method_3_code 31 = .ok (.getfield 30, 3) := by decide +kernel
theorem d_Pl_append_34 : decode prog_9_method_3_code 34 = .ok (.iastore, 1) := by decide +kernel
theorem d_Pl_append_35 : decode prog_9_method_3_code 35 = .ok (.aload_n 0, 1) := by decide +kernel
theorem d_Pl_append_36 : decode prog_9_method_3_code 36 = .ok (.getfield 18, 3) := by decide +kernel
theorem d_Pl_append_39 : decode prog_9_method_3_code 39 = .ok (.aload_n 0, 1) := by decide +kernel
theorem d_Pl_append_40 : decode prog_9_method_3_code 40 = .ok (.getfield 21, 3) := by decide +kernel
theorem d_Pl_append_43 : decode prog_9_method_3_code 43 = .ok (.aload_n 1, 1) := by decide +kernel
theorem d_Pl_append_44 : decode prog_9_method_3_code 44 = .ok (.getfield 25, 3) := by decide +kernel
theorem d_Pl_append_47 : decode prog_9_method_3_code 47 = .ok (.ifCond .ne 10, 3) := by decide +kernel
theorem d_Pl_append_50 : decode prog_9_method_3_code 50 = .ok (.aload_n 1, 1) := by decide +kernel
theorem d_Pl_append_51 : decode prog_9_method_3_code 51 = .ok (.getfield 33, 3) := by decide +kernel
theorem d_Pl_append_54 : decode prog_9_method_3_code 54 = .ok (.goto 7, 3) := by decide +kernel
theorem d_Pl_append_57 : decode prog_9_method_3_code 57 = .ok (.aload_n 1, 1) := by decide +kernel
theorem d_Pl_append_58 : decode prog_9_method_3_code 58 = .ok (.getfield 36, 3) := by decide +kernel
theorem d_Pl_append_61 : decode prog_9_method_3_code 61 = .ok (.iastore, 1) := by decide +kernel
theorem d_Pl_append_62 : decode prog_9_method_3_code 62 = .ok (.aload_n 0, 1) := by decide +kernel
theorem d_Pl_append_63 : decode prog_9_method_3_code 63 = .ok (.dup, 1) := by decide +kernel
theorem d_Pl_append_64 : decode prog_9_method_3_code 64 = .ok (.getfield 21, 3) := by decide +kernel
theorem d_Pl_append_67 : decode prog_9_method_3_code 67 = .ok (.iconst 1, 1) := by decide +kernel
theorem d_Pl_append_68 : decode prog_9_method_3_code 68 = .ok (.iadd, 1) := by decide +kernel
theorem d_Pl_append_69 : decode prog_9_method_3_code 69 = .ok (.putfield 21, 3) := by decide +kernel
theorem d_Pl_append_72 : decode prog_9_method_3_code 72 = .ok (.return_, 1) := by decide +kernel
theorem d_Pl_tellOf_0 : decode prog_9_method_4_code 0 = .ok (.iload_n 1, 1) := by decide +kernel
theorem d_Pl_tellOf_1 : decode prog_9_method_4_code 1 = .ok (.ifCond .lt 11, 3) := by decide +kernel
theorem d_Pl_tellOf_4 : decode prog_9_method_4_code 4 = .ok (.iload_n 1, 1) := by decide +kernel
theorem d_Pl_tellOf_5 : decode prog_9_method_4_code 5 = .ok (.aload_n 0, 1) := by decide +kernel
theorem d_Pl_tellOf_6 : decode prog_9_method_4_code 6 = .ok (.getfield 21, 3) := by decide +kernel
theorem d_Pl_tellOf_9 : decode prog_9_method_4_code 9 = .ok (.if_icmp .lt 5, 3) := by decide +kernel
theorem d_Pl_tellOf_12 : decode prog_9_method_4_code 12 = .ok (.iconst (-1), 1) := by decide +kernel
theorem d_Pl_tellOf_13 : decode prog_9_method_4_code 13 = .ok (.ireturn, 1) := by decide +kernel
theorem d_Pl_tellOf_14 : decode prog_9_method_4_code 14 = .ok (.iload_n 2, 1) := by decide +kernel
theorem d_Pl_tellOf_15 : decode prog_9_method_4_code 15 = .ok (.tableswitch 46 0 2 #[25, 32, 39], 25) := by decide +kernel
theorem d_Pl_tellOf_40 : decode prog_9_method_4_code 40 = .ok (.aload_n 0, 1) := by decide +kernel
theorem d_Pl_tellOf_41 : decode prog_9_method_4_code 41 = .ok (.getfield 9, 3) := by decide +kernel
theorem d_Pl_tellOf_44 : decode prog_9_method_4_code 44 = .ok (.iload_n 1, 1) := by decide +kernel
theorem d_Pl_tellOf_45 : decode prog_9_method_4_code 45 = .ok (.iaload, 1) := by decide +kernel
theorem d_Pl_tellOf_46 : decode prog_9_method_4_code 46 = .ok (.ireturn, 1) := by decide +kernel
theorem d_Pl_tellOf_47 : decode prog_9_method_4_code 47 = .ok (.aload_n 0, 1) := by decide +kernel
theorem d_Pl_tellOf_48 : decode prog_9_method_4_code 48 = .ok (.getfield 15, 3) := by decide +kernel
theorem d_Pl_tellOf_51 : decode prog_9_method_4_code 51 = .ok (.iload_n 1, 1) := by decide +kernel
theorem d_Pl_tellOf_52 : decode prog_9_method_4_code 52 = .ok (.iaload, 1) := by decide +kernel
theorem d_Pl_tellOf_53 : decode prog_9_method_4_code 53 = .ok (.ireturn, 1) := by decide +kernel
theorem d_Pl_tellOf_54 : decode prog_9_method_4_code 54 = .ok (.aload_n 0, 1) := by decide +kernel
theorem d_Pl_tellOf_55 : decode prog_9_method_4_code 55 = .ok (.getfield 18, 3) := by decide +kernel
theorem d_Pl_tellOf_58 : decode prog_9_method_4_code 58 = .ok (.iload_n 1, 1) := by decide +kernel
theorem d_Pl_tellOf_59 : decode prog_9_method_4_code 59 = .ok (.iaload, 1) := by decide +kernel
theorem d_Pl_tellOf_60 : decode prog_9_method_4_code 60 = .ok (.ireturn, 1) := by decide +kernel
theorem d_Pl_tellOf_61 : decode prog_9_method_4_code 61 = .ok (.iconst (-1), 1) := by decide +kernel
theorem d_Pl_tellOf_62 : decode prog_9_method_4_code 62 = .ok (.ireturn, 1) := by decide +kernel
theorem d_Re_init_0 : decode prog_10_method_1_code 0 = .ok (.aload_n 0, 1) := by decide +kernel
theorem d_Re_init_1 : decode prog_10_method_1_code 1 = .ok (.invokespecial 3, 3) := by decide +kernel
theorem d_Re_init_4 : decode prog_10_method_1_code 4 = .ok (.aload_n 0, 1) := by decide +kernel
theorem d_Re_init_5 : decode prog_10_method_1_code 5 = .ok (.new 9, 3) := by decide +kernel
theorem d_Re_init_8 : decode prog_10_method_1_code 8 = .ok (.dup, 1) := by decide +kernel
theorem d_Re_init_9 : decode prog_10_method_1_code 9 = .ok (.invokespecial 11, 3) := by decide +kernel
theorem d_Re_init_12 : decode prog_10_method_1_code 12 = .ok (.putfield 12, 3) := by decide +kernel
theorem d_Re_init_15 : decode prog_10_method_1_code 15 = .ok (.return_, 1) := by decide +kernel
theorem d_Re_readPacket_0 : decode prog_10_method_2_code 0 = .ok (.aload_n 2, 1) := by decide +kernel
theorem d_Re_readPacket_1 : decode prog_10_method_2_code 1 = .ok (.getfield 18, 3) := by decide +kernel
theorem d_Re_readPacket_4 : decode prog_10_method_2_code 4 = .ok (.istore_n 3, 1) := by decide +kernel
theorem d_Re_readPacket_5 : decode prog_10_method_2_code 5 = .ok (.aload_n 0, 1) := by decide +kernel
theorem d_Re_readPacket_6 : decode prog_10_method_2_code 6 = .ok (.getfield 12, 3) := by decide +kernel
theorem d_Re_readPacket_9 : decode prog_10_method_2_code 9 = .ok (.iconst 0, 1) := by decide +kernel
theorem d_Re_readPacket_10 : decode prog_10_method_2_code 10 = .ok (.iload_n 3, 1) := by decide +kernel
theorem d_Re_readPacket_11 : decode prog_10_method_2_code 11 = .ok (.iadd, 1) := by decide +kernel
theorem d_Re_readPacket_12 : decode prog_10_method_2_code 12 = .ok (.invokevirtual 24, 3) := by decide +kernel
theorem d_Re_readPacket_15 : decode prog_10_method_2_code 15 = .ok (.ifCond .ne 15, 3) := by decide +kernel
theorem d_Re_readPacket_18 : decode prog_10_method_2_code 18 = .ok (.aload_n 1, 1) := by decide +kernel
theorem d_Re_readPacket_19 : decode prog_10_method_2_code 19 = .ok (.aload_n 0, 1) := by decide +kernel
theorem d_Re_readPacket_20 : decode prog_10_method_2_code 20 = .ok (.aload_n 2, 1) := by decide +kernel
theorem d_Re_readPacket_21 : decode prog_10_method_2_code 21 = .ok (.invokevirtual 28, 3) := by decide +kernel
theorem d_Re_readPacket_24 : decode prog_10_method_2_code 24 = .ok (.invokevirtual 32, 3) := by decide +kernel
theorem d_Re_readPacket_27 : decode prog_10_method_2_code 27 = .ok (.goto 35, 3) := by decide +kernel
theorem d_Re_readPacket_30 : decode prog_10_method_2_code 30 = .ok (.aload_n 0, 1) := by decide +kernel
theorem d_Re_readPacket_31 : decode prog_10_method_2_code 31 = .ok (.getfield 12, 3) := by decide +kernel
theorem d_Re_readPacket_34 : decode prog_10_method_2_code 34 = .ok (.bipush 12, 2) := by decide +kernel
theorem d_Re_readPacket_36 : decode prog_10_method_2_code 36 = .ok (.iload_n 3, 1) := by decide +kernel
theorem d_Re_readPacket_37 : decode prog_10_method_2_code 37 = .ok (.iadd, 1) := by decide +kernel
theorem d_Re_readPacket_38 : decode prog_10_method_2_code 38 = .ok (.invokevirtual 24, 3) := by decide +kernel
theorem d_Re_readPacket_41 : decode prog_10_method_2_code 41 = .ok (.ifCond .ne 11, 3) := by decide +kernel
theorem d_Re_readPacket_44 : decode prog_10_method_2_code 44 = .ok (.aload_n 0, 1) := by decide +kernel
theorem d_Re_readPacket_45 : decode prog_10_method_2_code 45 = .ok (.aload_n 1, 1) := by decide +kernel
theorem d_Re_readPacket_46 : decode prog_10_method_2_code 46 = .ok (.invokevirtual 38, 3) := by decide +kernel
theorem d_Re_readPacket_49 : decode prog_10_method_2_code 49 = .ok (.goto 13, 3) := by decide +kernel
theorem d_Re_readPacket_52 : decode prog_10_method_2_code 52 = .ok (.aload_n 0, 1) := by decide +kernel
theorem d_Re_readPacket_53 : decode prog_10_method_2_code 53 = .ok (.aload_n 1, 1) := by decide +kernel
theorem d_Re_readPacket_54 : decode prog_10_method_2_code 54 = .ok (.iload_n 3, 1) := by decide +kernel
theorem d_Re_readPacket_55 : decode prog_10_method_2_code 55 = .ok (.aload_n 2, 1) := by decide +kernel
theorem d_Re_readPacket_56 : decode prog_10_method_2_code 56 = .ok (.getfield 42, 3) := by decide +kernel
theorem d_Re_readPacket_59 : decode prog_10_method_2_code 59 = .ok (.invokevirtual 46, 3) := by decide +kernel
theorem d_Re_readPacket_62 : decode prog_10_method_2_code 62 = .ok (.return_, 1) := by decide +kernel
theorem d_Re_readLiteral_0 : decode prog_10_method_3_code 0 = .ok (.aload_n 1, 1) := by decide +kernel
theorem d_Re_readLiteral_1 : decode prog_10_method_3_code 1 = .ok (.invokevirtual 50, 3) := by decide +kernel
theorem d_Re_readLiteral_4 : decode prog_10_method_3_code 4 = .ok (.istore_n 2, 1) := by decide +kernel
theorem d_Re_readLiteral_5 : decode prog_10_method_3_code 5 = .ok (.aload_n 1, 1) := by decide +kernel
theorem d_Re_readLiteral_6 : decode prog_10_method_3_code 6 = .ok (.aload_n 1, 1) := by decide +kernel
theorem d_Re_readLiteral_7 : decode prog_10_method_3_code 7 = .ok (.getfield 42, 3) := by decide +kernel
theorem d_Re_readLiteral_10 : decode prog_10_method_3_code 10 = .ok (.iconst 0, 1) := by decide +kernel
theorem d_Re_readLiteral_11 : decode prog_10_method_3_code 11 = .ok (.iaload, 1) := by decide +kernel
theorem d_Re_readLiteral_12 : decode prog_10_method_3_code 12 = .ok (.invokevirtual 54, 3) := by decide +kernel
theorem d_Re_readLiteral_15 : decode prog_10_method_3_code 15 = .ok (.istore_n 3, 1) := by decide +kernel
theorem d_Re_readLiteral_16 : decode prog_10_method_3_code 16 = .ok (.aload_n 1, 1) := by decide +kernel
theorem d_Re_readLiteral_17 : decode prog_10_method_3_code 17 = .ok (.invokevirtual 57, 3) := by decide +kernel
theorem d_Re_readLiteral_20 : decode prog_10_method_3_code 20 = .ok (.istore 4, 2) := by decide +kernel
theorem d_Re_readLiteral_22 : decode prog_10_method_3_code 22 = .ok (.iconst 1, 1) := by decide +kernel
theorem d_Re_readLiteral_23 : decode prog_10_method_3_code 23 = .ok (.istore 5, 2) := by decide +kernel
theorem d_Re_readLiteral_25 : decode prog_10_method_3_code 25 = .ok (.bipush 7, 2) := by decide +kernel
theorem d_Re_readLiteral_27 : decode prog_10_method_3_code 27 = .ok (.istore 6, 2) := by decide +kernel
theorem d_Re_readLiteral_29 : decode prog_10_method_3_code 29 = .ok (.iload 6, 2) := by decide +kernel
theorem d_Re_readLiteral_31 : decode prog_10_method_3_code 31 = .ok (.ifCond .lt 80, 3) := by decide +kernel
theorem d_Re_readLiteral_34 : decode prog_10_method_3_code 34 = .ok (.iload_n 3, 1) := by decide +kernel
theorem d_Re_readLiteral_35 : decode prog_10_method_3_code 35 = .ok (.iload 6, 2) := by decide +kernel
theorem d_Re_readLiteral_37 : decode prog_10_method_3_code 37 = .ok (.ishr, 1) := by decide +kernel
theorem d_Re_readLiteral_38 : decode prog_10_method_3_code 38 = .ok (.iconst 1, 1) := by decide +kernel
theorem d_Re_readLiteral_39 : decode prog_10_method_3_code 39 = .ok (.iand, 1) := by decide +kernel
theorem d_Re_readLiteral_40 : decode prog_10_method_3_code 40 = .ok (.istore 7, 2) := by decide +kernel
theorem d_Re_readLiteral_42 : decode prog_10_method_3_code 42 = .ok (.iload 4, 2) := by decide +kernel
theorem d_Re_readLiteral_44 : decode prog_10_method_3_code 44 = .ok (.ifCond .eq 10, 3) := by decide +kernel
theorem d_Re_readLiteral_47 : decode prog_10_method_3_code 47 = .ok (.iconst 1, 1) := by decide +kernel
theorem d_Re_readLiteral_48 : decode prog_10_method_3_code 48 = .ok (.iload 7, 2) := by decide +kernel
theorem d_Re_readLiteral_50 : decode prog_10_method_3_code 50 = .ok (.iadd, 1) := by decide +kernel
theorem d_Re_readLiteral_51 : decode prog_10_method_3_code 51 = .ok (.goto 4, 3) := by decide +kernel
theorem d_Re_readLiteral_54 : decode prog_10_method_3_code 54 = .ok (.iconst 0, 1) := by decide +kernel
theorem d_Re_readLiteral_55 : decode prog_10_method_3_code 55 = .ok (.istore 8, 2) := by decide +kernel
theorem d_Re_readLiteral_57 : decode prog_10_method_3_code 57 = .ok (.aload_n 0, 1) := by decide +kernel
theorem d_Re_readLiteral_58 : decode prog_10_method_3_code 58 = .ok (.getfield 12, 3) := by decide +kernel
theorem d_Re_readLiteral_61 : decode prog_10_method_3_code 61 = .ok (.iload_n 2, 1) := by decide +kernel
theorem d_Re_readLiteral_62 : decode prog_10_method_3_code 62 = .ok (.iload 8, 2) := by decide +kernel
theorem d_Re_readLiteral_64 : decode prog_10_method_3_code 64 = .ok (.sipush 256, 3) := by decide +kernel
theorem d_Re_readLiteral_67 : decode prog_10_method_3_code 67 = .ok (.imul, 1) := by decide +kernel
theorem d_Re_readLiteral_68 : decode prog_10_method_3_code 68 = .ok (.iadd, 1) := by decide +kernel
theorem d_Re_readLiteral_69 : decode prog_10_method_3_code 69 = .ok (.iload 5, 2) := by decide +kernel
theorem d_Re_readLiteral_71 : decode prog_10_method_3_code 71 = .ok (.iadd, 1) := by decide +kernel
theorem d_Re_readLiteral_72 : decode prog_10_method_3_code 72 = .ok (.invokevirtual 24, 3) := by decide +kernel
theorem d_Re_readLiteral_75 : decode prog_10_method_3_code 75 = .ok (.istore 9, 2) := by decide +kernel
theorem d_Re_readLiteral_77 : decode prog_10_method_3_code 77 = .ok (.iload 4, 2) := by decide +kernel
theorem d_Re_readLiteral_79 : decode prog_10_method_3_code 79 = .ok (.ifCond .eq 14, 3) := by decide +kernel
theorem d_Re_readLiteral_82 : decode prog_10_method_3_code 82 = .ok (.iload 9, 2) := by decide +kernel
theorem d_Re_readLiteral_84 : decode prog_10_method_3_code 84 = .ok (.iload 7, 2) := by decide +kernel
theorem d_Re_readLiteral_86 : decode prog_10_method_3_code 86 = .ok (.if_icmp .ne 7, 3) := by decide +kernel
theorem d_Re_readLiteral_89 : decode prog_10_method_3_code 89 = .ok (.iconst 1, 1) := by decide +kernel
theorem d_Re_readLiteral_90 : decode prog_10_method_3_code 90 = .ok (.goto 4, 3) := by decide +kernel
theorem d_Re_readLiteral_93 : decode prog_10_method_3_code 93 = .ok (.iconst 0, 1) := by decide +kernel
theorem d_Re_readLiteral_94 : decode prog_10_method_3_code 94 = .ok (.istore 4, 2) := by decide +kernel
theorem d_Re_readLiteral_96 : decode prog_10_method_3_code 96 = .ok (.iconst 2, 1) := by decide +kernel
theorem d_Re_readLiteral_97 : decode prog_10_method_3_code 97 = .ok (.iload 5, 2) := by decide +kernel
theorem d_Re_readLiteral_99 : decode prog_10_method_3_code 99 = .ok (.imul, 1) := by decide +kernel
theorem d_Re_readLiteral_100 : decode prog_10_method_3_code 100 = .ok (.iload 9, 2) := by decide +kernel
theorem d_Re_readLiteral_102 : decode prog_10_method_3_code 102 = .ok (.iadd, 1) := by decide +kernel
theorem d_Re_readLiteral_103 : decode prog_10_method_3_code 103 = .ok (.istore 5, 2) := by decide +kernel
theorem d_Re_readLiteral_105 : decode prog_10_method_3_code 105 = .ok (.iinc 6 (-1), 3) := by decide +kernel
theorem d_Re_readLiteral_108 : decode prog_10_method_3_code 108 = .ok (.goto (-79), 3) := by decide +kernel
theorem d_Re_readLiteral_111 : decode prog_10_method_3_code 111 = .ok (.iload 5, 2) := by decide +kernel
theorem d_Re_readLiteral_113 : decode prog_10_method_3_code 113 = .ok (.sipush 256, 3) := by decide +kernel
theorem d_Re_readLiteral_116 : decode prog_10_method_3_code 116 = .ok (.isub, 1) := by decide +kernel
theorem d_Re_readLiteral_117 : decode prog_10_method_3_code 117 = .ok (.ireturn, 1) := by decide +kernel
theorem d_Re_readMatchOrEnd_0 : decode prog_10_method_4_code 0 = .ok (.aload_n 0, 1) := by decide +kernel
theorem d_Re_readMatchOrEnd_1 : decode prog_10_method_4_code 1 = .ok (.bipush 72, 2) := by decide +kernel
theorem d_Re_readMatchOrEnd_3 : decode prog_10_method_4_code 3 = .ok (.invokevirtual 61, 3) := by decide +kernel
theorem d_Re_readMatchOrEnd_6 : decode prog_10_method_4_code 6 = .ok (.istore_n 2, 1) := by decide +kernel
theorem d_Re_readMatchOrEnd_7 : decode prog_10_method_4_code 7 = .ok (.aload_n 0, 1) := by decide +kernel
theorem d_Re_readMatchOrEnd_8 : decode prog_10_method_4_code 8 = .ok (.getfield 12, 3) := by decide +kernel
theorem d_Re_readMatchOrEnd_11 : decode prog_10_method_4_code 11 = .ok (.sipush 364, 3) := by decide +kernel
theorem d_Re_readMatchOrEnd_14 : decode prog_10_method_4_code 14 = .ok (.iload_n 2, 1) := by decide +kernel
theorem d_Re_readMatchOrEnd_15 : decode prog_10_method_4_code 15 = .ok (.iconst 3, 1) := by decide +kernel
theorem d_Re_readMatchOrEnd_16 : decode prog_10_method_4_code 16 = .ok (.invokestatic 64, 3) := by decide +kernel
theorem d_Re_readMatchOrEnd_19 : decode prog_10_method_4_code 19 = .ok (.bipush 16, 2) := by decide +kernel
theorem d_Re_readMatchOrEnd_21 : decode prog_10_method_4_code 21 = .ok (.imul, 1) := by decide +kernel
theorem d_Re_readMatchOrEnd_22 : decode prog_10_method_4_code 22 = .ok (.iadd, 1) := by decide +kernel
theorem d_Re_readMatchOrEnd_23 : decode prog_10_method_4_code 23 = .ok (.iconst 4, 1) := by decide +kernel
theorem d_Re_readMatchOrEnd_24 : decode prog_10_method_4_code 24 = .ok (.invokevirtual 70, 3) := by decide +kernel
theorem d_Re_readMatchOrEnd_27 : decode prog_10_method_4_code 27 = .ok (.istore_n 3, 1) := by decide +kernel
theorem d_Re_readMatchOrEnd_28 : decode prog_10_method_4_code 28 = .ok (.iload_n 3, 1) := by decide +kernel
theorem d_Re_readMatchOrEnd_29 : decode prog_10_method_4_code 29 = .ok (.bipush 15, 2) := by decide +kernel
theorem d_Re_readMatchOrEnd_31 : decode prog_10_method_4_code 31 = .ok (.if_icmp .ne 8, 3) := by decide +kernel
theorem d_Re_readMatchOrEnd_34 : decode prog_10_method_4_code 34 = .ok (.aload_n 1, 1) := by decide +kernel
theorem d_Re_readMatchOrEnd_35 : decode prog_10_method_4_code 35 = .ok (.invokevirtual 73, 3) := by decide +kernel
theorem d_Re_readMatchOrEnd_38 : decode prog_10_method_4_code 38 = .ok (.return_, 1) := by decide +kernel
theorem d_Re_readMatchOrEnd_39 : decode prog_10_method_4_code 39 = .ok (.iload_n 3, 1) := by decide +kernel
theorem d_Re_readMatchOrEnd_40 : decode prog_10_method_4_code 40 = .ok (.bipush 14, 2) := by decide +kernel
theorem d_Re_readMatchOrEnd_42 : decode prog_10_method_4_code 42 = .ok (.if_icmp .ne 13, 3) := by decide +kernel
theorem d_Re_readMatchOrEnd_45 : decode prog_10_method_4_code 45 = .ok (.new 76, 3) := by decide +kernel
theorem d_Re_readMatchOrEnd_48 : decode prog_10_method_4_code 48 = .ok (.dup, 1) := by decide +kernel
theorem d_Re_readMatchOrEnd_49 : decode prog_10_method_4_code 49 = .ok (.ldc 78, 2) := by decide +kernel
theorem d_Re_readMatchOrEnd_51 : decode prog_10_method_4_code 51 = .ok (.invokespecial 80, 3) := by decide +kernel
theorem d_Re_readMatchOrEnd_54 : decode prog_10_method_4_code 54 = .ok (.athrow, 1) := by decide +kernel
theorem d_Re_readMatchOrEnd_55 : decode prog_10_method_4_code 55 = .ok (.aload_n 1, 1) := by decide +kernel
theorem d_Re_readMatchOrEnd_56 : decode prog_10_method_4_code 56 = .ok (.iload_n 2, 1) := by decide +kernel
theorem d_Re_readMatchOrEnd_57 : decode prog_10_method_4_code 57 = .ok (.iconst 2, 1) := by decide +kernel
theorem d_Re_readMatchOrEnd_58 : decode prog_10_method_4_code 58 = .ok (.iadd, 1) := by decide +kernel
theorem d_Re_readMatchOrEnd_59 : decode prog_10_method_4_code 59 = .ok (.aload_n 0, 1) := by decide +kernel
theorem d_Re_readMatchOrEnd_60 : decode prog_10_method_4_code 60 = .ok (.iload_n 3, 1) := by decide +kernel
theorem d_Re_readMatchOrEnd_61 : decode prog_10_method_4_code 61 = .ok (.invokevirtual 83, 3) := by decide +kernel
theorem d_Re_readMatchOrEnd_64 : decode prog_10_method_4_code 64 = .ok (.invokevirtual 86, 3) := by decide +kernel
theorem d_Re_readMatchOrEnd_67 : decode prog_10_method_4_code 67 = .ok (.return_, 1) := by decide +kernel
theorem d_Re_readDistance_0 : decode prog_10_method_5_code 0 = .ok (.iload_n 1, 1) := by decide +kernel
theorem d_Re_readDistance_1 : decode prog_10_method_5_code 1 = .ok (.iconst 4, 1) := by decide +kernel
theorem d_Re_readDistance_2 : decode prog_10_method_5_code 2 = .ok (.if_icmp .ge 7, 3) := by decide +kernel
theorem d_Re_readDistance_5 : decode prog_10_method_5_code 5 = .ok (.iload_n 1, 1) := by decide +kernel
theorem d_Re_readDistance_6 : decode prog_10_method_5_code 6 = .ok (.iconst 1, 1) := by decide +kernel
theorem d_Re_readDistance_7 : decode prog_10_method_5_code 7 = .ok (.iadd, 1) := by decide +kernel
theorem d_Re_readDistance_8 : decode prog_10_method_5_code 8 = .ok (.ireturn, 1) := by decide +kernel
theorem d_Re_readDistance_9 : decode prog_10_method_5_code 9 = .ok (.iload_n 1, 1) := by decide +kernel
theorem d_Re_readDistance_10 : decode prog_10_method_5_code 10 = .ok (.iconst 2, 1) := by decide +kernel
theorem d_Re_readDistance_11 : decode prog_10_method_5_code 11 = .ok (.idiv, 1) := by decide +kernel
theorem d_Re_readDistance_12 : decode prog_10_method_5_code 12 = .ok (.iconst 1, 1) := by decide +kernel
theorem d_Re_readDistance_13 : decode prog_10_method_5_code 13 = .ok (.isub, 1) := by decide +kernel
theorem d_Re_readDistance_14 : decode prog_10_method_5_code 14 = .ok (.istore_n 2, 1) := by decide +kernel
theorem d_Re_readDistance_15 : decode prog_10_method_5_code 15 = .ok (.sipush 428, 3) := by decide +kernel
theorem d_Re_readDistance_18 : decode prog_10_method_5_code 18 = .ok (.iload_n 1, 1) := by decide +kernel
theorem d_Re_readDistance_19 : decode prog_10_method_5_code 19 = .ok (.iconst 4, 1) := by decide +kernel
theorem d_Re_readDistance_20 : decode prog_10_method_5_code 20 = .ok (.isub, 1) := by decide +kernel
theorem d_Re_readDistance_21 : decode prog_10_method_5_code 21 = .ok (.bipush 32, 2) := by decide +kernel
theorem d_Re_readDistance_23 : decode prog_10_method_5_code 23 = .ok (.imul, 1) := by decide +kernel
theorem d_Re_readDistance_24 : decode prog_10_method_5_code 24 = .ok (.iadd, 1) := by decide +kernel
theorem d_Re_readDistance_25 : decode prog_10_method_5_code 25 = .ok (.istore_n 3, 1) := by decide +kernel
theorem d_Re_readDistance_26 : decode prog_10_method_5_code 26 = .ok (.iconst 2, 1) := by decide +kernel
theorem d_Re_readDistance_27 : decode prog_10_method_5_code 27 = .ok (.iload_n 1, 1) := by decide +kernel
theorem d_Re_readDistance_28 : decode prog_10_method_5_code 28 = .ok (.iconst 2, 1) := by decide +kernel
theorem d_Re_readDistance_29 : decode prog_10_method_5_code 29 = .ok (.irem, 1) := by decide +kernel
theorem d_Re_readDistance_30 : decode prog_10_method_5_code 30 = .ok (.iadd, 1) := by decide +kernel
theorem d_Re_readDistance_31 : decode prog_10_method_5_code 31 = .ok (.iload_n 2, 1) := by decide +kernel
theorem d_Re_readDistance_32 : decode prog_10_method_5_code 32 = .ok (.ishl, 1) := by decide +kernel
theorem d_Re_readDistance_33 : decode prog_10_method_5_code 33 = .ok (.istore 4, 2) := by decide +kernel
theorem d_Re_readDistance_35 : decode prog_10_method_5_code 35 = .ok (.iload 4, 2) := by decide +kernel
theorem d_Re_readDistance_37 : decode prog_10_method_5_code 37 = .ok (.aload_n 0, 1) := by decide +kernel
theorem d_Re_readDistance_38 : decode prog_10_method_5_code 38 = .ok (.getfield 12, 3) := by decide +kernel
theorem d_Re_readDistance_41 : decode prog_10_method_5_code 41 = .ok (.iload_n 3, 1) := by decide +kernel
theorem d_Re_readDistance_42 : decode prog_10_method_5_code 42 = .ok (.iload_n 2, 1) := by decide +kernel
theorem d_Re_readDistance_43 : decode prog_10_method_5_code 43 = .ok (.invokevirtual 90, 3) := by decide +kernel
theorem d_Re_readDistance_46 : decode prog_10_method_5_code 46 = .ok (.iadd, 1) := by decide +kernel
theorem d_Re_readDistance_47 : decode prog_10_method_5_code 47 = .ok (.iconst 1, 1) := by decide +kernel
theorem d_Re_readDistance_48 : decode prog_10_method_5_code 48 = .ok (.iadd, 1) := by decide +kernel
theorem d_Re_readDistance_49 : decode prog_10_method_5_code 49 = .ok (.ireturn, 1) := by decide +kernel
theorem d_Re_readRepeat_0 : decode prog_10_method_6_code 0 = .ok (.iconst 0, 1) := by decide +kernel
theorem d_Re_readRepeat_1 : decode prog_10_method_6_code 1 = .ok (.istore 4, 2) := by decide +kernel
theorem d_Re_readRepeat_3 : decode prog_10_method_6_code 3 = .ok (.aload_n 0, 1) := by decide +kernel
theorem d_Re_readRepeat_4 : decode prog_10_method_6_code 4 = .ok (.getfield 12, 3) := by decide +kernel
theorem d_Re_readRepeat_7 : decode prog_10_method_6_code 7 = .ok (.bipush 24, 2) := by decide +kernel
theorem d_Re_readRepeat_9 : decode prog_10_method_6_code 9 = .ok (.iload_n 2, 1) := by decide +kernel
theorem d_Re_readRepeat_10 : decode prog_10_method_6_code 10 = .ok (.iadd, 1) := by decide +kernel
theorem d_Re_readRepeat_11 : decode prog_10_method_6_code 11 = .ok (.invokevirtual 24, 3) := by decide +kernel
theorem d_Re_readRepeat_14 : decode prog_10_method_6_code 14 = .ok (.ifCond .ne 25, 3) := by decide +kernel
theorem d_Re_readRepeat_17 : decode prog_10_method_6_code 17 = .ok (.aload_n 0, 1) := by decide +kernel
theorem d_Re_readRepeat_18 : decode prog_10_method_6_code 18 = .ok (.getfield 12, 3) := by decide +kernel
theorem d_Re_readRepeat_21 : decode prog_10_method_6_code 21 = .ok (.bipush 36, 2) := by decide +kernel
theorem d_Re_readRepeat_23 : decode prog_10_method_6_code 23 = .ok (.iload_n 2, 1) := by decide +kernel
theorem d_Re_readRepeat_24 : decode prog_10_method_6_code 24 = .ok (.iadd, 1) := by decide +kernel
theorem d_Re_readRepeat_25 : decode prog_10_method_6_code 25 = .ok (.invokevirtual 24, 3) := by decide +kernel
theorem d_Re_readRepeat_28 : decode prog_10_method_6_code 28 = .ok (.ifCond .ne 46, 3) := by decide +kernel
theorem d_Re_readRepeat_31 : decode prog_10_method_6_code 31 = .ok (.aload_n 1, 1) := by decide +kernel
theorem d_Re_readRepeat_32 : decode prog_10_method_6_code 32 = .ok (.aload_n 3, 1) := by decide +kernel
theorem d_Re_readRepeat_33 : decode prog_10_method_6_code 33 = .ok (.iconst 0, 1) := by decide +kernel
theorem d_Re_readRepeat_34 : decode prog_10_method_6_code 34 = .ok (.iaload, 1) := by decide +kernel
theorem d_Re_readRepeat_35 : decode prog_10_method_6_code 35 = .ok (.invokevirtual 93, 3) := by decide +kernel
theorem d_Re_readRepeat_38 : decode prog_10_method_6_code 38 = .ok (.return_, 1) := by decide +kernel
theorem d_Re_readRepeat_39 : decode prog_10_method_6_code 39 = .ok (.aload_n 0, 1) := by decide +kernel
theorem d_Re_readRepeat_40 : decode prog_10_method_6_code 40 = .ok (.getfield 12, 3) := by decide +kernel
theorem d_Re_readRepeat_43 : decode prog_10_method_6_code 43 = .ok (.bipush 48, 2) := by decide +kernel
theorem d_Re_readRepeat_45 : decode prog_10_method_6_code 45 = .ok (.iload_n 2, 1) := by decide +kernel
theorem d_Re_readRepeat_46 : decode prog_10_method_6_code 46 = .ok (.iadd, 1) := by decide +kernel
theorem d_Re_readRepeat_47 : decode prog_10_method_6_code 47 = .ok (.invokevirtual 24, 3) := by decide +kernel
theorem d_Re_readRepeat_50 : decode prog_10_method_6_code 50 = .ok (.ifCond .ne 9, 3) := by decide +kernel
theorem d_Re_readRepeat_53 : decode prog_10_method_6_code 53 = .ok (.iconst 1, 1) := by decide +kernel
theorem d_Re_readRepeat_54 : decode prog_10_method_6_code 54 = .ok (.istore 4, 2) := by decide +kernel
theorem d_Re_readRepeat_56 : decode prog_10_method_6_code 56 = .ok (.goto 18, 3) := by decide +kernel
theorem d_Re_readRepeat_59 : decode prog_10_method_6_code 59 = .ok (.iconst 2, 1) := by decide +kernel
theorem d_Re_readRepeat_60 : decode prog_10_method_6_code 60 = .ok (.aload_n 0, 1) := by decide +kernel
theorem d_Re_readRepeat_61 : decode prog_10_method_6_code 61 = .ok (.getfield 12, 3) := by decide +kernel
theorem d_Re_readRepeat_64 : decode prog_10_method_6_code 64 = .ok (.bipush 60, 2) := by decide +kernel
theorem d_Re_readRepeat_66 : decode prog_10_method_6_code 66 = .ok (.iload_n 2, 1) := by decide +kernel
theorem d_Re_readRepeat_67 : decode prog_10_method_6_code 67 = .ok (.iadd, 1) := by decide +kernel
theorem d_Re_readRepeat_68 : decode prog_10_method_6_code 68 = .ok (.invokevirtual 24, 3) := by decide +kernel
theorem d_Re_readRepeat_71 : decode prog_10_method_6_code 71 = .ok (.iadd, 1) := by decide +kernel
theorem d_Re_readRepeat_72 : decode prog_10_method_6_code 72 = .ok (.istore 4, 2) := by decide +kernel
theorem d_Re_readRepeat_74 : decode prog_10_method_6_code 74 = .ok (.aload_n 0, 1) := by decide +kernel
theorem d_Re_readRepeat_75 : decode prog_10_method_6_code 75 = .ok (.sipush 218, 3) := by decide +kernel
theorem d_Re_readRepeat_78 : decode prog_10_method_6_code 78 = .ok (.invokevirtual 61, 3) := by decide +kernel
theorem d_Re_readRepeat_81 : decode prog_10_method_6_code 81 = .ok (.istore 5, 2) := by decide +kernel
theorem d_Re_readRepeat_83 : decode prog_10_method_6_code 83 = .ok (.aload_n 1, 1) := by decide +kernel
theorem d_Re_readRepeat_84 : decode prog_10_method_6_code 84 = .ok (.iload 4, 2) := by decide +kernel
theorem d_Re_readRepeat_86 : decode prog_10_method_6_code 86 = .ok (.iload 5, 2) := by decide +kernel
theorem d_Re_readRepeat_88 : decode prog_10_method_6_code 88 = .ok (.iconst 2, 1) := by decide +kernel
theorem d_Re_readRepeat_89 : decode prog_10_method_6_code 89 = .ok (.iadd, 1) := by decide +kernel
theorem d_Re_readRepeat_90 : decode prog_10_method_6_code 90 = .ok (.aload_n 3, 1) := by decide +kernel
theorem d_Re_readRepeat_91 : decode prog_10_method_6_code 91 = .ok (.iload 4, 2) := by decide +kernel
theorem d_Re_readRepeat_93 : decode prog_10_method_6_code 93 = .ok (.iaload, 1) := by decide +kernel
theorem d_Re_readRepeat_94 : decode prog_10_method_6_code 94 = .ok (.invokevirtual 96, 3) := by decide +kernel
theorem d_Re_readRepeat_97 : decode prog_10_method_6_code 97 = .ok (.return_, 1) := by decide +kernel
theorem d_Re_readLength_0 : decode prog_10_method_7_code 0 = .ok (.aload_n 0, 1) := by decide +kernel
theorem d_Re_readLength_1 : decode prog_10_method_7_code 1 = .ok (.getfield 12, 3) := by decide +kernel
theorem d_Re_readLength_4 : decode prog_10_method_7_code 4 = .ok (.iload_n 1, 1) := by decide +kernel
theorem d_Re_readLength_5 : decode prog_10_method_7_code 5 = .ok (.invokevirtual 24, 3) := by decide +kernel
theorem d_Re_readLength_8 : decode prog_10_method_7_code 8 = .ok (.ifCond .ne 15, 3) := by decide +kernel
theorem d_Re_readLength_11 : decode prog_10_method_7_code 11 = .ok (.aload_n 0, 1) := by decide +kernel
theorem d_Re_readLength_12 : decode prog_10_method_7_code 12 = .ok (.getfield 12, 3) := by decide +kernel
theorem d_Re_readLength_15 : decode prog_10_method_7_code 15 = .ok (.iload_n 1, 1) := by decide +kernel
theorem d_Re_readLength_16 : decode prog_10_method_7_code 16 = .ok (.iconst 2, 1) := by decide +kernel
theorem d_Re_readLength_17 : decode prog_10_method_7_code 17 = .ok (.iadd, 1) := by decide +kernel
theorem d_Re_readLength_18 : decode prog_10_method_7_code 18 = .ok (.iconst 3, 1) := by decide +kernel
theorem d_Re_readLength_19 : decode prog_10_method_7_code 19 = .ok (.invokevirtual 70, 3) := by decide +kernel
theorem d_Re_readLength_22 : decode prog_10_method_7_code 22 = .ok (.ireturn, 1) := by decide +kernel
theorem d_Re_readLength_23 : decode prog_10_method_7_code 23 = .ok (.aload_n 0, 1) := by decide +kernel
theorem d_Re_readLength_24 : decode prog_10_method_7_code 24 = .ok (.getfield 12, 3) := by decide +kernel
theorem d_Re_readLength_27 : decode prog_10_method_7_code 27 = .ok (.iload_n 1, 1) := by decide +kernel
theorem d_Re_readLength_28 : decode prog_10_method_7_code 28 = .ok (.iconst 1, 1) := by decide +kernel
theorem d_Re_readLength_29 : decode prog_10_method_7_code 29 = .ok (.iadd, 1) := by decide +kernel
theorem d_Re_readLength_30 : decode prog_10_method_7_code 30 = .ok (.invokevirtual 24, 3) := by decide +kernel
theorem d_Re_readLength_33 : decode prog_10_method_7_code 33 = .ok (.ifCond .ne 19, 3) := by decide +kernel
theorem d_Re_readLength_36 : decode prog_10_method_7_code 36 = .ok (.bipush 8, 2) := by decide +kernel
theorem d_Re_readLength_38 : decode prog_10_method_7_code 38 = .ok (.aload_n 0, 1) := by decide +kernel
theorem d_Re_readLength_39 : decode prog_10_method_7_code 39 = .ok (.getfield 12, 3) := by decide +kernel
theorem d_Re_readLength_42 : decode prog_10_method_7_code 42 = .ok (.iload_n 1, 1) := by decide +kernel
theorem d_Re_readLength_43 : decode prog_10_method_7_code 43 = .ok (.bipush 10, 2) := by decide +kernel
theorem d_Re_readLength_45 : decode prog_10_method_7_code 45 = .ok (.iadd, 1) := by decide +kernel
theorem d_Re_readLength_46 : decode prog_10_method_7_code 46 = .ok (.iconst 3, 1) := by decide +kernel
theorem d_Re_readLength_47 : decode prog_10_method_7_code 47 = .ok (.invokevirtual 70, 3) := by decide +kernel
theorem d_Re_readLength_50 : decode prog_10_method_7_code 50 = .ok (.iadd, 1) := by decide +kernel
theorem d_Re_readLength_51 : decode prog_10_method_7_code 51 = .ok (.ireturn, 1) := by decide +kernel
theorem d_Re_readLength_52 : decode prog_10_method_7_code 52 = .ok (.bipush 16, 2) := by decide +kernel
theorem d_Re_readLength_54 : decode prog_10_method_7_code 54 = .ok (.aload_n 0, 1) := by decide +kernel
theorem d_Re_readLength_55 : decode prog_10_method_7_code 55 = .ok (.getfield 12, 3) := by decide +kernel
theorem d_Re_readLength_58 : decode prog_10_method_7_code 58 = .ok (.iload_n 1, 1) := by decide +kernel
theorem d_Re_readLength_59 : decode prog_10_method_7_code 59 = .ok (.bipush 18, 2) := by decide +kernel
theorem d_Re_readLength_61 : decode prog_10_method_7_code 61 = .ok (.iadd, 1) := by decide +kernel
theorem d_Re_readLength_62 : decode prog_10_method_7_code 62 = .ok (.bipush 7, 2) := by decide +kernel
theorem d_Re_readLength_64 : decode prog_10_method_7_code 64 = .ok (.invokevirtual 70, 3) := by decide +kernel
theorem d_Re_readLength_67 : decode prog_10_method_7_code 67 = .ok (.iadd, 1) := by decide +kernel
theorem d_Re_readLength_68 : decode prog_10_method_7_code 68 = .ok (.ireturn, 1) := by decide +kernel
theorem d_Wr_init_0 : decode prog_11_method_1_code 0 = .ok (.aload_n 0, 1) := by decide +kernel
theorem d_Wr_init_1 : decode prog_11_method_1_code 1 = .ok (.invokespecial 3, 3) := by decide +kernel
theorem d_Wr_init_4 : decode prog_11_method_1_code 4 = .ok (.aload_n 0, 1) := by decide +kernel
theorem d_Wr_init_5 : decode prog_11_method_1_code 5 = .ok (.new 9, 3) := by decide +kernel
theorem d_Wr_init_8 : decode prog_11_method_1_code 8 = .ok (.dup, 1) := by decide +kernel
theorem d_Wr_init_9 : decode prog_11_method_1_code 9 = .ok (.invokespecial 11, 3) := by decide +kernel
theorem d_Wr_init_12 : decode prog_11_method_1_code 12 = .ok (.putfield 12, 3) := by decide +kernel
theorem d_Wr_init_15 : decode prog_11_method_1_code 15 = .ok (.return_, 1) := by decide +kernel
theorem d_Wr_writePacket_0 : decode prog_11_method_2_code 0 = .ok (.aload_n 2, 1) := by decide +kernel
theorem d_Wr_writePacket_1 : decode prog_11_method_2_code 1 = .ok (.getfield 18, 3) := by decide +kernel
theorem d_Wr_writePacket_4 : decode prog_11_method_2_code 4 = .ok (.istore_n 3, 1) := by decide +kernel
theorem d_Wr_writePacket_5 : decode prog_11_method_2_code 5 = .ok (.aload_n 0, 1) := by decide +kernel
theorem d_Wr_writePacket_6 : decode prog_11_method_2_code 6 = .ok (.getfield 12, 3) := by decide +kernel
theorem d_Wr_writePacket_9 : decode prog_11_method_2_code 9 = .ok (.iconst 0, 1) := by decide +kernel
theorem d_Wr_writePacket_10 : decode prog_11_method_2_code 10 = .ok (.iload_n 3, 1) := by decide +kernel
theorem d_Wr_writePacket_11 : decode prog_11_method_2_code 11 = .ok (.iadd, 1) := by decide +kernel
theorem d_Wr_writePacket_12 : decode prog_11_method_2_code 12 = .ok (.aload_n 1, 1) := by decide +kernel
theorem d_Wr_writePacket_13 : decode prog_11_method_2_code 13 = .ok (.getfield 24, 3) := by decide +kernel
theorem d_Wr_writePacket_16 : decode prog_11_method_2_code 16 = .ok (.ifCond .ne 7, 3) := by decide +kernel
theorem d_Wr_writePacket_19 : decode prog_11_method_2_code 19 = .ok (.iconst 0, 1) := by decide +kernel
theorem d_Wr_writePacket_20 : decode prog_11_method_2_code 20 = .ok (.goto 4, 3) := by decide +kernel
theorem d_Wr_writePacket_23 : decode prog_11_method_2_code 23 = .ok (.iconst 1, 1) := by decide +kernel
theorem d_Wr_writePacket_24 : decode prog_11_method_2_code 24 = .ok (.invokevirtual 29, 3) := by decide +kernel
theorem d_Wr_writePacket_27 : decode prog_11_method_2_code 27 = .ok (.aload_n 1, 1) := by decide +kernel
theorem d_Wr_writePacket_28 : decode prog_11_method_2_code 28 = .ok (.getfield 24, 3) := by decide +kernel
theorem d_Wr_writePacket_31 : decode prog_11_method_2_code 31 = .ok (.ifCond .ne 13, 3) := by decide +kernel
theorem d_Wr_writePacket_34 : decode prog_11_method_2_code 34 = .ok (.aload_n 0, 1) := by decide +kernel
theorem d_Wr_writePacket_35 : decode prog_11_method_2_code 35 = .ok (.aload_n 1, 1) := by decide +kernel
theorem d_Wr_writePacket_36 : decode prog_11_method_2_code 36 = .ok (.getfield 33, 3) := by decide +kernel
theorem d_Wr_writePacket_39 : decode prog_11_method_2_code 39 = .ok (.aload_n 2, 1) := by decide +kernel
theorem d_Wr_writePacket_40 : decode prog_11_method_2_code 40 = .ok (.invokevirtual 36, 3) := by decide +kernel
theorem d_Wr_writePacket_43 : decode prog_11_method_2_code 43 = .ok (.return_, 1) := by decide +kernel
theorem d_Wr_writePacket_44 : decode prog_11_method_2_code 44 = .ok (.aload_n 1, 1) := by decide +kernel
theorem d_Wr_writePacket_45 : decode prog_11_method_2_code 45 = .ok (.getfield 24, 3) := by decide +kernel
theorem d_Wr_writePacket_48 : decode prog_11_method_2_code 48 = .ok (.iconst 2, 1) := by decide +kernel
theorem d_Wr_writePacket_49 : decode prog_11_method_2_code 49 = .ok (.if_icmp .eq 11, 3) := by decide +kernel
theorem d_Wr_writePacket_52 : decode prog_11_method_2_code 52 = .ok (.aload_n 1, 1) := by decide +kernel
theorem d_Wr_writePacket_53 : decode prog_11_method_2_code 53 = .ok (.getfield 24, 3) := by decide +kernel
theorem d_Wr_writePacket_56 : decode prog_11_method_2_code 56 = .ok (.iconst 3, 1) := by decide +kernel
theorem d_Wr_writePacket_57 : decode prog_11_method_2_code 57 = .ok (.if_icmp .ne 7, 3) := by decide +kernel
theorem d_Wr_writePacket_60 : decode prog_11_method_2_code 60 = .ok (.iconst 1, 1) := by decide +kernel
theorem d_Wr_writePacket_61 : decode prog_11_method_2_code 61 = .ok (.goto 4, 3) := by decide +kernel
theorem d_Wr_writePacket_64 : decode prog_11_method_2_code 64 = .ok (.iconst 0, 1) := by decide +kernel
theorem d_Wr_writePacket_65 : decode prog_11_method_2_code 65 = .ok (.istore 4, 2) := by decide +kernel
theorem d_Wr_writePacket_67 : decode prog_11_method_2_code 67 = .ok (.aload_n 0, 1) := by decide +kernel
theorem d_Wr_writePacket_68 : decode prog_11_method_2_code 68 = .ok (.getfield 12, 3) := by decide +kernel
theorem d_Wr_writePacket_71 : decode prog_11_method_2_code 71 = .ok (.bipush 12, 2) := by decide +kernel
theorem d_Wr_writePacket_73 : decode prog_11_method_2_code 73 = .ok (.iload_n 3, 1) := by decide +kernel
theorem d_Wr_writePacket_74 : decode prog_11_method_2_code 74 = .ok (.iadd, 1) := by decide +kernel
theorem d_Wr_writePacket_75 : decode prog_11_method_2_code 75 = .ok (.iload 4, 2) := by decide +kernel
theorem d_Wr_writePacket_77 : decode prog_11_method_2_code 77 = .ok (.ifCond .eq 7, 3) := by decide +kernel
theorem d_Wr_writePacket_80 : decode prog_11_method_2_code 80 = .ok (.iconst 1, 1) := by decide +kernel
theorem d_Wr_writePacket_81 : decode prog_11_method_2_code 81 = .ok (.goto 4, 3) := by decide +kernel
theorem d_Wr_writePacket_84 : decode prog_11_method_2_code 84 = .ok (.iconst 0, 1) := by decide +kernel
theorem d_Wr_writePacket_85 : decode prog_11_method_2_code 85 = .ok (.invokevirtual 29, 3) := by decide +kernel
theorem d_Wr_writePacket_88 : decode prog_11_method_2_code 88 = .ok (.aload_n 1, 1) := by decide +kernel
theorem d_Wr_writePacket_89 : decode prog_11_method_2_code 89 = .ok (.getfield 24, 3) := by decide +kernel
theorem d_Wr_writePacket_92 : decode prog_11_method_2_code 92 = .ok (.iconst 1, 1) := by decide +kernel
theorem d_Wr_writePacket_93 : decode prog_11_method_2_code 93 = .ok (.if_icmp .ne 11, 3) := by decide +kernel
theorem d_Wr_writePacket_96 : decode prog_11_method_2_code 96 = .ok (.aload_n 0, 1) := by decide +kernel
theorem d_Wr_writePacket_97 : decode prog_11_method_2_code 97 = .ok (.aload_n 1, 1) := by decide +kernel
theorem d_Wr_writePacket_98 : decode prog_11_method_2_code 98 = .ok (.invokevirtual 40, 3) := by decide +kernel
theorem d_Wr_writePacket_101 : decode prog_11_method_2_code 101 = .ok (.goto 24, 3) := by decide +kernel
theorem d_Wr_writePacket_104 : decode prog_11_method_2_code 104 = .ok (.aload_n 1, 1) := by decide +kernel
theorem d_Wr_writePacket_105 : decode prog_11_method_2_code 105 = .ok (.getfield 24, 3) := by decide +kernel
theorem d_Wr_writePacket_108 : decode prog_11_method_2_code 108 = .ok (.iconst 4, 1) := by decide +kernel
theorem d_Wr_writePacket_109 : decode prog_11_method_2_code 109 = .ok (.if_icmp .ne 10, 3) := by decide +kernel
theorem d_Wr_writePacket_112 : decode prog_11_method_2_code 112 = .ok (.aload_n 0, 1) := by decide +kernel
theorem d_Wr_writePacket_113 : decode prog_11_method_2_code 113 = .ok (.invokevirtual 44, 3) := by decide +kernel
theorem d_Wr_writePacket_116 : decode prog_11_method_2_code 116 = .ok (.goto 9, 3) := by decide +kernel
theorem d_Wr_writePacket_119 : decode prog_11_method_2_code 119 = .ok (.aload_n 0, 1) := by decide +kernel
theorem d_Wr_writePacket_120 : decode prog_11_method_2_code 120 = .ok (.aload_n 1, 1) := by decide +kernel
theorem d_Wr_writePacket_121 : decode prog_11_method_2_code 121 = .ok (.iload_n 3, 1) := by decide +kernel
theorem d_Wr_writePacket_122 : decode prog_11_method_2_code 122 = .ok (.invokevirtual 47, 3) := by decide +kernel
theorem d_Wr_writePacket_125 : decode prog_11_method_2_code 125 = .ok (.return_, 1) := by decide +kernel
theorem d_Wr_writeLiteral_0 : decode prog_11_method_3_code 0 = .ok (.aload_n 2, 1) := by decide +kernel
theorem d_Wr_writeLiteral_1 : decode prog_11_method_3_code 1 = .ok (.invokevirtual 51, 3) := by decide +kernel
theorem d_Wr_writeLiteral_4 : decode prog_11_method_3_code 4 = .ok (.istore_n 3, 1) := by decide +kernel
theorem d_Wr_writeLiteral_5 : decode prog_11_method_3_code 5 = .ok (.aload_n 2, 1) := by decide +kernel
theorem d_Wr_writeLiteral_6 : decode prog_11_method_3_code 6 = .ok (.aload_n 2, 1) := by decide +kernel
theorem d_Wr_writeLiteral_7 : decode prog_11_method_3_code 7 = .ok (.getfield 55, 3) := by decide +kernel
theorem d_Wr_writeLiteral_10 : decode prog_11_method_3_code 10 = .ok (.iconst 0, 1) := by decide +kernel
theorem d_Wr_writeLiteral_11 : decode prog_11_method_3_code 11 = .ok (.iaload, 1) := by decide +kernel
theorem d_Wr_writeLiteral_12 : decode prog_11_method_3_code 12 = .ok (.invokevirtual 59, 3) := by decide +kernel
theorem d_Wr_writeLiteral_15 : decode prog_11_method_3_code 15 = .ok (.istore 4, 2) := by decide +kernel
theorem d_Wr_writeLiteral_17 : decode prog_11_method_3_code 17 = .ok (.aload_n 2, 1) := by decide +kernel
theorem d_Wr_writeLiteral_18 : decode prog_11_method_3_code 18 = .ok (.invokevirtual 63, 3) := by decide +kernel
theorem d_Wr_writeLiteral_21 : decode prog_11_method_3_code 21 = .ok (.istore 5, 2) := by decide +kernel
theorem d_Wr_writeLiteral_23 : decode prog_11_method_3_code 23 = .ok (.iconst 1, 1) := by decide +kernel
theorem d_Wr_writeLiteral_24 : decode prog_11_method_3_code 24 = .ok (.istore 6, 2) := by decide +kernel
theorem d_Wr_writeLiteral_26 : decode prog_11_method_3_code 26 = .ok (.bipush 7, 2) := by decide +kernel
theorem d_Wr_writeLiteral_28 : decode prog_11_method_3_code 28 = .ok (.istore 7, 2) := by decide +kernel
theorem d_Wr_writeLiteral_30 : decode prog_11_method_3_code 30 = .ok (.iload 7, 2) := by decide +kernel
theorem d_Wr_writeLiteral_32 : decode prog_11_method_3_code 32 = .ok (.ifCond .lt 89, 3) := by decide +kernel
theorem d_Wr_writeLiteral_35 : decode prog_11_method_3_code 35 = .ok (.iload_n 1, 1) := by decide +kernel
theorem d_Wr_writeLiteral_36 : decode prog_11_method_3_code 36 = .ok (.iload 7, 2) := by decide +kernel
theorem d_Wr_writeLiteral_38 : decode prog_11_method_3_code 38 = .ok (.ishr, 1) := by decide +kernel
theorem d_Wr_writeLiteral_39 : decode prog_11_method_3_code 39 = .ok (.iconst 1, 1) := by decide +kernel
theorem d_Wr_writeLiteral_40 : decode prog_11_method_3_code 40 = .ok (.iand, 1) := by decide +kernel
theorem d_Wr_writeLiteral_41 : decode prog_11_method_3_code 41 = .ok (.istore 8, 2) := by decide +kernel
theorem d_Wr_writeLiteral_43 : decode prog_11_method_3_code 43 = .ok (.iload 4, 2) := by decide +kernel
theorem d_Wr_writeLiteral_45 : decode prog_11_method_3_code 45 = .ok (.iload 7, 2) := by decide +kernel
theorem d_Wr_writeLiteral_47 : decode prog_11_method_3_code 47 = .ok (.ishr, 1) := by decide +kernel
theorem d_Wr_writeLiteral_48 : decode prog_11_method_3_code 48 = .ok (.iconst 1, 1) := by decide +kernel
theorem d_Wr_writeLiteral_49 : decode prog_11_method_3_code 49 = .ok (.iand, 1) := by decide +kernel
theorem d_Wr_writeLiteral_50 : decode prog_11_method_3_code 50 = .ok (.istore 9, 2) := by decide +kernel
theorem d_Wr_writeLiteral_52 : decode prog_11_method_3_code 52 = .ok (.iload 5, 2) := by decide +kernel
theorem d_Wr_writeLiteral_54 : decode prog_11_method_3_code 54 = .ok (.ifCond .eq 10, 3) := by decide +kernel
theorem d_Wr_writeLiteral_57 : decode prog_11_method_3_code 57 = .ok (.iconst 1, 1) := by decide +kernel
theorem d_Wr_writeLiteral_58 : decode prog_11_method_3_code 58 = .ok (.iload 9, 2) := by decide +kernel
theorem d_Wr_writeLiteral_60 : decode prog_11_method_3_code 60 = .ok (.iadd, 1) := by decide +kernel
theorem d_Wr_writeLiteral_61 : decode prog_11_method_3_code 61 = .ok (.goto 4, 3) := by decide +kernel
theorem d_Wr_writeLiteral_64 : decode prog_11_method_3_code 64 = .ok (.iconst 0, 1) := by decide +kernel
theorem d_Wr_writeLiteral_65 : decode prog_11_method_3_code 65 = .ok (.istore 10, 2) := by decide +kernel
theorem d_Wr_writeLiteral_67 : decode prog_11_method_3_code 67 = .ok (.aload_n 0, 1) := by decide +kernel
theorem d_Wr_writeLiteral_68 : decode prog_11_method_3_code 68 = .ok (.getfield 12, 3) := by decide +kernel
theorem d_Wr_writeLiteral_71 : decode prog_11_method_3_code 71 = .ok (.iload_n 3, 1) := by decide +kernel
theorem d_Wr_writeLiteral_72 : decode prog_11_method_3_code 72 = .ok (.iload 10, 2) := by decide +kernel
theorem d_Wr_writeLiteral_74 : decode prog_11_method_3_code 74 = .ok (.sipush 256, 3) := by decide +kernel
theorem d_Wr_writeLiteral_77 : decode prog_11_method_3_code 77 = .ok (.imul, 1) := by decide +kernel
theorem d_Wr_writeLiteral_78 : decode prog_11_method_3_code 78 = .ok (.iadd, 1) := by decide +kernel
theorem d_Wr_writeLiteral_79 : decode prog_11_method_3_code 79 = .ok (.iload 6, 2) := by decide +kernel
theorem d_Wr_writeLiteral_81 : decode prog_11_method_3_code 81 = .ok (.iadd, 1) := by decide +kernel
theorem d_Wr_writeLiteral_82 : decode prog_11_method_3_code 82 = .ok (.iload 8, 2) := by decide +kernel
theorem d_Wr_writeLiteral_84 : decode prog_11_method_3_code 84 = .ok (.invokevirtual 29, 3) := by decide +kernel
theorem d_Wr_writeLiteral_87 : decode prog_11_method_3_code 87 = .ok (.iload 5, 2) := by decide +kernel
theorem d_Wr_writeLiteral_89 : decode prog_11_method_3_code 89 = .ok (.ifCond .eq 14, 3) := by decide +kernel
end
section
theorem d_Wr_writeLiteral_92 : decode prog_11_method_3_code 92 = .ok (.iload 8, 2) := by decide +kernel
theorem d_Wr_writeLiteral_94 : decode prog_11_method_3_code 94 = .ok (.iload 9, 2) := by decide +kernel
theorem d_Wr_writeLiteral_96 : decode prog_11_method_3_code 96 = .ok (.if_icmp .ne 7, 3) := by decide +kernel
theorem d_Wr_writeLiteral_99 : decode prog_11_method_3_code 99 = .ok (.iconst 1, 1) := by decide +kernel
theorem d_Wr_writeLiteral_100 : decode prog_11_method_3_code 100 = .ok (.goto 4, 3) := by decide +kernel
theorem d_Wr_writeLiteral_103 : decode prog_11_method_3_code 103 = .ok (.iconst 0, 1) := by decide +kernel
theorem d_Wr_writeLiteral_104 : decode prog_11_method_3_code 104 = .ok (.istore 5, 2) := by decide +kernel
theorem d_Wr_writeLiteral_106 : decode prog_11_method_3_code 106 = .ok (.iconst 2, 1) := by decide +kernel
theorem d_Wr_writeLiteral_107 : decode prog_11_method_3_code 107 = .ok (.iload 6, 2) := by decide +kernel
theorem d_Wr_writeLiteral_109 : decode prog_11_method_3_code 109 = .ok (.imul, 1) := by decide +kernel
theorem d_Wr_writeLiteral_110 : decode prog_11_method_3_code 110 = .ok (.iload 8, 2) := by decide +kernel
theorem d_Wr_writeLiteral_112 : decode prog_11_method_3_code 112 = .ok (.iadd, 1) := by decide +kernel
theorem d_Wr_writeLiteral_113 : decode prog_11_method_3_code 113 = .ok (.istore 6, 2) := by decide +kernel
theorem d_Wr_writeLiteral_115 : decode prog_11_method_3_code 115 = .ok (.iinc 7 (-1), 3) := by decide +kernel
theorem d_Wr_writeLiteral_118 : decode prog_11_method_3_code 118 = .ok (.goto (-88), 3) := by decide +kernel
theorem d_Wr_writeLiteral_121 : decode prog_11_method_3_code 121 = .ok (.return_, 1) := by decide +kernel
theorem d_Wr_writeMatch_0 : decode prog_11_method_4_code 0 = .ok (.aload_n 1, 1) := by decide +kernel
theorem d_Wr_writeMatch_1 : decode prog_11_method_4_code 1 = .ok (.getfield 67, 3) := by decide +kernel
theorem d_Wr_writeMatch_4 : decode prog_11_method_4_code 4 = .ok (.iconst 2, 1) := by decide +kernel
theorem d_Wr_writeMatch_5 : decode prog_11_method_4_code 5 = .ok (.isub, 1) := by decide +kernel
theorem d_Wr_writeMatch_6 : decode prog_11_method_4_code 6 = .ok (.istore_n 2, 1) := by decide +kernel
theorem d_Wr_writeMatch_7 : decode prog_11_method_4_code 7 = .ok (.aload_n 1, 1) := by decide +kernel
theorem d_Wr_writeMatch_8 : decode prog_11_method_4_code 8 = .ok (.getfield 70, 3) := by decide +kernel
theorem d_Wr_writeMatch_11 : decode prog_11_method_4_code 11 = .ok (.iconst 1, 1) := by decide +kernel
theorem d_Wr_writeMatch_12 : decode prog_11_method_4_code 12 = .ok (.isub, 1) := by decide +kernel
theorem d_Wr_writeMatch_13 : decode prog_11_method_4_code 13 = .ok (.istore_n 3, 1) := by decide +kernel
theorem d_Wr_writeMatch_14 : decode prog_11_method_4_code 14 = .ok (.iload_n 3, 1) := by decide +kernel
theorem d_Wr_writeMatch_15 : decode prog_11_method_4_code 15 = .ok (.invokestatic 73, 3) := by decide +kernel
theorem d_Wr_writeMatch_18 : decode prog_11_method_4_code 18 = .ok (.istore 4, 2) := by decide +kernel
theorem d_Wr_writeMatch_20 : decode prog_11_method_4_code 20 = .ok (.iload_n 3, 1) := by decide +kernel
theorem d_Wr_writeMatch_21 : decode prog_11_method_4_code 21 = .ok (.iconst 4, 1) := by decide +kernel
theorem d_Wr_writeMatch_22 : decode prog_11_method_4_code 22 = .ok (.if_icmp .ge 7, 3) := by decide +kernel
theorem d_Wr_writeMatch_25 : decode prog_11_method_4_code 25 = .ok (.iload_n 3, 1) := by decide +kernel
theorem d_Wr_writeMatch_26 : decode prog_11_method_4_code 26 = .ok (.goto 16, 3) := by decide +kernel
theorem d_Wr_writeMatch_29 : decode prog_11_method_4_code 29 = .ok (.iconst 2, 1) := by decide +kernel
theorem d_Wr_writeMatch_30 : decode prog_11_method_4_code 30 = .ok (.iload 4, 2) := by decide +kernel
theorem d_Wr_writeMatch_32 : decode prog_11_method_4_code 32 = .ok (.imul, 1) := by decide +kernel
theorem d_Wr_writeMatch_33 : decode prog_11_method_4_code 33 = .ok (.iload_n 3, 1) := by decide +kernel
theorem d_Wr_writeMatch_34 : decode prog_11_method_4_code 34 = .ok (.iload 4, 2) := by decide +kernel
theorem d_Wr_writeMatch_36 : decode prog_11_method_4_code 36 = .ok (.iconst 1, 1) := by decide +kernel
theorem d_Wr_writeMatch_37 : decode prog_11_method_4_code 37 = .ok (.isub, 1) := by decide +kernel
theorem d_Wr_writeMatch_38 : decode prog_11_method_4_code 38 = .ok (.ishr, 1) := by decide +kernel
theorem d_Wr_writeMatch_39 : decode prog_11_method_4_code 39 = .ok (.iconst 1, 1) := by decide +kernel
theorem d_Wr_writeMatch_40 : decode prog_11_method_4_code 40 = .ok (.iand, 1) := by decide +kernel
theorem d_Wr_writeMatch_41 : decode prog_11_method_4_code 41 = .ok (.iadd, 1) := by decide +kernel
theorem d_Wr_writeMatch_42 : decode prog_11_method_4_code 42 = .ok (.istore 5, 2) := by decide +kernel
theorem d_Wr_writeMatch_44 : decode prog_11_method_4_code 44 = .ok (.aload_n 0, 1) := by decide +kernel
theorem d_Wr_writeMatch_45 : decode prog_11_method_4_code 45 = .ok (.bipush 72, 2) := by decide +kernel
theorem d_Wr_writeMatch_47 : decode prog_11_method_4_code 47 = .ok (.iload_n 2, 1) := by decide +kernel
theorem d_Wr_writeMatch_48 : decode prog_11_method_4_code 48 = .ok (.invokevirtual 76, 3) := by decide +kernel
theorem d_Wr_writeMatch_51 : decode prog_11_method_4_code 51 = .ok (.aload_n 0, 1) := by decide +kernel
theorem d_Wr_writeMatch_52 : decode prog_11_method_4_code 52 = .ok (.getfield 12, 3) := by decide +kernel
theorem d_Wr_writeMatch_55 : decode prog_11_method_4_code 55 = .ok (.sipush 364, 3) := by decide +kernel
theorem d_Wr_writeMatch_58 : decode prog_11_method_4_code 58 = .ok (.iload_n 2, 1) := by decide +kernel
theorem d_Wr_writeMatch_59 : decode prog_11_method_4_code 59 = .ok (.iconst 3, 1) := by decide +kernel
theorem d_Wr_writeMatch_60 : decode prog_11_method_4_code 60 = .ok (.invokestatic 79, 3) := by decide +kernel
theorem d_Wr_writeMatch_63 : decode prog_11_method_4_code 63 = .ok (.bipush 16, 2) := by decide +kernel
theorem d_Wr_writeMatch_65 : decode prog_11_method_4_code 65 = .ok (.imul, 1) := by decide +kernel
theorem d_Wr_writeMatch_66 : decode prog_11_method_4_code 66 = .ok (.iadd, 1) := by decide +kernel
theorem d_Wr_writeMatch_67 : decode prog_11_method_4_code 67 = .ok (.iconst 4, 1) := by decide +kernel
theorem d_Wr_writeMatch_68 : decode prog_11_method_4_code 68 = .ok (.iload 5, 2) := by decide +kernel
theorem d_Wr_writeMatch_70 : decode prog_11_method_4_code 70 = .ok (.invokevirtual 85, 3) := by decide +kernel
theorem d_Wr_writeMatch_73 : decode prog_11_method_4_code 73 = .ok (.iload 5, 2) := by decide +kernel
theorem d_Wr_writeMatch_75 : decode prog_11_method_4_code 75 = .ok (.iconst 4, 1) := by decide +kernel
theorem d_Wr_writeMatch_76 : decode prog_11_method_4_code 76 = .ok (.if_icmp .lt 30, 3) := by decide +kernel
theorem d_Wr_writeMatch_79 : decode prog_11_method_4_code 79 = .ok (.sipush 428, 3) := by decide +kernel
theorem d_Wr_writeMatch_82 : decode prog_11_method_4_code 82 = .ok (.iload 5, 2) := by decide +kernel
theorem d_Wr_writeMatch_84 : decode prog_11_method_4_code 84 = .ok (.iconst 4, 1) := by decide +kernel
theorem d_Wr_writeMatch_85 : decode prog_11_method_4_code 85 = .ok (.isub, 1) := by decide +kernel
theorem d_Wr_writeMatch_86 : decode prog_11_method_4_code 86 = .ok (.bipush 32, 2) := by decide +kernel
theorem d_Wr_writeMatch_88 : decode prog_11_method_4_code 88 = .ok (.imul, 1) := by decide +kernel
theorem d_Wr_writeMatch_89 : decode prog_11_method_4_code 89 = .ok (.iadd, 1) := by decide +kernel
theorem d_Wr_writeMatch_90 : decode prog_11_method_4_code 90 = .ok (.istore 6, 2) := by decide +kernel
theorem d_Wr_writeMatch_92 : decode prog_11_method_4_code 92 = .ok (.aload_n 0, 1) := by decide +kernel
theorem d_Wr_writeMatch_93 : decode prog_11_method_4_code 93 = .ok (.getfield 12, 3) := by decide +kernel
theorem d_Wr_writeMatch_96 : decode prog_11_method_4_code 96 = .ok (.iload 6, 2) := by decide +kernel
theorem d_Wr_writeMatch_98 : decode prog_11_method_4_code 98 = .ok (.iload 4, 2) := by decide +kernel
theorem d_Wr_writeMatch_100 : decode prog_11_method_4_code 100 = .ok (.iconst 1, 1) := by decide +kernel
theorem d_Wr_writeMatch_101 : decode prog_11_method_4_code 101 = .ok (.isub, 1) := by decide +kernel
theorem d_Wr_writeMatch_102 : decode prog_11_method_4_code 102 = .ok (.iload_n 3, 1) := by decide +kernel
theorem d_Wr_writeMatch_103 : decode prog_11_method_4_code 103 = .ok (.invokevirtual 89, 3) := by decide +kernel
theorem d_Wr_writeMatch_106 : decode prog_11_method_4_code 106 = .ok (.return_, 1) := by decide +kernel
theorem d_Wr_writeEnd_0 : decode prog_11_method_5_code 0 = .ok (.aload_n 0, 1) := by decide +kernel
theorem d_Wr_writeEnd_1 : decode prog_11_method_5_code 1 = .ok (.bipush 72, 2) := by decide +kernel
theorem d_Wr_writeEnd_3 : decode prog_11_method_5_code 3 = .ok (.iconst 0, 1) := by decide +kernel
theorem d_Wr_writeEnd_4 : decode prog_11_method_5_code 4 = .ok (.invokevirtual 76, 3) := by decide +kernel
theorem d_Wr_writeEnd_7 : decode prog_11_method_5_code 7 = .ok (.aload_n 0, 1) := by decide +kernel
theorem d_Wr_writeEnd_8 : decode prog_11_method_5_code 8 = .ok (.getfield 12, 3) := by decide +kernel
theorem d_Wr_writeEnd_11 : decode prog_11_method_5_code 11 = .ok (.sipush 364, 3) := by decide +kernel
theorem d_Wr_writeEnd_14 : decode prog_11_method_5_code 14 = .ok (.iconst 4, 1) := by decide +kernel
theorem d_Wr_writeEnd_15 : decode prog_11_method_5_code 15 = .ok (.bipush 15, 2) := by decide +kernel
theorem d_Wr_writeEnd_17 : decode prog_11_method_5_code 17 = .ok (.invokevirtual 85, 3) := by decide +kernel
theorem d_Wr_writeEnd_20 : decode prog_11_method_5_code 20 = .ok (.return_, 1) := by decide +kernel
theorem d_Wr_writeRepeat_0 : decode prog_11_method_6_code 0 = .ok (.aload_n 1, 1) := by decide +kernel
theorem d_Wr_writeRepeat_1 : decode prog_11_method_6_code 1 = .ok (.getfield 24, 3) := by decide +kernel
theorem d_Wr_writeRepeat_4 : decode prog_11_method_6_code 4 = .ok (.iconst 3, 1) := by decide +kernel
theorem d_Wr_writeRepeat_5 : decode prog_11_method_6_code 5 = .ok (.if_icmp .eq 10, 3) := by decide +kernel
theorem d_Wr_writeRepeat_8 : decode prog_11_method_6_code 8 = .ok (.aload_n 1, 1) := by decide +kernel
theorem d_Wr_writeRepeat_9 : decode prog_11_method_6_code 9 = .ok (.getfield 92, 3) := by decide +kernel
theorem d_Wr_writeRepeat_12 : decode prog_11_method_6_code 12 = .ok (.ifCond .ne 42, 3) := by decide +kernel
theorem d_Wr_writeRepeat_15 : decode prog_11_method_6_code 15 = .ok (.aload_n 0, 1) := by decide +kernel
theorem d_Wr_writeRepeat_16 : decode prog_11_method_6_code 16 = .ok (.getfield 12, 3) := by decide +kernel
theorem d_Wr_writeRepeat_19 : decode prog_11_method_6_code 19 = .ok (.bipush 24, 2) := by decide +kernel
theorem d_Wr_writeRepeat_21 : decode prog_11_method_6_code 21 = .ok (.iload_n 2, 1) := by decide +kernel
theorem d_Wr_writeRepeat_22 : decode prog_11_method_6_code 22 = .ok (.iadd, 1) := by decide +kernel
theorem d_Wr_writeRepeat_23 : decode prog_11_method_6_code 23 = .ok (.iconst 0, 1) := by decide +kernel
theorem d_Wr_writeRepeat_24 : decode prog_11_method_6_code 24 = .ok (.invokevirtual 29, 3) := by decide +kernel
theorem d_Wr_writeRepeat_27 : decode prog_11_method_6_code 27 = .ok (.aload_n 0, 1) := by decide +kernel
theorem d_Wr_writeRepeat_28 : decode prog_11_method_6_code 28 = .ok (.getfield 12, 3) := by decide +kernel
theorem d_Wr_writeRepeat_31 : decode prog_11_method_6_code 31 = .ok (.bipush 36, 2) := by decide +kernel
theorem d_Wr_writeRepeat_33 : decode prog_11_method_6_code 33 = .ok (.iload_n 2, 1) := by decide +kernel
theorem d_Wr_writeRepeat_34 : decode prog_11_method_6_code 34 = .ok (.iadd, 1) := by decide +kernel
theorem d_Wr_writeRepeat_35 : decode prog_11_method_6_code 35 = .ok (.aload_n 1, 1) := by decide +kernel
theorem d_Wr_writeRepeat_36 : decode prog_11_method_6_code 36 = .ok (.getfield 24, 3) := by decide +kernel
theorem d_Wr_writeRepeat_39 : decode prog_11_method_6_code 39 = .ok (.iconst 3, 1) := by decide +kernel
theorem d_Wr_writeRepeat_40 : decode prog_11_method_6_code 40 = .ok (.if_icmp .ne 7, 3) := by decide +kernel
theorem d_Wr_writeRepeat_43 : decode prog_11_method_6_code 43 = .ok (.iconst 0, 1) := by decide +kernel
theorem d_Wr_writeRepeat_44 : decode prog_11_method_6_code 44 = .ok (.goto 4, 3) := by decide +kernel
theorem d_Wr_writeRepeat_47 : decode prog_11_method_6_code 47 = .ok (.iconst 1, 1) := by decide +kernel
theorem d_Wr_writeRepeat_48 : decode prog_11_method_6_code 48 = .ok (.invokevirtual 29, 3) := by decide +kernel
theorem d_Wr_writeRepeat_51 : decode prog_11_method_6_code 51 = .ok (.goto 71, 3) := by decide +kernel
theorem d_Wr_writeRepeat_54 : decode prog_11_method_6_code 54 = .ok (.aload_n 0, 1) := by decide +kernel
theorem d_Wr_writeRepeat_55 : decode prog_11_method_6_code 55 = .ok (.getfield 12, 3) := by decide +kernel
theorem d_Wr_writeRepeat_58 : decode prog_11_method_6_code 58 = .ok (.bipush 24, 2) := by decide +kernel
theorem d_Wr_writeRepeat_60 : decode prog_11_method_6_code 60 = .ok (.iload_n 2, 1) := by decide +kernel
theorem d_Wr_writeRepeat_61 : decode prog_11_method_6_code 61 = .ok (.iadd, 1) := by decide +kernel
theorem d_Wr_writeRepeat_62 : decode prog_11_method_6_code 62 = .ok (.iconst 1, 1) := by decide +kernel
theorem d_Wr_writeRepeat_63 : decode prog_11_method_6_code 63 = .ok (.invokevirtual 29, 3) := by decide +kernel
theorem d_Wr_writeRepeat_66 : decode prog_11_method_6_code 66 = .ok (.aload_n 0, 1) := by decide +kernel
theorem d_Wr_writeRepeat_67 : decode prog_11_method_6_code 67 = .ok (.getfield 12, 3) := by decide +kernel
theorem d_Wr_writeRepeat_70 : decode prog_11_method_6_code 70 = .ok (.bipush 48, 2) := by decide +kernel
theorem d_Wr_writeRepeat_72 : decode prog_11_method_6_code 72 = .ok (.iload_n 2, 1) := by decide +kernel
theorem d_Wr_writeRepeat_73 : decode prog_11_method_6_code 73 = .ok (.iadd, 1) := by decide +kernel
theorem d_Wr_writeRepeat_74 : decode prog_11_method_6_code 74 = .ok (.aload_n 1, 1) := by decide +kernel
theorem d_Wr_writeRepeat_75 : decode prog_11_method_6_code 75 = .ok (.getfield 92, 3) := by decide +kernel
theorem d_Wr_writeRepeat_78 : decode prog_11_method_6_code 78 = .ok (.iconst 1, 1) := by decide +kernel
theorem d_Wr_writeRepeat_79 : decode prog_11_method_6_code 79 = .ok (.if_icmp .ne 7, 3) := by decide +kernel
theorem d_Wr_writeRepeat_82 : decode prog_11_method_6_code 82 = .ok (.iconst 0, 1) := by decide +kernel
theorem d_Wr_writeRepeat_83 : decode prog_11_method_6_code 83 = .ok (.goto 4, 3) := by decide +kernel
theorem d_Wr_writeRepeat_86 : decode prog_11_method_6_code 86 = .ok (.iconst 1, 1) := by decide +kernel
theorem d_Wr_writeRepeat_87 : decode prog_11_method_6_code 87 = .ok (.invokevirtual 29, 3) := by decide +kernel
theorem d_Wr_writeRepeat_90 : decode prog_11_method_6_code 90 = .ok (.aload_n 1, 1) := by decide +kernel
theorem d_Wr_writeRepeat_91 : decode prog_11_method_6_code 91 = .ok (.getfield 92, 3) := by decide +kernel
theorem d_Wr_writeRepeat_94 : decode prog_11_method_6_code 94 = .ok (.iconst 1, 1) := by decide +kernel
theorem d_Wr_writeRepeat_95 : decode prog_11_method_6_code 95 = .ok (.if_icmp .le 27, 3) := by decide +kernel
theorem d_Wr_writeRepeat_98 : decode prog_11_method_6_code 98 = .ok (.aload_n 0, 1) := by decide +kernel
theorem d_Wr_writeRepeat_99 : decode prog_11_method_6_code 99 = .ok (.getfield 12, 3) := by decide +kernel
theorem d_Wr_writeRepeat_102 : decode prog_11_method_6_code 102 = .ok (.bipush 60, 2) := by decide +kernel
theorem d_Wr_writeRepeat_104 : decode prog_11_method_6_code 104 = .ok (.iload_n 2, 1) := by decide +kernel
theorem d_Wr_writeRepeat_105 : decode prog_11_method_6_code 105 = .ok (.iadd, 1) := by decide +kernel
theorem d_Wr_writeRepeat_106 : decode prog_11_method_6_code 106 = .ok (.aload_n 1, 1) := by decide +kernel
theorem d_Wr_writeRepeat_107 : decode prog_11_method_6_code 107 = .ok (.getfield 92, 3) := by decide +kernel
theorem d_Wr_writeRepeat_110 : decode prog_11_method_6_code 110 = .ok (.iconst 2, 1) := by decide +kernel
theorem d_Wr_writeRepeat_111 : decode prog_11_method_6_code 111 = .ok (.if_icmp .ne 7, 3) := by decide +kernel
theorem d_Wr_writeRepeat_114 : decode prog_11_method_6_code 114 = .ok (.iconst 0, 1) := by decide +kernel
theorem d_Wr_writeRepeat_115 : decode prog_11_method_6_code 115 = .ok (.goto 4, 3) := by decide +kernel
theorem d_Wr_writeRepeat_118 : decode prog_11_method_6_code 118 = .ok (.iconst 1, 1) := by decide +kernel
theorem d_Wr_writeRepeat_119 : decode prog_11_method_6_code 119 = .ok (.invokevirtual 29, 3) := by decide +kernel
theorem d_Wr_writeRepeat_122 : decode prog_11_method_6_code 122 = .ok (.aload_n 1, 1) := by decide +kernel
theorem d_Wr_writeRepeat_123 : decode prog_11_method_6_code 123 = .ok (.getfield 24, 3) := by decide +kernel
theorem d_Wr_writeRepeat_126 : decode prog_11_method_6_code 126 = .ok (.iconst 2, 1) := by decide +kernel
theorem d_Wr_writeRepeat_127 : decode prog_11_method_6_code 127 = .ok (.if_icmp .ne 16, 3) := by decide +kernel
theorem d_Wr_writeRepeat_130 : decode prog_11_method_6_code 130 = .ok (.aload_n 0, 1) := by decide +kernel
theorem d_Wr_writeRepeat_131 : decode prog_11_method_6_code 131 = .ok (.sipush 218, 3) := by decide +kernel
theorem d_Wr_writeRepeat_134 : decode prog_11_method_6_code 134 = .ok (.aload_n 1, 1) := by decide +kernel
theorem d_Wr_writeRepeat_135 : decode prog_11_method_6_code 135 = .ok (.getfield 67, 3) := by decide +kernel
theorem d_Wr_writeRepeat_138 : decode prog_11_method_6_code 138 = .ok (.iconst 2, 1) := by decide +kernel
theorem d_Wr_writeRepeat_139 : decode prog_11_method_6_code 139 = .ok (.isub, 1) := by decide +kernel
theorem d_Wr_writeRepeat_140 : decode prog_11_method_6_code 140 = .ok (.invokevirtual 76, 3) := by decide +kernel
theorem d_Wr_writeRepeat_143 : decode prog_11_method_6_code 143 = .ok (.return_, 1) := by decide +kernel
theorem d_Wr_writeLength_0 : decode prog_11_method_7_code 0 = .ok (.aload_n 0, 1) := by decide +kernel
theorem d_Wr_writeLength_1 : decode prog_11_method_7_code 1 = .ok (.getfield 12, 3) := by decide +kernel
theorem d_Wr_writeLength_4 : decode prog_11_method_7_code 4 = .ok (.iload_n 1, 1) := by decide +kernel
theorem d_Wr_writeLength_5 : decode prog_11_method_7_code 5 = .ok (.iload_n 2, 1) := by decide +kernel
theorem d_Wr_writeLength_6 : decode prog_11_method_7_code 6 = .ok (.bipush 8, 2) := by decide +kernel
theorem d_Wr_writeLength_8 : decode prog_11_method_7_code 8 = .ok (.if_icmp .ge 7, 3) := by decide +kernel
theorem d_Wr_writeLength_11 : decode prog_11_method_7_code 11 = .ok (.iconst 0, 1) := by decide +kernel
theorem d_Wr_writeLength_12 : decode prog_11_method_7_code 12 = .ok (.goto 4, 3) := by decide +kernel
theorem d_Wr_writeLength_15 : decode prog_11_method_7_code 15 = .ok (.iconst 1, 1) := by decide +kernel
theorem d_Wr_writeLength_16 : decode prog_11_method_7_code 16 = .ok (.invokevirtual 29, 3) := by decide +kernel
theorem d_Wr_writeLength_19 : decode prog_11_method_7_code 19 = .ok (.iload_n 2, 1) := by decide +kernel
theorem d_Wr_writeLength_20 : decode prog_11_method_7_code 20 = .ok (.bipush 8, 2) := by decide +kernel
theorem d_Wr_writeLength_22 : decode prog_11_method_7_code 22 = .ok (.if_icmp .ge 16, 3) := by decide +kernel
theorem d_Wr_writeLength_25 : decode prog_11_method_7_code 25 = .ok (.aload_n 0, 1) := by decide +kernel
theorem d_Wr_writeLength_26 : decode prog_11_method_7_code 26 = .ok (.getfield 12, 3) := by decide +kernel
theorem d_Wr_writeLength_29 : decode prog_11_method_7_code 29 = .ok (.iload_n 1, 1) := by decide +kernel
theorem d_Wr_writeLength_30 : decode prog_11_method_7_code 30 = .ok (.iconst 2, 1) := by decide +kernel
theorem d_Wr_writeLength_31 : decode prog_11_method_7_code 31 = .ok (.iadd, 1) := by decide +kernel
theorem d_Wr_writeLength_32 : decode prog_11_method_7_code 32 = .ok (.iconst 3, 1) := by decide +kernel
theorem d_Wr_writeLength_33 : decode prog_11_method_7_code 33 = .ok (.iload_n 2, 1) := by decide +kernel
theorem d_Wr_writeLength_34 : decode prog_11_method_7_code 34 = .ok (.invokevirtual 85, 3) := by decide +kernel
theorem d_Wr_writeLength_37 : decode prog_11_method_7_code 37 = .ok (.return_, 1) := by decide +kernel
theorem d_Wr_writeLength_38 : decode prog_11_method_7_code 38 = .ok (.aload_n 0, 1) := by decide +kernel
theorem d_Wr_writeLength_39 : decode prog_11_method_7_code 39 = .ok (.getfield 12, 3) := by decide +kernel
theorem d_Wr_writeLength_42 : decode prog_11_method_7_code 42 = .ok (.iload_n 1, 1) := by decide +kernel
theorem d_Wr_writeLength_43 : decode prog_11_method_7_code 43 = .ok (.iconst 1, 1) := by decide +kernel
theorem d_Wr_writeLength_44 : decode prog_11_method_7_code 44 = .ok (.iadd, 1) := by decide +kernel
theorem d_Wr_writeLength_45 : decode prog_11_method_7_code 45 = .ok (.iload_n 2, 1) := by decide +kernel
theorem d_Wr_writeLength_46 : decode prog_11_method_7_code 46 = .ok (.bipush 16, 2) := by decide +kernel
theorem d_Wr_writeLength_48 : decode prog_11_method_7_code 48 = .ok (.if_icmp .ge 7, 3) := by decide +kernel
theorem d_Wr_writeLength_51 : decode prog_11_method_7_code 51 = .ok (.iconst 0, 1) := by decide +kernel
theorem d_Wr_writeLength_52 : decode prog_11_method_7_code 52 = .ok (.goto 4, 3) := by decide +kernel
theorem d_Wr_writeLength_55 : decode prog_11_method_7_code 55 = .ok (.iconst 1, 1) := by decide +kernel
theorem d_Wr_writeLength_56 : decode prog_11_method_7_code 56 = .ok (.invokevirtual 29, 3) := by decide +kernel
theorem d_Wr_writeLength_59 : decode prog_11_method_7_code 59 = .ok (.iload_n 2, 1) := by decide +kernel
theorem d_Wr_writeLength_60 : decode prog_11_method_7_code 60 = .ok (.bipush 16, 2) := by decide +kernel
theorem d_Wr_writeLength_62 : decode prog_11_method_7_code 62 = .ok (.if_icmp .ge 22, 3) := by decide +kernel
theorem d_Wr_writeLength_65 : decode prog_11_method_7_code 65 = .ok (.aload_n 0, 1) := by decide +kernel
theorem d_Wr_writeLength_66 : decode prog_11_method_7_code 66 = .ok (.getfield 12, 3) := by decide +kernel
theorem d_Wr_writeLength_69 : decode prog_11_method_7_code 69 = .ok (.iload_n 1, 1) := by decide +kernel
theorem d_Wr_writeLength_70 : decode prog_11_method_7_code 70 = .ok (.bipush 10, 2) := by decide +kernel
theorem d_Wr_writeLength_72 : decode prog_11_method_7_code 72 = .ok (.iadd, 1) := by decide +kernel
theorem d_Wr_writeLength_73 : decode prog_11_method_7_code 73 = .ok (.iconst 3, 1) := by decide +kernel
theorem d_Wr_writeLength_74 : decode prog_11_method_7_code 74 = .ok (.iload_n 2, 1) := by decide +kernel
theorem d_Wr_writeLength_75 : decode prog_11_method_7_code 75 = .ok (.bipush 8, 2) := by decide +kernel
theorem d_Wr_writeLength_77 : decode prog_11_method_7_code 77 = .ok (.isub, 1) := by decide +kernel
theorem d_Wr_writeLength_78 : decode prog_11_method_7_code 78 = .ok (.invokevirtual 85, 3) := by decide +kernel
theorem d_Wr_writeLength_81 : decode prog_11_method_7_code 81 = .ok (.goto 20, 3) := by decide +kernel
theorem d_Wr_writeLength_84 : decode prog_11_method_7_code 84 = .ok (.aload_n 0, 1) := by decide +kernel
theorem d_Wr_writeLength_85 : decode prog_11_method_7_code 85 = .ok (.getfield 12, 3) := by decide +kernel
theorem d_Wr_writeLength_88 : decode prog_11_method_7_code 88 = .ok (.iload_n 1, 1) := by decide +kernel
theorem d_Wr_writeLength_89 : decode prog_11_method_7_code 89 = .ok (.bipush 18, 2) := by decide +kernel
theorem d_Wr_writeLength_91 : decode prog_11_method_7_code 91 = .ok (.iadd, 1) := by decide +kernel
theorem d_Wr_writeLength_92 : decode prog_11_method_7_code 92 = .ok (.bipush 7, 2) := by decide +kernel
theorem d_Wr_writeLength_94 : decode prog_11_method_7_code 94 = .ok (.iload_n 2, 1) := by decide +kernel
theorem d_Wr_writeLength_95 : decode prog_11_method_7_code 95 = .ok (.bipush 16, 2) := by decide +kernel
theorem d_Wr_writeLength_97 : decode prog_11_method_7_code 97 = .ok (.isub, 1) := by decide +kernel
theorem d_Wr_writeLength_98 : decode prog_11_method_7_code 98 = .ok (.invokevirtual 85, 3) := by decide +kernel
theorem d_Wr_writeLength_101 : decode prog_11_method_7_code 101 = .ok (.return_, 1) := by decide +kernel
theorem d_Wr_bitsBelowHighest_0 : decode prog_11_method_8_code 0 = .ok (.iconst 0, 1) := by decide +kernel
theorem d_Wr_bitsBelowHighest_1 : decode prog_11_method_8_code 1 = .ok (.istore_n 1, 1) := by decide +kernel
theorem d_Wr_bitsBelowHighest_2 : decode prog_11_method_8_code 2 = .ok (.iconst 1, 1) := by decide +kernel
theorem d_Wr_bitsBelowHighest_3 : decode prog_11_method_8_code 3 = .ok (.istore_n 2, 1) := by decide +kernel
theorem d_Wr_bitsBelowHighest_4 : decode prog_11_method_8_code 4 = .ok (.iload_n 2, 1) := by decide +kernel
theorem d_Wr_bitsBelowHighest_5 : decode prog_11_method_8_code 5 = .ok (.bipush 8, 2) := by decide +kernel
theorem d_Wr_bitsBelowHighest_7 : decode prog_11_method_8_code 7 = .ok (.if_icmp .ge 17, 3) := by decide +kernel
theorem d_Wr_bitsBelowHighest_10 : decode prog_11_method_8_code 10 = .ok (.iload_n 0, 1) := by decide +kernel
theorem d_Wr_bitsBelowHighest_11 : decode prog_11_method_8_code 11 = .ok (.iload_n 2, 1) := by decide +kernel
theorem d_Wr_bitsBelowHighest_12 : decode prog_11_method_8_code 12 = .ok (.ishr, 1) := by decide +kernel
theorem d_Wr_bitsBelowHighest_13 : decode prog_11_method_8_code 13 = .ok (.ifCond .le 5, 3) := by decide +kernel
theorem d_Wr_bitsBelowHighest_16 : decode prog_11_method_8_code 16 = .ok (.iload_n 2, 1) := by decide +kernel
theorem d_Wr_bitsBelowHighest_17 : decode prog_11_method_8_code 17 = .ok (.istore_n 1, 1) := by decide +kernel
theorem d_Wr_bitsBelowHighest_18 : decode prog_11_method_8_code 18 = .ok (.iinc 2 1, 3) := by decide +kernel
theorem d_Wr_bitsBelowHighest_21 : decode prog_11_method_8_code 21 = .ok (.goto (-17), 3) := by decide +kernel
theorem d_Wr_bitsBelowHighest_24 : decode prog_11_method_8_code 24 = .ok (.iload_n 1, 1) := by decide +kernel
theorem d_Wr_bitsBelowHighest_25 : decode prog_11_method_8_code 25 = .ok (.ireturn, 1) := by decide +kernel
theorem d_La_cell_0 : decode method_2_code 0 = .ok (.iload_n 1, 1) := by decide +kernel
theorem d_La_cell_1 : decode method_2_code 1 = .ok (.aload_n 0, 1) := by decide +kernel
theorem d_La_cell_2 : decode method_2_code 2 = .ok (.arraylength, 1) := by decide +kernel
theorem d_La_cell_3 : decode method_2_code 3 = .ok (.if_icmp .ge 9, 3) := by decide +kernel
theorem d_La_cell_6 : decode method_2_code 6 = .ok (.aload_n 0, 1) := by decide +kernel
theorem d_La_cell_7 : decode method_2_code 7 = .ok (.iload_n 1, 1) := by decide +kernel
theorem d_La_cell_8 : decode method_2_code 8 = .ok (.iaload, 1) := by decide +kernel
theorem d_La_cell_9 : decode method_2_code 9 = .ok (.goto 4, 3) := by decide +kernel
theorem d_La_cell_12 : decode method_2_code 12 = .ok (.iconst 0, 1) := by decide +kernel
theorem d_La_cell_13 : decode method_2_code 13 = .ok (.ireturn, 1) := by decide +kernel
theorem d_La_pack_0 : decode method_3_code 0 = .ok (.aload_n 1, 1) := by decide +kernel
theorem d_La_pack_1 : decode method_3_code 1 = .ok (.iconst 0, 1) := by decide +kernel
theorem d_La_pack_2 : decode method_3_code 2 = .ok (.aload_n 0, 1) := by decide +kernel
theorem d_La_pack_3 : decode method_3_code 3 = .ok (.invokevirtual 7, 3) := by decide +kernel
theorem d_La_pack_6 : decode method_3_code 6 = .ok (.i2l, 1) := by decide +kernel
theorem d_La_pack_7 : decode method_3_code 7 = .ok (.lastore, 1) := by decide +kernel
theorem d_La_pack_8 : decode method_3_code 8 = .ok (.goto 6, 3) := by decide +kernel
theorem d_La_pack_11 : decode method_3_code 11 = .ok (.astore_n 2, 1) := by decide +kernel
theorem d_La_pack_12 : decode method_3_code 12 = .ok (.iconst 1, 1) := by decide +kernel
theorem d_La_pack_13 : decode method_3_code 13 = .ok (.ireturn, 1) := by decide +kernel
theorem d_La_pack_14 : decode method_3_code 14 = .ok (.iconst 0, 1) := by decide +kernel
theorem d_La_pack_15 : decode method_3_code 15 = .ok (.ireturn, 1) := by decide +kernel
theorem d_La_put_0 : decode method_4_code 0 = .ok (.aload_n 3, 1) := by decide +kernel
theorem d_La_put_1 : decode method_4_code 1 = .ok (.iconst 0, 1) := by decide +kernel
theorem d_La_put_2 : decode method_4_code 2 = .ok (.aload_n 0, 1) := by decide +kernel
theorem d_La_put_3 : decode method_4_code 3 = .ok (.iload_n 1, 1) := by decide +kernel
theorem d_La_put_4 : decode method_4_code 4 = .ok (.iload_n 2, 1) := by decide +kernel
theorem d_La_put_5 : decode method_4_code 5 = .ok (.invokevirtual 15, 3) := by decide +kernel
theorem d_La_put_8 : decode method_4_code 8 = .ok (.i2l, 1) := by decide +kernel
theorem d_La_put_9 : decode method_4_code 9 = .ok (.lastore, 1) := by decide +kernel
theorem d_La_put_10 : decode method_4_code 10 = .ok (.goto 11, 3) := by decide +kernel
theorem d_La_put_13 : decode method_4_code 13 = .ok (.astore 4, 2) := by decide +kernel
theorem d_La_put_15 : decode method_4_code 15 = .ok (.iconst 1, 1) := by decide +kernel
theorem d_La_put_16 : decode method_4_code 16 = .ok (.ireturn, 1) := by decide +kernel
theorem d_La_put_17 : decode method_4_code 17 = .ok (.astore 4, 2) := by decide +kernel
theorem d_La_put_19 : decode method_4_code 19 = .ok (.iconst 2, 1) := by decide +kernel
theorem d_La_put_20 : decode method_4_code 20 = .ok (.ireturn, 1) := by decide +kernel
theorem d_La_put_21 : decode method_4_code 21 = .ok (.iconst 0, 1) := by decide +kernel
theorem d_La_put_22 : decode method_4_code 22 = .ok (.ireturn, 1) := by decide +kernel
theorem d_La_cut_0 : decode method_5_code 0 = .ok (.aload_n 2, 1) := by decide +kernel
theorem d_La_cut_1 : decode method_5_code 1 = .ok (.iconst 0, 1) := by decide +kernel
theorem d_La_cut_2 : decode method_5_code 2 = .ok (.aload_n 0, 1) := by decide +kernel
theorem d_La_cut_3 : decode method_5_code 3 = .ok (.iload_n 1, 1) := by decide +kernel
theorem d_La_cut_4 : decode method_5_code 4 = .ok (.invokevirtual 23, 3) := by decide +kernel
theorem d_La_cut_7 : decode method_5_code 7 = .ok (.i2l, 1) := by decide +kernel
theorem d_La_cut_8 : decode method_5_code 8 = .ok (.lastore, 1) := by decide +kernel
theorem d_La_cut_9 : decode method_5_code 9 = .ok (.goto 6, 3) := by decide +kernel
theorem d_La_cut_12 : decode method_5_code 12 = .ok (.astore_n 3, 1) := by decide +kernel
theorem d_La_cut_13 : decode method_5_code 13 = .ok (.iconst 1, 1) := by decide +kernel
theorem d_La_cut_14 : decode method_5_code 14 = .ok (.ireturn, 1) := by decide +kernel
theorem d_La_cut_15 : decode method_5_code 15 = .ok (.iconst 0, 1) := by decide +kernel
theorem d_La_cut_16 : decode method_5_code 16 = .ok (.ireturn, 1) := by decide +kernel
theorem d_La_unpack_0 : decode method_6_code 0 = .ok (.aload_n 1, 1) := by decide +kernel
theorem d_La_unpack_1 : decode method_6_code 1 = .ok (.iconst 0, 1) := by decide +kernel
theorem d_La_unpack_2 : decode method_6_code 2 = .ok (.aload_n 0, 1) := by decide +kernel
theorem d_La_unpack_3 : decode method_6_code 3 = .ok (.invokevirtual 27, 3) := by decide +kernel
theorem d_La_unpack_6 : decode method_6_code 6 = .ok (.i2l, 1) := by decide +kernel
theorem d_La_unpack_7 : decode method_6_code 7 = .ok (.lastore, 1) := by decide +kernel
theorem d_La_unpack_8 : decode method_6_code 8 = .ok (.goto 15, 3) := by decide +kernel
theorem d_La_unpack_11 : decode method_6_code 11 = .ok (.astore_n 2, 1) := by decide +kernel
theorem d_La_unpack_12 : decode method_6_code 12 = .ok (.iconst 1, 1) := by decide +kernel
theorem d_La_unpack_13 : decode method_6_code 13 = .ok (.ireturn, 1) := by decide +kernel
theorem d_La_unpack_14 : decode method_6_code 14 = .ok (.astore_n 2, 1) := by decide +kernel
theorem d_La_unpack_15 : decode method_6_code 15 = .ok (.iconst 2, 1) := by decide +kernel
theorem d_La_unpack_16 : decode method_6_code 16 = .ok (.ireturn, 1) := by decide +kernel
theorem d_La_unpack_17 : decode method_6_code 17 = .ok (.astore_n 2, 1) := by decide +kernel
theorem d_La_unpack_18 : decode method_6_code 18 = .ok (.iconst 3, 1) := by decide +kernel
theorem d_La_unpack_19 : decode method_6_code 19 = .ok (.ireturn, 1) := by decide +kernel
theorem d_La_unpack_20 : decode method_6_code 20 = .ok (.astore_n 2, 1) := by decide +kernel
theorem d_La_unpack_21 : decode method_6_code 21 = .ok (.iconst 4, 1) := by decide +kernel
theorem d_La_unpack_22 : decode method_6_code 22 = .ok (.ireturn, 1) := by decide +kernel
theorem d_La_unpack_23 : decode method_6_code 23 = .ok (.iconst 0, 1) := by decide +kernel
theorem d_La_unpack_24 : decode method_6_code 24 = .ok (.ireturn, 1) := by decide +kernel
theorem d_Ar_fill_0 : decode prog_23_method_103_code 0 = .ok (.iconst 0, 1) := by decide +kernel
theorem d_Ar_fill_1 : decode prog_23_method_103_code 1 = .ok (.istore_n 2, 1) := by decide +kernel
theorem d_Ar_fill_2 : decode prog_23_method_103_code 2 = .ok (.aload_n 0, 1) := by decide +kernel
theorem d_Ar_fill_3 : decode prog_23_method_103_code 3 = .ok (.arraylength, 1) := by decide +kernel
theorem d_Ar_fill_4 : decode prog_23_method_103_code 4 = .ok (.istore_n 3, 1) := by decide +kernel
theorem d_Ar_fill_5 : decode prog_23_method_103_code 5 = .ok (.iload_n 2, 1) := by decide +kernel
theorem d_Ar_fill_6 : decode prog_23_method_103_code 6 = .ok (.iload_n 3, 1) := by decide +kernel
theorem d_Ar_fill_7 : decode prog_23_method_103_code 7 = .ok (.if_icmp .ge 13, 3) := by decide +kernel
theorem d_Ar_fill_10 : decode prog_23_method_103_code 10 = .ok (.aload_n 0, 1) := by decide +kernel
theorem d_Ar_fill_11 : decode prog_23_method_103_code 11 = .ok (.iload_n 2, 1) := by decide +kernel
theorem d_Ar_fill_12 : decode prog_23_method_103_code 12 = .ok (.iload_n 1, 1) := by decide +kernel
theorem d_Ar_fill_13 : decode prog_23_method_103_code 13 = .ok (.iastore, 1) := by decide +kernel
theorem d_Ar_fill_14 : decode prog_23_method_103_code 14 = .ok (.iinc 2 1, 3) := by decide +kernel
theorem d_Ar_fill_17 : decode prog_23_method_103_code 17 = .ok (.goto (-12), 3) := by decide +kernel
theorem d_Ar_fill_20 : decode prog_23_method_103_code 20 = .ok (.return_, 1) := by decide +kernel
theorem d_La_law_0 : decode code 0 = .ok (.new 8, 3) := by decide +kernel
theorem d_La_law_3 : decode code 3 = .ok (.dup, 1) := by decide +kernel
theorem d_La_law_4 : decode code 4 = .ok (.aload_n 0, 1) := by decide +kernel
theorem d_La_law_5 : decode code 5 = .ok (.iconst 0, 1) := by decide +kernel
theorem d_La_law_6 : decode code 6 = .ok (.invokestatic 32, 3) := by decide +kernel
theorem d_La_law_9 : decode code 9 = .ok (.invokespecial 38, 3) := by decide +kernel
theorem d_La_law_12 : decode code 12 = .ok (.astore_n 1, 1) := by decide +kernel
theorem d_La_law_13 : decode code 13 = .ok (.new 41, 3) := by decide +kernel
theorem d_La_law_16 : decode code 16 = .ok (.dup, 1) := by decide +kernel
theorem d_La_law_17 : decode code 17 = .ok (.aload_n 0, 1) := by decide +kernel
theorem d_La_law_18 : decode code 18 = .ok (.iconst 0, 1) := by decide +kernel
theorem d_La_law_19 : decode code 19 = .ok (.invokestatic 32, 3) := by decide +kernel
theorem d_La_law_22 : decode code 22 = .ok (.invokespecial 43, 3) := by decide +kernel
theorem d_La_law_25 : decode code 25 = .ok (.astore_n 2, 1) := by decide +kernel
theorem d_La_law_26 : decode code 26 = .ok (.iconst 1, 1) := by decide +kernel
theorem d_La_law_27 : decode code 27 = .ok (.newarray .long, 2) := by decide +kernel
theorem d_La_law_29 : decode code 29 = .ok (.astore_n 3, 1) := by decide +kernel
theorem d_La_law_30 : decode code 30 = .ok (.iconst 1, 1) := by decide +kernel
theorem d_La_law_31 : decode code 31 = .ok (.istore 4, 2) := by decide +kernel
theorem d_La_law_33 : decode code 33 = .ok (.iload 4, 2) := by decide +kernel
theorem d_La_law_35 : decode code 35 = .ok (.aload_n 0, 1) := by decide +kernel
theorem d_La_law_36 : decode code 36 = .ok (.arraylength, 1) := by decide +kernel
theorem d_La_law_37 : decode code 37 = .ok (.iconst 3, 1) := by decide +kernel
theorem d_La_law_38 : decode code 38 = .ok (.isub, 1) := by decide +kernel
theorem d_La_law_39 : decode code 39 = .ok (.if_icmp .gt 525, 3) := by decide +kernel
theorem d_La_law_42 : decode code 42 = .ok (.aload_n 0, 1) := by decide +kernel
theorem d_La_law_43 : decode code 43 = .ok (.iload 4, 2) := by decide +kernel
theorem d_La_law_45 : decode code 45 = .ok (.iaload, 1) := by decide +kernel
theorem d_La_law_46 : decode code 46 = .ok (.bipush 15, 2) := by decide +kernel
theorem d_La_law_48 : decode code 48 = .ok (.iand, 1) := by decide +kernel
theorem d_La_law_49 : decode code 49 = .ok (.tableswitch 509 0 13 #[71, 96, 109, 153, 166, 203, 240, 253, 278, 303, 371, 427, 471, 484], 71) := by decide +kernel
theorem d_La_law_120 : decode code 120 = .ok (.aload_n 1, 1) := by decide +kernel
theorem d_La_law_121 : decode code 121 = .ok (.aload_n 0, 1) := by decide +kernel
theorem d_La_law_122 : decode code 122 = .ok (.iload 4, 2) := by decide +kernel
theorem d_La_law_124 : decode code 124 = .ok (.iconst 1, 1) := by decide +kernel
theorem d_La_law_125 : decode code 125 = .ok (.iadd, 1) := by decide +kernel
theorem d_La_law_126 : decode code 126 = .ok (.iaload, 1) := by decide +kernel
theorem d_La_law_127 : decode code 127 = .ok (.invokevirtual 44, 3) := by decide +kernel
theorem d_La_law_130 : decode code 130 = .ok (.aload_n 2, 1) := by decide +kernel
theorem d_La_law_131 : decode code 131 = .ok (.aload_n 0, 1) := by decide +kernel
theorem d_La_law_132 : decode code 132 = .ok (.iload 4, 2) := by decide +kernel
theorem d_La_law_134 : decode code 134 = .ok (.iconst 1, 1) := by decide +kernel
theorem d_La_law_135 : decode code 135 = .ok (.iadd, 1) := by decide +kernel
theorem d_La_law_136 : decode code 136 = .ok (.iaload, 1) := by decide +kernel
theorem d_La_law_137 : decode code 137 = .ok (.invokevirtual 48, 3) := by decide +kernel
theorem d_La_law_140 : decode code 140 = .ok (.if_icmp .eq 418, 3) := by decide +kernel
theorem d_La_law_143 : decode code 143 = .ok (.iconst 0, 1) := by decide +kernel
theorem d_La_law_144 : decode code 144 = .ok (.ireturn, 1) := by decide +kernel
theorem d_La_law_145 : decode code 145 = .ok (.aload_n 1, 1) := by decide +kernel
theorem d_La_law_146 : decode code 146 = .ok (.invokevirtual 49, 3) := by decide +kernel
theorem d_La_law_149 : decode code 149 = .ok (.aload_n 2, 1) := by decide +kernel
theorem d_La_law_150 : decode code 150 = .ok (.invokevirtual 52, 3) := by decide +kernel
theorem d_La_law_153 : decode code 153 = .ok (.if_icmp .eq 405, 3) := by decide +kernel
theorem d_La_law_156 : decode code 156 = .ok (.iconst 0, 1) := by decide +kernel
theorem d_La_law_157 : decode code 157 = .ok (.ireturn, 1) := by decide +kernel
theorem d_La_law_158 : decode code 158 = .ok (.aload_n 1, 1) := by decide +kernel
theorem d_La_law_159 : decode code 159 = .ok (.aload_n 3, 1) := by decide +kernel
theorem d_La_law_160 : decode code 160 = .ok (.invokestatic 53, 3) := by decide +kernel
theorem d_La_law_163 : decode code 163 = .ok (.istore 5, 2) := by decide +kernel
theorem d_La_law_165 : decode code 165 = .ok (.aload_n 2, 1) := by decide +kernel
theorem d_La_law_166 : decode code 166 = .ok (.invokevirtual 56, 3) := by decide +kernel
theorem d_La_law_169 : decode code 169 = .ok (.istore 6, 2) := by decide +kernel
theorem d_La_law_171 : decode code 171 = .ok (.aload_n 2, 1) := by decide +kernel
theorem d_La_law_172 : decode code 172 = .ok (.invokevirtual 57, 3) := by decide +kernel
theorem d_La_law_175 : decode code 175 = .ok (.iload 5, 2) := by decide +kernel
theorem d_La_law_177 : decode code 177 = .ok (.if_icmp .eq 5, 3) := by decide +kernel
theorem d_La_law_180 : decode code 180 = .ok (.iconst 0, 1) := by decide +kernel
theorem d_La_law_181 : decode code 181 = .ok (.ireturn, 1) := by decide +kernel
theorem d_La_law_182 : decode code 182 = .ok (.iload 5, 2) := by decide +kernel
theorem d_La_law_184 : decode code 184 = .ok (.ifCond .ne 15, 3) := by decide +kernel
theorem d_La_law_187 : decode code 187 = .ok (.aload_n 3, 1) := by decide +kernel
theorem d_La_law_188 : decode code 188 = .ok (.iconst 0, 1) := by decide +kernel
theorem d_La_law_189 : decode code 189 = .ok (.laload, 1) := by decide +kernel
theorem d_La_law_190 : decode code 190 = .ok (.iload 6, 2) := by decide +kernel
theorem d_La_law_192 : decode code 192 = .ok (.i2l, 1) := by decide +kernel
theorem d_La_law_193 : decode code 193 = .ok (.lcmp, 1) := by decide +kernel
theorem d_La_law_194 : decode code 194 = .ok (.ifCond .eq 5, 3) := by decide +kernel
theorem d_La_law_197 : decode code 197 = .ok (.iconst 0, 1) := by decide +kernel
theorem d_La_law_198 : decode code 198 = .ok (.ireturn, 1) := by decide +kernel
theorem d_La_law_199 : decode code 199 = .ok (.goto 359, 3) := by decide +kernel
theorem d_La_law_202 : decode code 202 = .ok (.aload_n 1, 1) := by decide +kernel
theorem d_La_law_203 : decode code 203 = .ok (.invokevirtual 60, 3) := by decide +kernel
theorem d_La_law_206 : decode code 206 = .ok (.aload_n 2, 1) := by decide +kernel
theorem d_La_law_207 : decode code 207 = .ok (.invokevirtual 63, 3) := by decide +kernel
theorem d_La_law_210 : decode code 210 = .ok (.if_icmp .eq 348, 3) := by decide +kernel
theorem d_La_law_213 : decode code 213 = .ok (.iconst 0, 1) := by decide +kernel
theorem d_La_law_214 : decode code 214 = .ok (.ireturn, 1) := by decide +kernel
theorem d_La_law_215 : decode code 215 = .ok (.aload_n 1, 1) := by decide +kernel
theorem d_La_law_216 : decode code 216 = .ok (.aload_n 0, 1) := by decide +kernel
theorem d_La_law_217 : decode code 217 = .ok (.iload 4, 2) := by decide +kernel
theorem d_La_law_219 : decode code 219 = .ok (.iconst 1, 1) := by decide +kernel
theorem d_La_law_220 : decode code 220 = .ok (.iadd, 1) := by decide +kernel
theorem d_La_law_221 : decode code 221 = .ok (.iaload, 1) := by decide +kernel
theorem d_La_law_222 : decode code 222 = .ok (.aload_n 0, 1) := by decide +kernel
theorem d_La_law_223 : decode code 223 = .ok (.iload 4, 2) := by decide +kernel
theorem d_La_law_225 : decode code 225 = .ok (.iconst 2, 1) := by decide +kernel
theorem d_La_law_226 : decode code 226 = .ok (.iadd, 1) := by decide +kernel
theorem d_La_law_227 : decode code 227 = .ok (.iaload, 1) := by decide +kernel
theorem d_La_law_228 : decode code 228 = .ok (.invokevirtual 64, 3) := by decide +kernel
theorem d_La_law_231 : decode code 231 = .ok (.aload_n 2, 1) := by decide +kernel
theorem d_La_law_232 : decode code 232 = .ok (.aload_n 0, 1) := by decide +kernel
theorem d_La_law_233 : decode code 233 = .ok (.iload 4, 2) := by decide +kernel
theorem d_La_law_235 : decode code 235 = .ok (.iconst 1, 1) := by decide +kernel
theorem d_La_law_236 : decode code 236 = .ok (.iadd, 1) := by decide +kernel
theorem d_La_law_237 : decode code 237 = .ok (.iaload, 1) := by decide +kernel
theorem d_La_law_238 : decode code 238 = .ok (.aload_n 0, 1) := by decide +kernel
theorem d_La_law_239 : decode code 239 = .ok (.iload 4, 2) := by decide +kernel
theorem d_La_law_241 : decode code 241 = .ok (.iconst 2, 1) := by decide +kernel
theorem d_La_law_242 : decode code 242 = .ok (.iadd, 1) := by decide +kernel
theorem d_La_law_243 : decode code 243 = .ok (.iaload, 1) := by decide +kernel
theorem d_La_law_244 : decode code 244 = .ok (.invokevirtual 67, 3) := by decide +kernel
theorem d_La_law_247 : decode code 247 = .ok (.if_icmp .eq 311, 3) := by decide +kernel
theorem d_La_law_250 : decode code 250 = .ok (.iconst 0, 1) := by decide +kernel
theorem d_La_law_251 : decode code 251 = .ok (.ireturn, 1) := by decide +kernel
theorem d_La_law_252 : decode code 252 = .ok (.aload_n 1, 1) := by decide +kernel
theorem d_La_law_253 : decode code 253 = .ok (.aload_n 0, 1) := by decide +kernel
theorem d_La_law_254 : decode code 254 = .ok (.iload 4, 2) := by decide +kernel
theorem d_La_law_256 : decode code 256 = .ok (.iconst 1, 1) := by decide +kernel
theorem d_La_law_257 : decode code 257 = .ok (.iadd, 1) := by decide +kernel
theorem d_La_law_258 : decode code 258 = .ok (.iaload, 1) := by decide +kernel
theorem d_La_law_259 : decode code 259 = .ok (.aload_n 0, 1) := by decide +kernel
theorem d_La_law_260 : decode code 260 = .ok (.iload 4, 2) := by decide +kernel
theorem d_La_law_262 : decode code 262 = .ok (.iconst 2, 1) := by decide +kernel
theorem d_La_law_263 : decode code 263 = .ok (.iadd, 1) := by decide +kernel
theorem d_La_law_264 : decode code 264 = .ok (.iaload, 1) := by decide +kernel
theorem d_La_law_265 : decode code 265 = .ok (.invokevirtual 68, 3) := by decide +kernel
theorem d_La_law_268 : decode code 268 = .ok (.aload_n 2, 1) := by decide +kernel
theorem d_La_law_269 : decode code 269 = .ok (.aload_n 0, 1) := by decide +kernel
theorem d_La_law_270 : decode code 270 = .ok (.iload 4, 2) := by decide +kernel
theorem d_La_law_272 : decode code 272 = .ok (.iconst 1, 1) := by decide +kernel
theorem d_La_law_273 : decode code 273 = .ok (.iadd, 1) := by decide +kernel
theorem d_La_law_274 : decode code 274 = .ok (.iaload, 1) := by decide +kernel
theorem d_La_law_275 : decode code 275 = .ok (.aload_n 0, 1) := by decide +kernel
theorem d_La_law_276 : decode code 276 = .ok (.iload 4, 2) := by decide +kernel
theorem d_La_law_278 : decode code 278 = .ok (.iconst 2, 1) := by decide +kernel
theorem d_La_law_279 : decode code 279 = .ok (.iadd, 1) := by decide +kernel
theorem d_La_law_280 : decode code 280 = .ok (.iaload, 1) := by decide +kernel
theorem d_La_law_281 : decode code 281 = .ok (.invokevirtual 71, 3) := by decide +kernel
theorem d_La_law_284 : decode code 284 = .ok (.if_icmp .eq 274, 3) := by decide +kernel
theorem d_La_law_287 : decode code 287 = .ok (.iconst 0, 1) := by decide +kernel
theorem d_La_law_288 : decode code 288 = .ok (.ireturn, 1) := by decide +kernel
theorem d_La_law_289 : decode code 289 = .ok (.aload_n 1, 1) := by decide +kernel
theorem d_La_law_290 : decode code 290 = .ok (.invokevirtual 72, 3) := by decide +kernel
theorem d_La_law_293 : decode code 293 = .ok (.aload_n 2, 1) := by decide +kernel
theorem d_La_law_294 : decode code 294 = .ok (.invokevirtual 75, 3) := by decide +kernel
theorem d_La_law_297 : decode code 297 = .ok (.if_icmp .eq 261, 3) := by decide +kernel
theorem d_La_law_300 : decode code 300 = .ok (.iconst 0, 1) := by decide +kernel
theorem d_La_law_301 : decode code 301 = .ok (.ireturn, 1) := by decide +kernel
theorem d_La_law_302 : decode code 302 = .ok (.aload_n 1, 1) := by decide +kernel
theorem d_La_law_303 : decode code 303 = .ok (.aload_n 0, 1) := by decide +kernel
theorem d_La_law_304 : decode code 304 = .ok (.iload 4, 2) := by decide +kernel
theorem d_La_law_306 : decode code 306 = .ok (.iconst 1, 1) := by decide +kernel
theorem d_La_law_307 : decode code 307 = .ok (.iadd, 1) := by decide +kernel
theorem d_La_law_308 : decode code 308 = .ok (.iaload, 1) := by decide +kernel
theorem d_La_law_309 : decode code 309 = .ok (.invokevirtual 76, 3) := by decide +kernel
theorem d_La_law_312 : decode code 312 = .ok (.aload_n 2, 1) := by decide +kernel
theorem d_La_law_313 : decode code 313 = .ok (.aload_n 0, 1) := by decide +kernel
theorem d_La_law_314 : decode code 314 = .ok (.iload 4, 2) := by decide +kernel
theorem d_La_law_316 : decode code 316 = .ok (.iconst 1, 1) := by decide +kernel
theorem d_La_law_317 : decode code 317 = .ok (.iadd, 1) := by decide +kernel
theorem d_La_law_318 : decode code 318 = .ok (.iaload, 1) := by decide +kernel
theorem d_La_law_319 : decode code 319 = .ok (.invokevirtual 79, 3) := by decide +kernel
theorem d_La_law_322 : decode code 322 = .ok (.if_icmp .eq 236, 3) := by decide +kernel
theorem d_La_law_325 : decode code 325 = .ok (.iconst 0, 1) := by decide +kernel
theorem d_La_law_326 : decode code 326 = .ok (.ireturn, 1) := by decide +kernel
theorem d_La_law_327 : decode code 327 = .ok (.aload_n 1, 1) := by decide +kernel
theorem d_La_law_328 : decode code 328 = .ok (.aload_n 0, 1) := by decide +kernel
theorem d_La_law_329 : decode code 329 = .ok (.iload 4, 2) := by decide +kernel
theorem d_La_law_331 : decode code 331 = .ok (.iconst 1, 1) := by decide +kernel
theorem d_La_law_332 : decode code 332 = .ok (.iadd, 1) := by decide +kernel
theorem d_La_law_333 : decode code 333 = .ok (.iaload, 1) := by decide +kernel
theorem d_La_law_334 : decode code 334 = .ok (.invokevirtual 80, 3) := by decide +kernel
theorem d_La_law_337 : decode code 337 = .ok (.aload_n 2, 1) := by decide +kernel
theorem d_La_law_338 : decode code 338 = .ok (.aload_n 0, 1) := by decide +kernel
theorem d_La_law_339 : decode code 339 = .ok (.iload 4, 2) := by decide +kernel
theorem d_La_law_341 : decode code 341 = .ok (.iconst 1, 1) := by decide +kernel
theorem d_La_law_342 : decode code 342 = .ok (.iadd, 1) := by decide +kernel
theorem d_La_law_343 : decode code 343 = .ok (.iaload, 1) := by decide +kernel
theorem d_La_law_344 : decode code 344 = .ok (.invokevirtual 83, 3) := by decide +kernel
theorem d_La_law_347 : decode code 347 = .ok (.if_icmp .eq 211, 3) := by decide +kernel
theorem d_La_law_350 : decode code 350 = .ok (.iconst 0, 1) := by decide +kernel
theorem d_La_law_351 : decode code 351 = .ok (.ireturn, 1) := by decide +kernel
theorem d_La_law_352 : decode code 352 = .ok (.aload_n 1, 1) := by decide +kernel
theorem d_La_law_353 : decode code 353 = .ok (.aload_n 0, 1) := by decide +kernel
theorem d_La_law_354 : decode code 354 = .ok (.iload 4, 2) := by decide +kernel
theorem d_La_law_356 : decode code 356 = .ok (.iconst 1, 1) := by decide +kernel
theorem d_La_law_357 : decode code 357 = .ok (.iadd, 1) := by decide +kernel
theorem d_La_law_358 : decode code 358 = .ok (.iaload, 1) := by decide +kernel
theorem d_La_law_359 : decode code 359 = .ok (.aload_n 0, 1) := by decide +kernel
theorem d_La_law_360 : decode code 360 = .ok (.iload 4, 2) := by decide +kernel
theorem d_La_law_362 : decode code 362 = .ok (.iconst 2, 1) := by decide +kernel
theorem d_La_law_363 : decode code 363 = .ok (.iadd, 1) := by decide +kernel
theorem d_La_law_364 : decode code 364 = .ok (.iaload, 1) := by decide +kernel
theorem d_La_law_365 : decode code 365 = .ok (.aload_n 3, 1) := by decide +kernel
theorem d_La_law_366 : decode code 366 = .ok (.invokestatic 84, 3) := by decide +kernel
theorem d_La_law_369 : decode code 369 = .ok (.istore 5, 2) := by decide +kernel
theorem d_La_law_371 : decode code 371 = .ok (.aload_n 2, 1) := by decide +kernel
theorem d_La_law_372 : decode code 372 = .ok (.aload_n 0, 1) := by decide +kernel
theorem d_La_law_373 : decode code 373 = .ok (.iload 4, 2) := by decide +kernel
theorem d_La_law_375 : decode code 375 = .ok (.iconst 1, 1) := by decide +kernel
theorem d_La_law_376 : decode code 376 = .ok (.iadd, 1) := by decide +kernel
theorem d_La_law_377 : decode code 377 = .ok (.iaload, 1) := by decide +kernel
theorem d_La_law_378 : decode code 378 = .ok (.aload_n 0, 1) := by decide +kernel
theorem d_La_law_379 : decode code 379 = .ok (.iload 4, 2) := by decide +kernel
theorem d_La_law_381 : decode code 381 = .ok (.iconst 2, 1) := by decide +kernel
theorem d_La_law_382 : decode code 382 = .ok (.iadd, 1) := by decide +kernel
theorem d_La_law_383 : decode code 383 = .ok (.iaload, 1) := by decide +kernel
theorem d_La_law_384 : decode code 384 = .ok (.invokevirtual 87, 3) := by decide +kernel
theorem d_La_law_387 : decode code 387 = .ok (.istore 6, 2) := by decide +kernel
theorem d_La_law_389 : decode code 389 = .ok (.aload_n 2, 1) := by decide +kernel
theorem d_La_law_390 : decode code 390 = .ok (.invokevirtual 57, 3) := by decide +kernel
theorem d_La_law_393 : decode code 393 = .ok (.iload 5, 2) := by decide +kernel
theorem d_La_law_395 : decode code 395 = .ok (.if_icmp .eq 5, 3) := by decide +kernel
theorem d_La_law_398 : decode code 398 = .ok (.iconst 0, 1) := by decide +kernel
theorem d_La_law_399 : decode code 399 = .ok (.ireturn, 1) := by decide +kernel
theorem d_La_law_400 : decode code 400 = .ok (.iload 5, 2) := by decide +kernel
theorem d_La_law_402 : decode code 402 = .ok (.ifCond .ne 15, 3) := by decide +kernel
theorem d_La_law_405 : decode code 405 = .ok (.aload_n 3, 1) := by decide +kernel
theorem d_La_law_406 : decode code 406 = .ok (.iconst 0, 1) := by decide +kernel
theorem d_La_law_407 : decode code 407 = .ok (.laload, 1) := by decide +kernel
theorem d_La_law_408 : decode code 408 = .ok (.iload 6, 2) := by decide +kernel
theorem d_La_law_410 : decode code 410 = .ok (.i2l, 1) := by decide +kernel
theorem d_La_law_411 : decode code 411 = .ok (.lcmp, 1) := by decide +kernel
theorem d_La_law_412 : decode code 412 = .ok (.ifCond .eq 5, 3) := by decide +kernel
theorem d_La_law_415 : decode code 415 = .ok (.iconst 0, 1) := by decide +kernel
theorem d_La_law_416 : decode code 416 = .ok (.ireturn, 1) := by decide +kernel
theorem d_La_law_417 : decode code 417 = .ok (.goto 141, 3) := by decide +kernel
theorem d_La_law_420 : decode code 420 = .ok (.aload_n 1, 1) := by decide +kernel
theorem d_La_law_421 : decode code 421 = .ok (.aload_n 0, 1) := by decide +kernel
theorem d_La_law_422 : decode code 422 = .ok (.iload 4, 2) := by decide +kernel
theorem d_La_law_424 : decode code 424 = .ok (.iconst 1, 1) := by decide +kernel
theorem d_La_law_425 : decode code 425 = .ok (.iadd, 1) := by decide +kernel
theorem d_La_law_426 : decode code 426 = .ok (.iaload, 1) := by decide +kernel
theorem d_La_law_427 : decode code 427 = .ok (.aload_n 3, 1) := by decide +kernel
theorem d_La_law_428 : decode code 428 = .ok (.invokestatic 88, 3) := by decide +kernel
theorem d_La_law_431 : decode code 431 = .ok (.istore 5, 2) := by decide +kernel
theorem d_La_law_433 : decode code 433 = .ok (.aload_n 2, 1) := by decide +kernel
theorem d_La_law_434 : decode code 434 = .ok (.aload_n 0, 1) := by decide +kernel
theorem d_La_law_435 : decode code 435 = .ok (.iload 4, 2) := by decide +kernel
theorem d_La_law_437 : decode code 437 = .ok (.iconst 1, 1) := by decide +kernel
theorem d_La_law_438 : decode code 438 = .ok (.iadd, 1) := by decide +kernel
theorem d_La_law_439 : decode code 439 = .ok (.iaload, 1) := by decide +kernel
theorem d_La_law_440 : decode code 440 = .ok (.invokevirtual 91, 3) := by decide +kernel
theorem d_La_law_443 : decode code 443 = .ok (.istore 6, 2) := by decide +kernel
theorem d_La_law_445 : decode code 445 = .ok (.aload_n 2, 1) := by decide +kernel
theorem d_La_law_446 : decode code 446 = .ok (.invokevirtual 57, 3) := by decide +kernel
theorem d_La_law_449 : decode code 449 = .ok (.iload 5, 2) := by decide +kernel
theorem d_La_law_451 : decode code 451 = .ok (.if_icmp .eq 5, 3) := by decide +kernel
theorem d_La_law_454 : decode code 454 = .ok (.iconst 0, 1) := by decide +kernel
theorem d_La_law_455 : decode code 455 = .ok (.ireturn, 1) := by decide +kernel
theorem d_La_law_456 : decode code 456 = .ok (.iload 5, 2) := by decide +kernel
theorem d_La_law_458 : decode code 458 = .ok (.ifCond .ne 15, 3) := by decide +kernel
theorem d_La_law_461 : decode code 461 = .ok (.aload_n 3, 1) := by decide +kernel
theorem d_La_law_462 : decode code 462 = .ok (.iconst 0, 1) := by decide +kernel
theorem d_La_law_463 : decode code 463 = .ok (.laload, 1) := by decide +kernel
theorem d_La_law_464 : decode code 464 = .ok (.iload 6, 2) := by decide +kernel
theorem d_La_law_466 : decode code 466 = .ok (.i2l, 1) := by decide +kernel
theorem d_La_law_467 : decode code 467 = .ok (.lcmp, 1) := by decide +kernel
theorem d_La_law_468 : decode code 468 = .ok (.ifCond .eq 5, 3) := by decide +kernel
theorem d_La_law_471 : decode code 471 = .ok (.iconst 0, 1) := by decide +kernel
theorem d_La_law_472 : decode code 472 = .ok (.ireturn, 1) := by decide +kernel
theorem d_La_law_473 : decode code 473 = .ok (.goto 85, 3) := by decide +kernel
theorem d_La_law_476 : decode code 476 = .ok (.aload_n 1, 1) := by decide +kernel
theorem d_La_law_477 : decode code 477 = .ok (.aload_n 3, 1) := by decide +kernel
theorem d_La_law_478 : decode code 478 = .ok (.invokestatic 92, 3) := by decide +kernel
theorem d_La_law_481 : decode code 481 = .ok (.istore 5, 2) := by decide +kernel
theorem d_La_law_483 : decode code 483 = .ok (.aload_n 2, 1) := by decide +kernel
theorem d_La_law_484 : decode code 484 = .ok (.invokevirtual 94, 3) := by decide +kernel
theorem d_La_law_487 : decode code 487 = .ok (.istore 6, 2) := by decide +kernel
theorem d_La_law_489 : decode code 489 = .ok (.aload_n 2, 1) := by decide +kernel
theorem d_La_law_490 : decode code 490 = .ok (.invokevirtual 57, 3) := by decide +kernel
theorem d_La_law_493 : decode code 493 = .ok (.iload 5, 2) := by decide +kernel
theorem d_La_law_495 : decode code 495 = .ok (.if_icmp .eq 5, 3) := by decide +kernel
theorem d_La_law_498 : decode code 498 = .ok (.iconst 0, 1) := by decide +kernel
theorem d_La_law_499 : decode code 499 = .ok (.ireturn, 1) := by decide +kernel
theorem d_La_law_500 : decode code 500 = .ok (.iload 5, 2) := by decide +kernel
theorem d_La_law_502 : decode code 502 = .ok (.ifCond .ne 15, 3) := by decide +kernel
theorem d_La_law_505 : decode code 505 = .ok (.aload_n 3, 1) := by decide +kernel
theorem d_La_law_506 : decode code 506 = .ok (.iconst 0, 1) := by decide +kernel
theorem d_La_law_507 : decode code 507 = .ok (.laload, 1) := by decide +kernel
theorem d_La_law_508 : decode code 508 = .ok (.iload 6, 2) := by decide +kernel
theorem d_La_law_510 : decode code 510 = .ok (.i2l, 1) := by decide +kernel
theorem d_La_law_511 : decode code 511 = .ok (.lcmp, 1) := by decide +kernel
theorem d_La_law_512 : decode code 512 = .ok (.ifCond .eq 5, 3) := by decide +kernel
theorem d_La_law_515 : decode code 515 = .ok (.iconst 0, 1) := by decide +kernel
theorem d_La_law_516 : decode code 516 = .ok (.ireturn, 1) := by decide +kernel
theorem d_La_law_517 : decode code 517 = .ok (.goto 41, 3) := by decide +kernel
theorem d_La_law_520 : decode code 520 = .ok (.aload_n 1, 1) := by decide +kernel
theorem d_La_law_521 : decode code 521 = .ok (.invokevirtual 95, 3) := by decide +kernel
theorem d_La_law_524 : decode code 524 = .ok (.aload_n 2, 1) := by decide +kernel
theorem d_La_law_525 : decode code 525 = .ok (.invokevirtual 98, 3) := by decide +kernel
theorem d_La_law_528 : decode code 528 = .ok (.if_icmp .eq 30, 3) := by decide +kernel
theorem d_La_law_531 : decode code 531 = .ok (.iconst 0, 1) := by decide +kernel
theorem d_La_law_532 : decode code 532 = .ok (.ireturn, 1) := by decide +kernel
theorem d_La_law_533 : decode code 533 = .ok (.aload_n 1, 1) := by decide +kernel
theorem d_La_law_534 : decode code 534 = .ok (.aload_n 0, 1) := by decide +kernel
theorem d_La_law_535 : decode code 535 = .ok (.iload 4, 2) := by decide +kernel
theorem d_La_law_537 : decode code 537 = .ok (.iconst 1, 1) := by decide +kernel
theorem d_La_law_538 : decode code 538 = .ok (.iadd, 1) := by decide +kernel
theorem d_La_law_539 : decode code 539 = .ok (.iaload, 1) := by decide +kernel
theorem d_La_law_540 : decode code 540 = .ok (.invokevirtual 99, 3) := by decide +kernel
theorem d_La_law_543 : decode code 543 = .ok (.aload_n 2, 1) := by decide +kernel
theorem d_La_law_544 : decode code 544 = .ok (.aload_n 0, 1) := by decide +kernel
theorem d_La_law_545 : decode code 545 = .ok (.iload 4, 2) := by decide +kernel
theorem d_La_law_547 : decode code 547 = .ok (.iconst 1, 1) := by decide +kernel
theorem d_La_law_548 : decode code 548 = .ok (.iadd, 1) := by decide +kernel
theorem d_La_law_549 : decode code 549 = .ok (.iaload, 1) := by decide +kernel
theorem d_La_law_550 : decode code 550 = .ok (.invokevirtual 102, 3) := by decide +kernel
theorem d_La_law_553 : decode code 553 = .ok (.if_icmp .eq 5, 3) := by decide +kernel
theorem d_La_law_556 : decode code 556 = .ok (.iconst 0, 1) := by decide +kernel
theorem d_La_law_557 : decode code 557 = .ok (.ireturn, 1) := by decide +kernel
theorem d_La_law_558 : decode code 558 = .ok (.iinc 4 3, 3) := by decide +kernel
theorem d_La_law_561 : decode code 561 = .ok (.goto (-528), 3) := by decide +kernel
theorem d_La_law_564 : decode code 564 = .ok (.iconst 1, 1) := by decide +kernel
theorem d_La_law_565 : decode code 565 = .ok (.ireturn, 1) := by decide +kernel
end
section
/-! what packing and unpacking are, in integers -/
/-- the writer of bits: chances, digits, how many digits, range -/
abbrev En : Type := (Int → Int) × (Int → Int) × Int × Int
def raiseZ : Nat → Int → (Int → Int) → (Int → Int)
  | 0, _, g => g
  | i + 1, c, g => if 0 < c then raiseZ i ((c + g i) / 256) (zup g i ((c + g i) % 256)) else g
def learnZ (p bit : Int) : Int := if bit = 0 then p + (2048 - p) / 32 else p - p / 32
def shiftZ (r : Int) : Int := if r < 16777216 then r * 256 else r
def moreZ (r : Int) : Int := if r < 16777216 then 1 else 0
def eBit (e : En) (a bit : Int) : En :=
  (zup e.1 a (learnZ (e.1 a) bit),
   (if bit = 0 then e.2.1 else if 200 < e.2.2.1 then e.2.1 else raiseZ e.2.2.1.toNat (e.2.2.2 / 2048 * e.1 a) e.2.1),
   e.2.2.1 + moreZ (if bit = 0 then e.2.2.2 / 2048 * e.1 a else e.2.2.2 - e.2.2.2 / 2048 * e.1 a),
   shiftZ (if bit = 0 then e.2.2.2 / 2048 * e.1 a else e.2.2.2 - e.2.2.2 / 2048 * e.1 a))
def bitZ (v : Int) (k : Nat) : Int := v / 2 ^ k % 2
def eTree : Nat → Int → Int → Int → En → En
  | 0, _, _, _, e => e
  | k + 1, a, v, m, e => eTree k a v (2 * m + bitZ v k) (eBit e (a + m) (bitZ v k))
def eRow : Nat → Nat → Int → Int → Int → En → En
  | 0, _, _, _, _, e => e
  | r + 1, k, a, v, m, e => eRow r (k + 1) a v (2 * m + bitZ v k) (eBit e (a + m) (bitZ v k))
def treeZ (as lb : Int) : Int := if as = 0 then 0 else 1 + lb
def sameZ (as b lb : Int) : Int := if as = 0 then 0 else if b = lb then 1 else 0
def eLit : Nat → Int → Int → Int → Int → Int → En → En
  | 0, _, _, _, _, _, e => e
  | k + 1, pl, ly, b, m, as, e => eLit k pl ly b (2 * m + bitZ b k) (sameZ as (bitZ b k) (bitZ ly k)) (eBit e (pl + treeZ as (bitZ ly k) * 256 + m) (bitZ b k))
def eLen (pl v : Int) (e : En) : En :=
  if v < 8 then eTree 3 (pl + 2) v 1 (eBit e pl 0)
  else if v < 16 then eTree 3 (pl + 10) (v - 8) 1 (eBit (eBit e pl 1) (pl + 1) 0)
  else eTree 7 (pl + 18) (v - 16) 1 (eBit (eBit e pl 1) (pl + 1) 1)
def hbZ (d : Int) : Nat := if d < 2 then 0 else if d < 4 then 1 else if d < 8 then 2 else if d < 16 then 3 else if d < 32 then 4 else if d < 64 then 5 else if d < 128 then 6 else 7
def slotZ (d : Int) : Int := if d < 4 then d else 2 * (hbZ d : Int) + bitZ d (hbZ d - 1)
def eMatch (ln ds : Int) (e : En) : En :=
  if slotZ (ds - 1) < 4 then eTree 4 (364 + min (ln - 2) 3 * 16) (slotZ (ds - 1)) 1 (eLen 72 (ln - 2) e)
  else eRow (hbZ (ds - 1) - 1) 0 (428 + (slotZ (ds - 1) - 4) * 32) (ds - 1) 1 (eTree 4 (364 + min (ln - 2) 3 * 16) (slotZ (ds - 1)) 1 (eLen 72 (ln - 2) e))
def eEnd (e : En) : En := eTree 4 364 15 1 (eLen 72 0 e)
/-- echo k (a short: k = -1) -/
def eEcho (s k : Int) (e : En) : En :=
  if k = -1 then eBit (eBit e (24 + s) 0) (36 + s) 0
  else if k = 0 then eBit (eBit e (24 + s) 0) (36 + s) 1
  else if k = 1 then eBit (eBit e (24 + s) 1) (48 + s) 0
  else eBit (eBit (eBit e (24 + s) 1) (48 + s) 1) (60 + s) (k - 2)
/-- what has been told: bytes, how many, the last distances, the state -/
abbrev Hs : Type := (Int → Int) × Int × (Int → Int) × Int
def hBefore (t : Hs) (d : Int) : Int := if 1 ≤ d ∧ d ≤ t.2.1 then t.1 (t.2.1 - d) else 0
def hPlace (t : Hs) : Int := 748 + hBefore t 1 / 64 * 768
def hAs (t : Hs) : Int := if t.2.2.2 < 7 then 0 else 1
/-- a packet: kind, length, distance, echo, literal -/
abbrev Pk : Type := Int × Int × Int × Int × Int
def ePkt (t : Hs) (q : Pk) (e : En) : En :=
  if q.1 = 0 then eLit 8 (hPlace t) (hBefore t (t.2.2.1 0)) q.2.2.2.2 1 (hAs t) (eBit e t.2.2.2 0)
  else if q.1 = 1 then eMatch q.2.1 q.2.2.1 (eBit (eBit e t.2.2.2 1) (12 + t.2.2.2) 0)
  else if q.1 = 2 then eLen 218 (q.2.1 - 2) (eEcho t.2.2.2 q.2.2.2.1 (eBit (eBit e t.2.2.2 1) (12 + t.2.2.2) 1))
  else if q.1 = 3 then eEcho t.2.2.2 (-1) (eBit (eBit e t.2.2.2 1) (12 + t.2.2.2) 1)
  else eEnd (eBit (eBit e t.2.2.2 1) (12 + t.2.2.2) 0)
def stLit (s : Int) : Int := if s < 4 then 0 else if s < 10 then s - 3 else s - 6
def stCopy (k s : Int) : Int := if k = 1 then (if s < 7 then 7 else 10) else if k = 2 then (if s < 7 then 8 else 11) else (if s < 7 then 9 else 11)
/-- n bytes more, each the one d places before it -/
def hRep : Nat → Int → (Int → Int) → Int → (Int → Int)
  | 0, _, b, _ => b
  | k + 1, d, b, n => hRep k d (zup b n (b (n - d))) (n + 1)
def hFront : Nat → (Int → Int) → (Int → Int)
  | 0, b => b
  | k + 1, b => hFront k (zup b (k + 1) (b k))
def hTell (t : Hs) (q : Pk) : Hs :=
  if q.1 = 0 then (zup t.1 t.2.1 q.2.2.2.2, t.2.1 + 1, t.2.2.1, stLit t.2.2.2)
  else (hRep q.2.1.toNat q.2.2.1 t.1 t.2.1, t.2.1 + q.2.1,
    (if q.1 = 1 then zup (hFront 3 t.2.2.1) 0 q.2.2.1 else if q.1 = 2 then zup (hFront q.2.2.2.1.toNat t.2.2.1) 0 q.2.2.1 else t.2.2.1), stCopy q.1 t.2.2.2)
/-- how many bytes of the source (n of them) agree from j and from i on -/
def agreeZ (src : Int → Int) (n j i : Int) : Nat → Int → Int
  | 0, k => k
  | r + 1, k => if i + k < n ∧ src (j + k) = src (i + k) then agreeZ src n j i r (k + 1) else k
def agZ (src : Int → Int) (n j i : Int) : Int := if j < 0 ∨ i ≤ j then 0 else agreeZ src n j i (n - i).toNat 0
/-- the match: tried, length, distance; j counts down -/
def matchZ (src : Int → Int) (n i c : Int) : Nat → Int × Int × Int → Int × Int
  | 0, (_, ln, ds) => (ln, ds)
  | j + 1, (tr, ln, ds) =>
    if tr < c then
      (if 2 ≤ agZ src n j i then (if ln < agZ src n j i then matchZ src n i c j (tr + 1, agZ src n j i, i - j) else matchZ src n i c j (tr + 1, ln, ds))
       else matchZ src n i c j (tr, ln, ds))
    else (ln, ds)
/-- the echo: length, which; r more, from k on -/
def echoZ (src : Int → Int) (n i : Int) (bk : Int → Int) : Nat → Int → Int × Int → Int × Int
  | 0, _, x => x
  | r + 1, k, (ln, ec) => if ln < agZ src n (i - bk k) i then echoZ src n i bk r (k + 1) (agZ src n (i - bk k) i, k) else echoZ src n i bk r (k + 1) (ln, ec)
def chooseZ (c : Int) (src : Int → Int) (n : Int) (t : Hs) : Pk :=
  let i := t.2.1
  let mt := matchZ src n i c i.toNat (0, 0, 0)
  let ec := echoZ src n i t.2.2.1 4 0 (0, 0)
  if 2 ≤ ec.1 ∧ mt.1 ≤ ec.1 then (2, ec.1, t.2.2.1 ec.2, ec.2, 0)
  else if 2 ≤ mt.1 then (1, mt.1, mt.2, 0, 0)
  else if 0 < agZ src n (i - t.2.2.1 0) i then (3, 1, t.2.2.1 0, 0, 0)
  else (0, 1, 0, 0, src i)
/-- a packing under way: writer, history, packets (kinds, lengths, values), how many -/
abbrev Pw : Type := En × Hs × ((Int → Int) × (Int → Int) × (Int → Int)) × Int
def pkVal (q : Pk) : Int := if q.1 = 0 then q.2.2.2.2 else q.2.2.1
def packStep (c : Int) (src : Int → Int) (n : Int) (w : Pw) : Pw :=
  let q := chooseZ c src n w.2.1
  (ePkt w.2.1 q w.1, hTell w.2.1 q, (zup w.2.2.1.1 w.2.2.2 q.1, zup w.2.2.1.2.1 w.2.2.2 q.2.1, zup w.2.2.1.2.2 w.2.2.2 (pkVal q)), w.2.2.2 + 1)
def packLoop (c : Int) (src : Int → Int) (n : Int) : Nat → Pw → Pw
  | 0, w => w
  | r + 1, w => if w.2.1.2.1 < n then packLoop c src n r (packStep c src n w) else w
/-- the reader of bits: chances, range, code, next byte; or what was met (1 a byte is missing, 2, 3, 4) -/
abbrev De : Type := (Int → Int) × Int × Int × Int
abbrev Rs : Type := Int ⊕ De
def bdZ (d : De) (a : Int) : Int := d.2.1 / 2048 * d.1 a
def rbZ (d : De) (a : Int) : Int := if d.2.2.1 < bdZ d a then 0 else 1
def rrZ (d : De) (a : Int) : Int := if d.2.2.1 < bdZ d a then bdZ d a else d.2.1 - bdZ d a
def rcZ (d : De) (a : Int) : Int := if d.2.2.1 < bdZ d a then d.2.2.1 else d.2.2.1 - bdZ d a
def rNext (pk : Int → Int) (sz : Int) (d : De) (a : Int) : Rs :=
  if rrZ d a < 16777216 then
    (if d.2.2.2 < sz then .inr (zup d.1 a (learnZ (d.1 a) (rbZ d a)), rrZ d a * 256, rcZ d a * 256 + pk d.2.2.2, d.2.2.2 + 1) else .inl 1)
  else .inr (zup d.1 a (learnZ (d.1 a) (rbZ d a)), rrZ d a, rcZ d a, d.2.2.2)
def rBit (pk : Int → Int) (sz : Int) (a : Int) : Rs → Int × Rs
  | .inl b => (0, .inl b)
  | .inr d => (rbZ d a, rNext pk sz d a)
def rTree (pk : Int → Int) (sz : Int) : Nat → Int → Int → Rs → Int × Rs
  | 0, _, m, x => (m, x)
  | k + 1, a, m, x => rTree pk sz k a (2 * m + (rBit pk sz (a + m) x).1) (rBit pk sz (a + m) x).2
def rRow (pk : Int → Int) (sz : Int) : Nat → Nat → Int → Int → Int → Rs → Int × Rs
  | 0, _, _, _, v, x => (v, x)
  | r + 1, k, a, m, v, x => rRow pk sz r (k + 1) a (2 * m + (rBit pk sz (a + m) x).1) (v + (rBit pk sz (a + m) x).1 * 2 ^ k) (rBit pk sz (a + m) x).2
def rLit (pk : Int → Int) (sz : Int) : Nat → Int → Int → Int → Int → Rs → Int × Rs
  | 0, _, _, m, _, x => (m, x)
  | k + 1, pl, ly, m, as, x =>
    rLit pk sz k pl ly (2 * m + (rBit pk sz (pl + treeZ as (bitZ ly k) * 256 + m) x).1) (sameZ as (rBit pk sz (pl + treeZ as (bitZ ly k) * 256 + m) x).1 (bitZ ly k)) (rBit pk sz (pl + treeZ as (bitZ ly k) * 256 + m) x).2
def rLen (pk : Int → Int) (sz : Int) (pl : Int) (x : Rs) : Int × Rs :=
  if (rBit pk sz pl x).1 = 0 then ((rTree pk sz 3 (pl + 2) 1 (rBit pk sz pl x).2).1 - 8, (rTree pk sz 3 (pl + 2) 1 (rBit pk sz pl x).2).2)
  else if (rBit pk sz (pl + 1) (rBit pk sz pl x).2).1 = 0 then
    (8 + ((rTree pk sz 3 (pl + 10) 1 (rBit pk sz (pl + 1) (rBit pk sz pl x).2).2).1 - 8), (rTree pk sz 3 (pl + 10) 1 (rBit pk sz (pl + 1) (rBit pk sz pl x).2).2).2)
  else (16 + ((rTree pk sz 7 (pl + 18) 1 (rBit pk sz (pl + 1) (rBit pk sz pl x).2).2).1 - 128), (rTree pk sz 7 (pl + 18) 1 (rBit pk sz (pl + 1) (rBit pk sz pl x).2).2).2)
end
section
/-! what stays true while bits are written -/
def eOk (e : En) : Prop := (∀ a, 0 ≤ e.1 a ∧ e.1 a ≤ 2048) ∧ (∀ i, 0 ≤ e.2.1 i ∧ e.2.1 i < 256) ∧ (∀ i, e.2.2.1 ≤ i → e.2.1 i = 0) ∧ 4 ≤ e.2.2.1 ∧ 0 ≤ e.2.2.2 ∧ e.2.2.2 < 4294967296
theorem bd_le {r p : Int} (r1 : 0 ≤ r) (p1 : 0 ≤ p) (p2 : p ≤ 2048) : 0 ≤ r / 2048 * p ∧ r / 2048 * p ≤ r := by
  have h1 : 0 ≤ r / 2048 := by omega
  have h2 := Int.mul_nonneg h1 p1
  have h3 := Int.mul_le_mul_of_nonneg_left p2 h1
  omega
theorem zup_all {Q : Int → Prop} {f : Int → Int} {i x : Int} (h : ∀ j, Q (f j)) (hx : Q x) : ∀ j, Q (zup f i x j) := by
  intro j
  unfold zup
  split
  · exact hx
  · exact h j
theorem raise_ok : ∀ (n : Nat) (c : Int) (g : Int → Int), (∀ i, 0 ≤ g i ∧ g i < 256) → ∀ i, 0 ≤ raiseZ n c g i ∧ raiseZ n c g i < 256 := by
  intro n
  induction n with
  | zero => intro c g h; exact h
  | succ n ih =>
    intro c g h
    unfold raiseZ
    split
    · exact ih _ _ (zup_all (Q := fun z => 0 ≤ z ∧ z < 256) h (by omega))
    · exact h
theorem raise_hi : ∀ (n : Nat) (c : Int) (g : Int → Int) (i : Int), (n : Int) ≤ i → raiseZ n c g i = g i := by
  intro n
  induction n with
  | zero => intro c g i _; rfl
  | succ n ih =>
    intro c g i h
    unfold raiseZ
    split
    · rw [ih _ _ _ (by omega), zup_n (by omega)]
    · rfl
theorem learn_ok {p b : Int} (p1 : 0 ≤ p) (p2 : p ≤ 2048) : 0 ≤ learnZ p b ∧ learnZ p b ≤ 2048 := by
  unfold learnZ
  split <;> omega
theorem eOk_bit {e : En} (h : eOk e) (a bit : Int) : eOk (eBit e a bit) := by
  obtain ⟨h1, h2, h3, h4, h5, h6⟩ := h
  obtain ⟨p1, p2⟩ := h1 a
  have hb := bd_le h5 p1 p2
  refine ⟨zup_all (Q := fun z => 0 ≤ z ∧ z ≤ 2048) h1 (learn_ok p1 p2), ?_, ?_, ?_, ?_, ?_⟩
  · intro i
    show 0 ≤ (if bit = 0 then e.2.1 else if 200 < e.2.2.1 then e.2.1 else raiseZ e.2.2.1.toNat (e.2.2.2 / 2048 * e.1 a) e.2.1) i ∧ (if bit = 0 then e.2.1 else if 200 < e.2.2.1 then e.2.1 else raiseZ e.2.2.1.toNat (e.2.2.2 / 2048 * e.1 a) e.2.1) i < 256
    split
    · exact h2 i
    · split
      · exact h2 i
      · exact raise_ok _ _ _ h2 i
  · intro i hi
    have hi2 : e.2.2.1 ≤ i := by
      have : e.2.2.1 + moreZ (if bit = 0 then e.2.2.2 / 2048 * e.1 a else e.2.2.2 - e.2.2.2 / 2048 * e.1 a) ≤ i := hi
      unfold moreZ at this
      split at this <;> split at this <;> omega
    show (if bit = 0 then e.2.1 else if 200 < e.2.2.1 then e.2.1 else raiseZ e.2.2.1.toNat (e.2.2.2 / 2048 * e.1 a) e.2.1) i = 0
    split
    · exact h3 i hi2
    · split
      · exact h3 i hi2
      · rw [raise_hi _ _ _ _ (by omega)]; exact h3 i hi2
  · show 4 ≤ e.2.2.1 + moreZ _
    unfold moreZ
    split <;> omega
  · show 0 ≤ shiftZ _
    unfold shiftZ
    split <;> split <;> omega
  · show shiftZ _ < 4294967296
    unfold shiftZ
    split <;> split <;> omega
theorem len_bit (e : En) (a bit : Int) : e.2.2.1 ≤ (eBit e a bit).2.2.1 ∧ (eBit e a bit).2.2.1 ≤ e.2.2.1 + 1 := by
  show e.2.2.1 ≤ e.2.2.1 + moreZ _ ∧ e.2.2.1 + moreZ _ ≤ e.2.2.1 + 1
  unfold moreZ
  split <;> split <;> omega
theorem bitZ_01 (v : Int) (k : Nat) : bitZ v k = 0 ∨ bitZ v k = 1 := by unfold bitZ; omega
theorem eOk_tree : ∀ (k : Nat) (a v m : Int) (e : En), eOk e → eOk (eTree k a v m e) ∧ (eTree k a v m e).2.2.1 ≤ e.2.2.1 + k := by
  intro k
  induction k with
  | zero => intro a v m e h; exact ⟨h, by show e.2.2.1 ≤ e.2.2.1 + ((0 : Nat) : Int); omega⟩
  | succ k ih =>
    intro a v m e h
    have h1 := ih a v (2 * m + bitZ v k) _ (eOk_bit h (a + m) (bitZ v k))
    have h2 := len_bit e (a + m) (bitZ v k)
    exact ⟨h1.1, by have := h1.2; show (eTree k a v _ _).2.2.1 ≤ _; omega⟩
theorem eOk_row : ∀ (r k : Nat) (a v m : Int) (e : En), eOk e → eOk (eRow r k a v m e) ∧ (eRow r k a v m e).2.2.1 ≤ e.2.2.1 + r := by
  intro r
  induction r with
  | zero => intro k a v m e h; exact ⟨h, by show e.2.2.1 ≤ e.2.2.1 + ((0 : Nat) : Int); omega⟩
  | succ r ih =>
    intro k a v m e h
    have h1 := ih (k + 1) a v (2 * m + bitZ v k) _ (eOk_bit h (a + m) (bitZ v k))
    have h2 := len_bit e (a + m) (bitZ v k)
    exact ⟨h1.1, by have := h1.2; show (eRow r (k + 1) a v _ _).2.2.1 ≤ _; omega⟩
theorem eOk_lit : ∀ (k : Nat) (pl ly b m as : Int) (e : En), eOk e → eOk (eLit k pl ly b m as e) ∧ (eLit k pl ly b m as e).2.2.1 ≤ e.2.2.1 + k := by
  intro k
  induction k with
  | zero => intro pl ly b m as e h; exact ⟨h, by show e.2.2.1 ≤ e.2.2.1 + ((0 : Nat) : Int); omega⟩
  | succ k ih =>
    intro pl ly b m as e h
    have h1 := ih pl ly b (2 * m + bitZ b k) (sameZ as (bitZ b k) (bitZ ly k)) _ (eOk_bit h (pl + treeZ as (bitZ ly k) * 256 + m) (bitZ b k))
    have h2 := len_bit e (pl + treeZ as (bitZ ly k) * 256 + m) (bitZ b k)
    exact ⟨h1.1, by have := h1.2; show (eLit k pl ly b _ _ _).2.2.1 ≤ _; omega⟩
end
section
/-! bytes: a row of them with a count -/
abbrev oBy (b r : Nat) (n : Int) : va_E := .inr (0, [.ref (b + r), .int (zI n)])
def isB (b : Int) : Int := if 0 ≤ b ∧ b ≤ 255 then 1 else 0
def hasZ (i n : Int) : Int := if 0 ≤ i ∧ i < n then 1 else 0
def getZ (f : Int → Int) (i n : Int) : Int := if 0 ≤ i ∧ i < n then f i else -1
theorem isB_1 {b : Int} (h : 0 ≤ b ∧ b ≤ 255) : isB b = 1 := if_pos h
theorem isB_0 {b : Int} (h : ¬ (0 ≤ b ∧ b ≤ 255)) : isB b = 0 := if_neg h
theorem isB_01 (b : Int) : (isB b = 0 ∧ ¬ (0 ≤ b ∧ b ≤ 255)) ∨ (isB b = 1 ∧ 0 ≤ b ∧ b ≤ 255) := by unfold isB; split <;> omega
theorem hasZ_01 (i n : Int) : (hasZ i n = 0 ∧ ¬ (0 ≤ i ∧ i < n)) ∨ (hasZ i n = 1 ∧ 0 ≤ i ∧ i < n) := by unfold hasZ; split <;> omega
set_option maxRecDepth 100000 in
set_option maxHeartbeats 4000000 in
theorem c_Np_isByte {a0 : Array Value} {s0 : State} {D : va_G} {cI cL : ClassId} (l : Launch) (E : a_E a0 s0 D cI cL) {h : AH} {K : Nat} {b : Int} (b1 : -2147483648 ≤ b) (b2 : b < 2147483648) : XM l s0 D y_Np_isByte prog_1_method_16_code 1 (some .boolean) 0 0 0 [.int (zI b)] (h) (K) (PR (some (.int (zI (isB b)))) h K) := by
  refine XM.of (cI := cI) (cL := cL) (own := "NarrowingPacker") (by decide) rfl E.2 (nle rfl) ?_
  intro p e s m below meth c C hn
  refine x_iload_n C d_Np_isByte_0 rfl ?_
  refine x_if_lt C (tgt := 15) d_Np_isByte_1 (by decide) (by omega) (by omega) (fun c1 => ?_) (fun c1 => ?_)
  · refine x_iconst C d_Np_isByte_15 ?_
    exact x_zret C d_Np_isByte_16 (by omega) (nle rfl) (nle rfl) ⟨by unfold isB; split <;> first | rfl | (exfalso; omega), rfl, rfl⟩
  · refine x_iload_n C d_Np_isByte_4 rfl ?_
    refine x_sipush C d_Np_isByte_5 (by decide) ?_
    refine x_icmp_gt C (tgt := 15) d_Np_isByte_8 (by decide) (by omega) (by omega) (by omega) (by omega) (fun c8 => ?_) (fun c8 => ?_)
    · refine x_iconst C d_Np_isByte_15 ?_
      exact x_zret C d_Np_isByte_16 (by omega) (nle rfl) (nle rfl) ⟨by unfold isB; split <;> first | rfl | (exfalso; omega), rfl, rfl⟩
    · refine x_iconst C d_Np_isByte_11 ?_
      refine x_goto C (tgt := 16) d_Np_isByte_12 (by decide) ?_
      exact x_zret C d_Np_isByte_16 (by omega) (nle rfl) (nle rfl) ⟨by unfold isB; split <;> first | rfl | (exfalso; omega), rfl, rfl⟩

set_option maxRecDepth 100000 in
set_option maxHeartbeats 4000000 in
theorem c_By_has {a0 : Array Value} {s0 : State} {D : va_G} {cI cL : ClassId} (l : Launch) (E : a_E a0 s0 D cI cL) {h : AH} {K a r : Nat} {n : Int} (ha : h a = some (oBy s0.heap.size r n)) (n1 : 0 ≤ n) (n2 : n < 100000) {i : Int} (i1 : -2147483648 ≤ i) (i2 : i < 2147483648) : XM l s0 D y_By_has prog_2_method_2_code 2 (some .boolean) 0 0 0 [.ref (s0.heap.size + a), .int (zI i)] (h) (K) (PR (some (.int (zI (hasZ i n)))) h K) := by
  refine XM.of (cI := cI) (cL := cL) (own := "NarrowingPacker$Bytes") (by decide) rfl E.2 (nle rfl) ?_
  intro p e s m below meth c C hn
  refine x_iload_n C d_By_has_0 rfl ?_
  refine x_if_lt C (tgt := 16) d_By_has_1 (by decide) (by omega) (by omega) (fun c1 => ?_) (fun c1 => ?_)
  · refine x_iconst C d_By_has_16 ?_
    exact x_zret C d_By_has_17 (by omega) (nle rfl) (nle rfl) ⟨by unfold hasZ; split <;> first | rfl | (exfalso; omega), rfl, rfl⟩
  · refine x_iload_n C d_By_has_4 rfl ?_
    refine x_aload_n C d_By_has_5 rfl ?_
    refine x_get C (G_By E.1) 1 (u_43 E.1) d_By_has_6 (by decide) ha rfl ?_
    refine x_icmp_ge C (tgt := 16) d_By_has_9 (by decide) (by omega) (by omega) (by omega) (by omega) (fun c9 => ?_) (fun c9 => ?_)
    · refine x_iconst C d_By_has_16 ?_
      exact x_zret C d_By_has_17 (by omega) (nle rfl) (nle rfl) ⟨by unfold hasZ; split <;> first | rfl | (exfalso; omega), rfl, rfl⟩
    · refine x_iconst C d_By_has_12 ?_
      refine x_goto C (tgt := 17) d_By_has_13 (by decide) ?_
      exact x_zret C d_By_has_17 (by omega) (nle rfl) (nle rfl) ⟨by unfold hasZ; split <;> first | rfl | (exfalso; omega), rfl, rfl⟩

set_option maxRecDepth 100000 in
set_option maxHeartbeats 4000000 in
theorem c_By_get {a0 : Array Value} {s0 : State} {D : va_G} {cI cL : ClassId} (l : Launch) (E : a_E a0 s0 D cI cL) {h : AH} {K a r N : Nat} {n : Int} {f : Int → Int} (ha : h a = some (oBy s0.heap.size r n)) (hr : h r = some (iA cI N f)) (hN : (N : Int) < 100000) (n1 : 0 ≤ n) (n2 : n ≤ (N : Int)) {i : Int} (i1 : -2147483648 ≤ i) (i2 : i < 2147483648) : XM l s0 D y_By_get prog_2_method_3_code 2 (some .int) 1 0 0 [.ref (s0.heap.size + a), .int (zI i)] (h) (K) (PR (some (.int (zI (getZ f i n)))) h K) := by
  refine XM.of (cI := cI) (cL := cL) (own := "NarrowingPacker$Bytes") (by decide) rfl E.2 (nle rfl) ?_
  intro p e s m below meth c C hn
  refine x_aload_n C d_By_get_0 rfl ?_
  refine x_iload_n C d_By_get_1 rfl ?_
  refine x_callVR C (G_By E.1) (u_332 E.1) (u_333 E.1) (u_334 E.1) (u_335 E.1) (u_2 E.1) d_By_get_2 (c_By_has l E ha n1 (by omega) i1 i2) nh_By_has ln_By_has rfl ha (nle rfl) (nle rfl) (nle rfl) (nle rfl) (nle rfl) ?_
  have hz := hasZ_01 i n
  refine x_if_eq C (tgt := 17) d_By_get_5 (by decide) (by omega) (by omega) (fun c5 => ?_) (fun c5 => ?_)
  · refine x_iconst C d_By_get_17 ?_
    exact x_iret C d_By_get_18 (nle rfl) (nle rfl) ⟨by unfold getZ; split <;> first | rfl | (exfalso; omega), rfl, rfl⟩
  · refine x_aload_n C d_By_get_8 rfl ?_
    refine x_get C (G_By E.1) 0 (u_37 E.1) d_By_get_9 (by decide) ha rfl ?_
    refine x_iload_n C d_By_get_12 rfl ?_
    refine x_iald C d_By_get_13 hr (by omega) (by omega) (by omega) ?_
    refine x_goto C (tgt := 18) d_By_get_14 (by decide) ?_
    exact x_iret C d_By_get_18 (nle rfl) (nle rfl) ⟨by unfold getZ; split <;> first | rfl | (exfalso; omega), rfl, rfl⟩

set_option maxRecDepth 100000 in
set_option maxHeartbeats 4000000 in
theorem c_By_append {a0 : Array Value} {s0 : State} {D : va_G} {cI cL : ClassId} (l : Launch) (E : a_E a0 s0 D cI cL) {h : AH} {K a r N : Nat} {n : Int} {f : Int → Int} (ha : h a = some (oBy s0.heap.size r n)) (hr : h r = some (iA cI N f)) (hN : (N : Int) < 100000) (n1 : 0 ≤ n) (n2 : n ≤ (N : Int)) (ne : a ≠ r) {b : Int} (bb : 0 ≤ b ∧ b ≤ 255) (nn : n < (N : Int)) (b1 : -2147483648 ≤ b) (b2 : b < 2147483648) : XM l s0 D y_By_append prog_2_method_4_code 2 (some .boolean) 1 0 0 [.ref (s0.heap.size + a), .int (zI b)] (h) (K) (PR (some (.int (zI 1))) (a_up (a_up h r (iA cI N (zup f n b))) a (oBy s0.heap.size r (n + 1))) K) := by
  refine XM.of (cI := cI) (cL := cL) (own := "NarrowingPacker$Bytes") (by decide) rfl E.2 (nle rfl) ?_
  intro p e s m below meth c C hn
  refine x_iload_n C d_By_append_0 rfl ?_
  refine x_callSNR C (u_291 E.1) (u_292 E.1) (u_293 E.1) (u_1 E.1) d_By_append_1 (c_Np_isByte l E b1 b2) nh_Np_isByte ln_Np_isByte rfl (nle rfl) (nle rfl) (nle rfl) (nle rfl) (nle rfl) ?_
  have hz := isB_01 b
  refine x_if_eq C (tgt := 19) d_By_append_4 (by decide) (by omega) (by omega) (fun c4 => ?_) (fun c4 => ?_)
  · exfalso; omega
  · refine x_aload_n C d_By_append_7 rfl ?_
    refine x_get C (G_By E.1) 1 (u_43 E.1) d_By_append_8 (by decide) ha rfl ?_
    refine x_aload_n C d_By_append_11 rfl ?_
    refine x_get C (G_By E.1) 0 (u_37 E.1) d_By_append_12 (by decide) ha rfl ?_
    refine x_alen C d_By_append_15 hr ?_
    refine x_icmp_lt C (tgt := 21) d_By_append_16 (by decide) (by omega) (by omega) (by omega) (by omega) (fun c16 => ?_) (fun c16 => ?_)
    · refine x_aload_n C d_By_append_21 rfl ?_
      refine x_get C (G_By E.1) 0 (u_37 E.1) d_By_append_22 (by decide) ha rfl ?_
      refine x_aload_n C d_By_append_25 rfl ?_
      refine x_get C (G_By E.1) 1 (u_43 E.1) d_By_append_26 (by decide) ha rfl ?_
      refine x_iload_n C d_By_append_29 rfl ?_
      refine x_iast C d_By_append_30 hr (by omega) (by omega) (by omega) ?_
      refine x_aload_n C d_By_append_31 rfl ?_
      refine x_dup C d_By_append_32 rfl ?_
      refine x_get C (G_By E.1) 1 (u_43 E.1) d_By_append_33 (by decide) (by rw [a_up_n ne]; exact ha) rfl ?_
      refine x_iconst C d_By_append_36 ?_
      refine x_iadd C d_By_append_37 ?_
      refine x_put C (G_By E.1) 1 (u_43 E.1) d_By_append_38 (by decide) rfl (by rw [a_up_n ne]; exact ha) rfl rfl (nle rfl) ?_
      refine x_iconst C d_By_append_41 ?_
      exact x_zret C d_By_append_42 (by omega) (nle rfl) (nle rfl) ⟨rfl, rfl, rfl⟩
    · exfalso; omega

set_option maxRecDepth 100000 in
set_option maxHeartbeats 4000000 in
theorem c_By_append0 {a0 : Array Value} {s0 : State} {D : va_G} {cI cL : ClassId} (l : Launch) (E : a_E a0 s0 D cI cL) {h : AH} {K a r N : Nat} {n : Int} {f : Int → Int} (ha : h a = some (oBy s0.heap.size r n)) (hr : h r = some (iA cI N f)) (hN : (N : Int) < 100000) (n1 : 0 ≤ n) (n2 : n ≤ (N : Int)) {b : Int} (bb : ¬ (0 ≤ b ∧ b ≤ 255) ∨ n = (N : Int)) (b1 : -2147483648 ≤ b) (b2 : b < 2147483648) : XM l s0 D y_By_append prog_2_method_4_code 2 (some .boolean) 1 0 0 [.ref (s0.heap.size + a), .int (zI b)] (h) (K) (PR (some (.int (zI 0))) h K) := by
  refine XM.of (cI := cI) (cL := cL) (own := "NarrowingPacker$Bytes") (by decide) rfl E.2 (nle rfl) ?_
  intro p e s m below meth c C hn
  refine x_iload_n C d_By_append_0 rfl ?_
  refine x_callSNR C (u_291 E.1) (u_292 E.1) (u_293 E.1) (u_1 E.1) d_By_append_1 (c_Np_isByte l E b1 b2) nh_Np_isByte ln_Np_isByte rfl (nle rfl) (nle rfl) (nle rfl) (nle rfl) (nle rfl) ?_
  have hz := isB_01 b
  refine x_if_eq C (tgt := 19) d_By_append_4 (by decide) (by omega) (by omega) (fun c4 => ?_) (fun c4 => ?_)
  · refine x_iconst C d_By_append_19 ?_
    exact x_zret C d_By_append_20 (by omega) (nle rfl) (nle rfl) ⟨rfl, rfl, rfl⟩
  · refine x_aload_n C d_By_append_7 rfl ?_
    refine x_get C (G_By E.1) 1 (u_43 E.1) d_By_append_8 (by decide) ha rfl ?_
    refine x_aload_n C d_By_append_11 rfl ?_
    refine x_get C (G_By E.1) 0 (u_37 E.1) d_By_append_12 (by decide) ha rfl ?_
    refine x_alen C d_By_append_15 hr ?_
    refine x_icmp_lt C (tgt := 21) d_By_append_16 (by decide) (by omega) (by omega) (by omega) (by omega) (fun c16 => ?_) (fun c16 => ?_)
    · exfalso; omega
    · refine x_iconst C d_By_append_19 ?_
      exact x_zret C d_By_append_20 (by omega) (nle rfl) (nle rfl) ⟨rfl, rfl, rfl⟩

set_option maxRecDepth 100000 in
set_option maxHeartbeats 4000000 in
theorem c_By_shorten {a0 : Array Value} {s0 : State} {D : va_G} {cI cL : ClassId} (l : Launch) (E : a_E a0 s0 D cI cL) {h : AH} {K a r : Nat} {n : Int} (ha : h a = some (oBy s0.heap.size r n)) (n1 : 0 ≤ n) (n2 : n < 100000) {i : Int} (i1 : -2147483648 ≤ i) (i2 : i < 2147483648) : XM l s0 D y_By_shorten prog_2_method_5_code 3 (some .int) 1 0 0 [.ref (s0.heap.size + a), .int (zI i)] (h) (K) (PR (some (.int (zI (n - max 0 (min i n))))) (a_up h a (oBy s0.heap.size r (max 0 (min i n)))) K) := by
  refine XM.of (cI := cI) (cL := cL) (own := "NarrowingPacker$Bytes") (by decide) rfl E.2 (nle rfl) ?_
  intro p e s m below meth c C hn
  refine x_aload_n C d_By_shorten_0 rfl ?_
  refine x_get C (G_By E.1) 1 (u_43 E.1) d_By_shorten_1 (by decide) ha rfl ?_
  refine x_istore_n C d_By_shorten_4 (by decide) ?_
  refine x_aload_n C d_By_shorten_5 rfl ?_
  refine x_iconst C d_By_shorten_6 ?_
  refine x_iload_n C d_By_shorten_7 rfl ?_
  refine x_iload_n C d_By_shorten_8 rfl ?_
  refine x_min C (u_302 E.1) (u_140 E.1) (u_7 E.1) (u_141 E.1) d_By_shorten_9 (nle rfl) (nle rfl) (nle rfl) (nle rfl) (by omega) (by omega) (by omega) (by omega) ?_
  refine x_max C (u_303 E.1) (u_143 E.1) (u_7 E.1) (u_144 E.1) d_By_shorten_12 (nle rfl) (nle rfl) (nle rfl) (nle rfl) (by omega) (by omega) (by omega) (by omega) ?_
  refine x_put C (G_By E.1) 1 (u_43 E.1) d_By_shorten_15 (by decide) rfl ha rfl rfl (nle rfl) ?_
  refine x_iload_n C d_By_shorten_18 rfl ?_
  refine x_aload_n C d_By_shorten_19 rfl ?_
  refine x_get C (G_By E.1) 1 (u_43 E.1) d_By_shorten_20 (by decide) (a_up_s _ _ _) rfl ?_
  refine x_isub C d_By_shorten_23 ?_
  exact x_iret C d_By_shorten_24 (nle rfl) (nle rfl) ⟨rfl, rfl, rfl⟩

set_option maxRecDepth 100000 in
set_option maxHeartbeats 4000000 in
theorem c_By_copy {a0 : Array Value} {s0 : State} {D : va_G} {cI cL : ClassId} (l : Launch) (E : a_E a0 s0 D cI cL) {h : AH} {K a r N : Nat} {n : Int} {f : Int → Int} (ha : h a = some (oBy s0.heap.size r n)) (hr : h r = some (iA cI N f)) (hN : (N : Int) < 100000) (n1 : 0 ≤ n) (n2 : n ≤ (N : Int)) {r2 M : Nat} {g : Int → Int} (ne : r ≠ a) (ne2 : r2 ≠ a) (h2 : h r2 = some (iA cI M g)) (hM : (M : Int) < 100000) {i : Int} (i1 : 0 ≤ i) (i2 : i ≤ (M : Int)) (i3 : i ≤ (N : Int)) : XM l s0 D y_By_copy prog_2_method_6_code 3 none 2 0 0 [.ref (s0.heap.size + a), .ref (s0.heap.size + r2), .int (zI i)] (h) (K) (PR none (a_up (a_up h a (oBy s0.heap.size r i)) r (iA cI N (zcpy g f 0 0 i))) K) := by
  refine XM.of (cI := cI) (cL := cL) (own := "NarrowingPacker$Bytes") (by decide) rfl E.2 (nle rfl) ?_
  intro p e s m below meth c C hn
  refine x_aload_n C d_By_copy_0 rfl ?_
  refine x_iconst C d_By_copy_1 ?_
  refine x_iload_n C d_By_copy_2 rfl ?_
  refine x_aload_n C d_By_copy_3 rfl ?_
  refine x_alen C d_By_copy_4 h2 ?_
  refine x_aload_n C d_By_copy_5 rfl ?_
  refine x_get C (G_By E.1) 0 (u_37 E.1) d_By_copy_6 (by decide) ha rfl ?_
  refine x_alen C d_By_copy_9 hr ?_
  refine x_min C (u_302 E.1) (u_140 E.1) (u_7 E.1) (u_141 E.1) d_By_copy_10 (nle rfl) (nle rfl) (nle rfl) (nle rfl) (by omega) (by omega) (by omega) (by omega) ?_
  refine x_min C (u_302 E.1) (u_140 E.1) (u_7 E.1) (u_141 E.1) d_By_copy_13 (nle rfl) (nle rfl) (nle rfl) (nle rfl) (by omega) (by omega) (by omega) (by omega) ?_
  refine x_max C (u_303 E.1) (u_143 E.1) (u_7 E.1) (u_144 E.1) d_By_copy_16 (nle rfl) (nle rfl) (nle rfl) (nle rfl) (by omega) (by omega) (by omega) (by omega) ?_
  refine x_put C (G_By E.1) 1 (u_43 E.1) d_By_copy_19 (by decide) rfl ha rfl rfl (nle rfl) ?_
  rw [show max 0 (min i (min (M : Int) (N : Int))) = i by omega]
  refine x_aload_n C d_By_copy_22 rfl ?_
  refine x_iconst C d_By_copy_23 ?_
  refine x_aload_n C d_By_copy_24 rfl ?_
  refine x_get C (G_By E.1) 0 (u_37 E.1) d_By_copy_25 (by decide) (a_up_s _ _ _) rfl ?_
  refine x_iconst C d_By_copy_28 ?_
  refine x_aload_n C d_By_copy_29 rfl ?_
  refine x_get C (G_By E.1) 1 (u_43 E.1) d_By_copy_30 (by decide) (a_up_s _ _ _) rfl ?_
  refine x_copy C (u_601 E.1) (u_603 E.1) (u_602 E.1) (u_19 E.1) d_By_copy_33 (by rw [a_up_n ne2]; exact h2) (by rw [a_up_n ne]; exact hr) (by omega) (by omega) (by omega) (by omega) (by omega) (by omega) (by omega) (nle rfl) (nle rfl) ?_
  exact x_vret C d_By_copy_36 (nle rfl) (nle rfl) ⟨rfl, rfl, rfl⟩

set_option maxRecDepth 100000 in
set_option maxHeartbeats 4000000 in
theorem c_By_init {a0 : Array Value} {s0 : State} {D : va_G} {cI cL : ClassId} (l : Launch) (E : a_E a0 s0 D cI cL) {h : AH} {K a : Nat} (ne : a ≠ K) (N : Nat) (hN : N < 100000) (ha : h a = some (.inr (0, [.null, .int (zI 0)]))) : XM l s0 D y_By_init prog_2_method_1_code 2 none 1 1 N [.ref (s0.heap.size + a), .int (zI (N : Int))] (h) (K) (PR none (a_up (a_up h K (iA cI N (fun _ => 0))) a (oBy s0.heap.size K 0)) (K + 1)) := by
  refine XM.of (cI := cI) (cL := cL) (own := "NarrowingPacker$Bytes") (by decide) rfl E.2 (nle rfl) ?_
  intro p e s m below meth c C hn
  refine x_aload_n C d_By_init_0 rfl ?_
  refine x_objInit C (u_36 E.1) (u_29 E.1) (u_30 E.1) d_By_init_1 (nle rfl) (nle rfl) ?_
  refine x_aload_n C d_By_init_4 rfl ?_
  refine x_iload_n C d_By_init_5 rfl ?_
  refine x_newa C (u_52 E.1) N d_By_init_6 rfl hN (nle rfl) (by show 0 + N ≤ N; omega) ?_
  refine x_putF C hn (G_By E.1) 0 (u_37 E.1) d_By_init_8 (by decide) rfl rfl (by rw [a_up_n ne]; exact ha) rfl rfl (nle rfl) ?_
  exact x_vret C d_By_init_11 (nle rfl) (by show 0 + N ≤ N; omega) ⟨rfl, rfl, rfl⟩
end
section
/-! a packet, the packets of a packing -/
abbrev oPa (k ln ds ec li : Int) : va_E := .inr (6, [.int (zI k), .int (zI ln), .int (zI ds), .int (zI ec), .int (zI li)])
abbrev oPl (b r1 r2 r3 : Nat) (n : Int) : va_E := .inr (7, [.ref (b + r1), .ref (b + r2), .ref (b + r3), .int (zI n)])
set_option maxRecDepth 100000 in
set_option maxHeartbeats 4000000 in
theorem c_Pa_become {a0 : Array Value} {s0 : State} {D : va_G} {cI cL : ClassId} (l : Launch) (E : a_E a0 s0 D cI cL) {h : AH} {K a : Nat} {k ln ds ec li : Int} (ha : h a = some (oPa k ln ds ec li)) {x y z : Int} : XM l s0 D y_Pa_become prog_8_method_7_code 4 none 0 0 0 [.ref (s0.heap.size + a), .int (zI x), .int (zI y), .int (zI z)] (h) (K) (PR none (a_up h a (oPa x y z ec li)) K) := by
  refine XM.of (cI := cI) (cL := cL) (own := "NarrowingPacker$Packet") (by decide) rfl E.2 (nle rfl) ?_
  intro p e s m below meth c C hn
  refine x_aload_n C d_Pa_become_0 rfl ?_
  refine x_iload_n C d_Pa_become_1 rfl ?_
  refine x_put C (G_Pa E.1) 0 (u_82 E.1) d_Pa_become_2 (by decide) rfl ha rfl rfl (nle rfl) ?_
  refine x_aload_n C d_Pa_become_5 rfl ?_
  refine x_iload_n C d_Pa_become_6 rfl ?_
  refine x_put C (G_Pa E.1) 1 (u_87 E.1) d_Pa_become_7 (by decide) rfl (a_up_s _ _ _) rfl rfl (nle rfl) ?_
  refine x_aload_n C d_Pa_become_10 rfl ?_
  refine x_iload_n C d_Pa_become_11 rfl ?_
  refine x_put C (G_Pa E.1) 2 (u_92 E.1) d_Pa_become_12 (by decide) rfl (a_up_s _ _ _) rfl rfl (nle rfl) ?_
  exact x_vret C d_Pa_become_15 (nle rfl) (nle rfl) ⟨rfl, by first | rfl | (simp only [a_up_up]; done) | (simp only [a_up_up]; rfl), rfl⟩

set_option maxRecDepth 100000 in
set_option maxHeartbeats 4000000 in
theorem c_Pa_becomeLiteral {a0 : Array Value} {s0 : State} {D : va_G} {cI cL : ClassId} (l : Launch) (E : a_E a0 s0 D cI cL) {h : AH} {K a : Nat} {k ln ds ec li : Int} (ha : h a = some (oPa k ln ds ec li)) {b : Int} : XM l s0 D y_Pa_becomeLiteral prog_8_method_2_code 2 none 1 0 0 [.ref (s0.heap.size + a), .int (zI b)] (h) (K) (PR none (a_up h a (oPa 0 1 0 ec b)) K) := by
  refine XM.of (cI := cI) (cL := cL) (own := "NarrowingPacker$Packet") (by decide) rfl E.2 (nle rfl) ?_
  intro p e s m below meth c C hn
  refine x_aload_n C d_Pa_becomeLiteral_0 rfl ?_
  refine x_iconst C d_Pa_becomeLiteral_1 ?_
  refine x_iconst C d_Pa_becomeLiteral_2 ?_
  refine x_iconst C d_Pa_becomeLiteral_3 ?_
  refine x_callVR C (G_Pa E.1) (u_405 E.1) (u_407 E.1) (us_3 E.1) (u_408 E.1) (u_4 E.1) d_Pa_becomeLiteral_4 (c_Pa_become l E ha) nh_Pa_become ln_Pa_become rfl ha (nle rfl) (nle rfl) (nle rfl) (nle rfl) (nle rfl) ?_
  refine x_aload_n C d_Pa_becomeLiteral_7 rfl ?_
  refine x_iload_n C d_Pa_becomeLiteral_8 rfl ?_
  refine x_put C (G_Pa E.1) 4 (u_97 E.1) d_Pa_becomeLiteral_9 (by decide) rfl (a_up_s _ _ _) rfl rfl (nle rfl) ?_
  exact x_vret C d_Pa_becomeLiteral_12 (nle rfl) (nle rfl) ⟨rfl, by first | rfl | (simp only [a_up_up]; done) | (simp only [a_up_up]; rfl), rfl⟩

set_option maxRecDepth 100000 in
set_option maxHeartbeats 4000000 in
theorem c_Pa_becomeMatch {a0 : Array Value} {s0 : State} {D : va_G} {cI cL : ClassId} (l : Launch) (E : a_E a0 s0 D cI cL) {h : AH} {K a : Nat} {k ln ds ec li : Int} (ha : h a = some (oPa k ln ds ec li)) {y z : Int} : XM l s0 D y_Pa_becomeMatch prog_8_method_3_code 3 none 1 0 0 [.ref (s0.heap.size + a), .int (zI y), .int (zI z)] (h) (K) (PR none (a_up h a (oPa 1 y z ec li)) K) := by
  refine XM.of (cI := cI) (cL := cL) (own := "NarrowingPacker$Packet") (by decide) rfl E.2 (nle rfl) ?_
  intro p e s m below meth c C hn
  refine x_aload_n C d_Pa_becomeMatch_0 rfl ?_
  refine x_iconst C d_Pa_becomeMatch_1 ?_
  refine x_iload_n C d_Pa_becomeMatch_2 rfl ?_
  refine x_iload_n C d_Pa_becomeMatch_3 rfl ?_
  refine x_callVR C (G_Pa E.1) (u_405 E.1) (u_407 E.1) (us_3 E.1) (u_408 E.1) (u_4 E.1) d_Pa_becomeMatch_4 (c_Pa_become l E ha) nh_Pa_become ln_Pa_become rfl ha (nle rfl) (nle rfl) (nle rfl) (nle rfl) (nle rfl) ?_
  exact x_vret C d_Pa_becomeMatch_7 (nle rfl) (nle rfl) ⟨rfl, by first | rfl | (simp only [a_up_up]; done) | (simp only [a_up_up]; rfl), rfl⟩

set_option maxRecDepth 100000 in
set_option maxHeartbeats 4000000 in
theorem c_Pa_becomeEcho {a0 : Array Value} {s0 : State} {D : va_G} {cI cL : ClassId} (l : Launch) (E : a_E a0 s0 D cI cL) {h : AH} {K a : Nat} {k ln ds ec li : Int} (ha : h a = some (oPa k ln ds ec li)) {x y z : Int} : XM l s0 D y_Pa_becomeEcho prog_8_method_4_code 4 none 1 0 0 [.ref (s0.heap.size + a), .int (zI x), .int (zI y), .int (zI z)] (h) (K) (PR none (a_up h a (oPa 2 y z x li)) K) := by
  refine XM.of (cI := cI) (cL := cL) (own := "NarrowingPacker$Packet") (by decide) rfl E.2 (nle rfl) ?_
  intro p e s m below meth c C hn
  refine x_aload_n C d_Pa_becomeEcho_0 rfl ?_
  refine x_iconst C d_Pa_becomeEcho_1 ?_
  refine x_iload_n C d_Pa_becomeEcho_2 rfl ?_
  refine x_iload_n C d_Pa_becomeEcho_3 rfl ?_
  refine x_callVR C (G_Pa E.1) (u_405 E.1) (u_407 E.1) (us_3 E.1) (u_408 E.1) (u_4 E.1) d_Pa_becomeEcho_4 (c_Pa_become l E ha) nh_Pa_become ln_Pa_become rfl ha (nle rfl) (nle rfl) (nle rfl) (nle rfl) (nle rfl) ?_
  refine x_aload_n C d_Pa_becomeEcho_7 rfl ?_
  refine x_iload_n C d_Pa_becomeEcho_8 rfl ?_
  refine x_put C (G_Pa E.1) 3 (u_95 E.1) d_Pa_becomeEcho_9 (by decide) rfl (a_up_s _ _ _) rfl rfl (nle rfl) ?_
  exact x_vret C d_Pa_becomeEcho_12 (nle rfl) (nle rfl) ⟨rfl, by first | rfl | (simp only [a_up_up]; done) | (simp only [a_up_up]; rfl), rfl⟩

set_option maxRecDepth 100000 in
set_option maxHeartbeats 4000000 in
theorem c_Pa_becomeShort {a0 : Array Value} {s0 : State} {D : va_G} {cI cL : ClassId} (l : Launch) (E : a_E a0 s0 D cI cL) {h : AH} {K a : Nat} {k ln ds ec li : Int} (ha : h a = some (oPa k ln ds ec li)) {z : Int} : XM l s0 D y_Pa_becomeShort prog_8_method_5_code 2 none 1 0 0 [.ref (s0.heap.size + a), .int (zI z)] (h) (K) (PR none (a_up h a (oPa 3 1 z ec li)) K) := by
  refine XM.of (cI := cI) (cL := cL) (own := "NarrowingPacker$Packet") (by decide) rfl E.2 (nle rfl) ?_
  intro p e s m below meth c C hn
  refine x_aload_n C d_Pa_becomeShort_0 rfl ?_
  refine x_iconst C d_Pa_becomeShort_1 ?_
  refine x_iconst C d_Pa_becomeShort_2 ?_
  refine x_iload_n C d_Pa_becomeShort_3 rfl ?_
  refine x_callVR C (G_Pa E.1) (u_405 E.1) (u_407 E.1) (us_3 E.1) (u_408 E.1) (u_4 E.1) d_Pa_becomeShort_4 (c_Pa_become l E ha) nh_Pa_become ln_Pa_become rfl ha (nle rfl) (nle rfl) (nle rfl) (nle rfl) (nle rfl) ?_
  exact x_vret C d_Pa_becomeShort_7 (nle rfl) (nle rfl) ⟨rfl, by first | rfl | (simp only [a_up_up]; done) | (simp only [a_up_up]; rfl), rfl⟩

set_option maxRecDepth 100000 in
set_option maxHeartbeats 4000000 in
theorem c_Pa_becomeEnd {a0 : Array Value} {s0 : State} {D : va_G} {cI cL : ClassId} (l : Launch) (E : a_E a0 s0 D cI cL) {h : AH} {K a : Nat} {k ln ds ec li : Int} (ha : h a = some (oPa k ln ds ec li)) : XM l s0 D y_Pa_becomeEnd prog_8_method_6_code 1 none 1 0 0 [.ref (s0.heap.size + a)] (h) (K) (PR none (a_up h a (oPa 4 0 0 ec li)) K) := by
  refine XM.of (cI := cI) (cL := cL) (own := "NarrowingPacker$Packet") (by decide) rfl E.2 (nle rfl) ?_
  intro p e s m below meth c C hn
  refine x_aload_n C d_Pa_becomeEnd_0 rfl ?_
  refine x_iconst C d_Pa_becomeEnd_1 ?_
  refine x_iconst C d_Pa_becomeEnd_2 ?_
  refine x_iconst C d_Pa_becomeEnd_3 ?_
  refine x_callVR C (G_Pa E.1) (u_405 E.1) (u_407 E.1) (us_3 E.1) (u_408 E.1) (u_4 E.1) d_Pa_becomeEnd_4 (c_Pa_become l E ha) nh_Pa_become ln_Pa_become rfl ha (nle rfl) (nle rfl) (nle rfl) (nle rfl) (nle rfl) ?_
  exact x_vret C d_Pa_becomeEnd_7 (nle rfl) (nle rfl) ⟨rfl, by first | rfl | (simp only [a_up_up]; done) | (simp only [a_up_up]; rfl), rfl⟩

set_option maxRecDepth 100000 in
set_option maxHeartbeats 4000000 in
theorem c_Pa_init {a0 : Array Value} {s0 : State} {D : va_G} {cI cL : ClassId} (l : Launch) (E : a_E a0 s0 D cI cL) {h : AH} {K a : Nat} : XM l s0 D y_Pa_init prog_8_method_1_code 1 none 1 0 0 [.ref (s0.heap.size + a)] (h) (K) (PR none h K) := by
  refine XM.of (cI := cI) (cL := cL) (own := "NarrowingPacker$Packet") (by decide) rfl E.2 (nle rfl) ?_
  intro p e s m below meth c C hn
  refine x_aload_n C d_Pa_init_0 rfl ?_
  refine x_objInit C (u_78 E.1) (u_29 E.1) (u_30 E.1) d_Pa_init_1 (nle rfl) (nle rfl) ?_
  exact x_vret C d_Pa_init_4 (nle rfl) (nle rfl) ⟨rfl, rfl, rfl⟩
end
section
/-! chances, and the writer of bits -/
theorem iA_at {D : va_G} {cI : ClassId} {n q : Nat} {f g : Int → Int} {H : Heap} (e : ∀ j : Int, 0 ≤ j → j < (n : Int) → f j = g j) (h : va_at D vwCl (q, iA cI n f) H) : va_at D vwCl (q, iA cI n g) H := by
  have h1 : H[q]? = some (vp_cell cI (n, .inl (fun j : Nat => zI (f (j : Int))))) := h
  show H[q]? = some (vp_cell cI (n, .inl (fun j : Nat => zI (g (j : Int)))))
  rw [h1, vp_cell_i, vp_cell_i]
  congr 1
  unfold arrV
  congr 2
  funext j
  show Value.int (zI (f ((j.val : Nat) : Int))) = Value.int (zI (g ((j.val : Nat) : Int)))
  rw [e _ (by omega) (by have := j.isLt; omega)]
theorem XW.arr {s0 : State} {D : va_G} {p : Program} {l : Launch} {e : Env} {R : Room} {s : State} {m : MethodId} {args : Array Value} {below : List Frame} {meth : Method} {c : Code} {Q : State → Prop} {pc : Nat} {lv : List (Nat × Value)} {st : List Value} {h : AH} {K cells slots r n : Nat} {cI : ClassId} {f g : Int → Int} (ef : ∀ j : Int, 0 ≤ j → j < (n : Int) → f j = g j)
    (k : XW s0 D p l e R s m args below meth c Q pc lv st (a_up h r (iA cI n g)) K cells slots) : XW s0 D p l e R s m args below meth c Q pc lv st (a_up h r (iA cI n f)) K cells slots := by
  intro ls H locs P
  refine k ls H locs ⟨P.1, P.2.1, P.2.2.1, fun i x hx => ?_, P.2.2.2.2⟩
  by_cases ei : i = r
  · subst ei
    rw [a_up_s] at hx
    cases hx
    exact iA_at ef (P.2.2.2.1 i _ (a_up_s _ _ _))
  · rw [a_up_n ei] at hx
    exact P.2.2.2.1 i x (by rw [a_up_n ei]; exact hx)
def fillZ (f : Int → Int) (v i : Int) : Int → Int := fun j => if 0 ≤ j ∧ j < i then v else f j
theorem fillZ_up (f : Int → Int) (v : Int) {i : Int} (h : 0 ≤ i) : zup (fillZ f v i) i v = fillZ f v (i + 1) := by
  funext j
  unfold zup fillZ
  by_cases e : j = i
  · rw [if_pos e, if_pos (by omega)]
  · rw [if_neg e]
    by_cases e2 : 0 ≤ j ∧ j < i
    · rw [if_pos e2, if_pos (by omega)]
    · rw [if_neg e2, if_neg (by omega)]
set_option maxRecDepth 100000 in
set_option maxHeartbeats 4000000 in
theorem lp_Ar_fill {a0 : Array Value} {s0 : State} {D : va_G} {cI cL : ClassId} (l : Launch) (E : a_E a0 s0 D cI cL) {p : Program} {e : Env} {R : Room} {s : State} {m : MethodId} {args : Array Value} {below : List Frame} {meth : Method} {c : Code} (C : XC s0 D cI cL p s m meth c "java/util/Arrays" prog_23_method_103_code 4 none []) {h : AH} {K r N : Nat} {f : Int → Int} (hN : (N : Int) < 100000) (v : Int) : ∀ (t : Nat) (i : Int), (N : Int) - i = (t : Int) → 0 ≤ i → XW s0 D p l e R s m args below meth c (XQ s0 D 0 0 (PR none (a_up h r (iA cI N (fun _ => v))) K) below s) 5 [(0, .ref (s0.heap.size + r)), (1, .int (zI v)), (2, .int (zI i)), (3, .int (zI (N : Int)))] [] (a_up h r (iA cI N (fillZ f v i))) K 0 0 := by
  intro t
  induction t with
  | zero =>
    intro i hi h0
    refine x_iload_n C d_Ar_fill_5 rfl ?_
    refine x_iload_n C d_Ar_fill_6 rfl ?_
    refine x_icmp_ge C (tgt := 20) d_Ar_fill_7 (by decide) (by omega) (by omega) (by omega) (by omega) (fun c7 => ?_) (fun c7 => ?_)
    · refine XW.arr (g := fun _ => v) (fun j j1 j2 => if_pos ⟨j1, by omega⟩) ?_
      exact x_vret C d_Ar_fill_20 (nle rfl) (nle rfl) ⟨rfl, rfl, rfl⟩
    · exfalso; omega
  | succ t ih =>
    intro i hi h0
    refine x_iload_n C d_Ar_fill_5 rfl ?_
    refine x_iload_n C d_Ar_fill_6 rfl ?_
    refine x_icmp_ge C (tgt := 20) d_Ar_fill_7 (by decide) (by omega) (by omega) (by omega) (by omega) (fun c7 => ?_) (fun c7 => ?_)
    · exfalso; omega
    · refine x_aload_n C d_Ar_fill_10 rfl ?_
      refine x_iload_n C d_Ar_fill_11 rfl ?_
      refine x_iload_n C d_Ar_fill_12 rfl ?_
      refine x_iast C d_Ar_fill_13 (a_up_s _ _ _) (by omega) (by omega) (by omega) ?_
      refine x_iinc C d_Ar_fill_14 (by decide) rfl ?_
      refine x_goto C (tgt := 5) d_Ar_fill_17 (by decide) ?_
      rw [a_up_up, fillZ_up f v h0]
      refine XW.loc (lv' := [(0, .ref (s0.heap.size + r)), (1, .int (zI v)), (2, .int (zI (i + 1))), (3, .int (zI (N : Int)))]) ⟨rfl, rfl, rfl, rfl, trivial⟩ ?_
      exact ih (i + 1) (by omega) (by omega)
set_option maxRecDepth 100000 in
set_option maxHeartbeats 4000000 in
theorem c_Ar_fill {a0 : Array Value} {s0 : State} {D : va_G} {cI cL : ClassId} (l : Launch) (E : a_E a0 s0 D cI cL) {h : AH} {K r N : Nat} {f : Int → Int} (hr : h r = some (iA cI N f)) (hN : (N : Int) < 100000) {v : Int} : XM l s0 D y_Ar_fill prog_23_method_103_code 4 none 0 0 0 [.ref (s0.heap.size + r), .int (zI v)] (h) (K) (PR none (a_up h r (iA cI N (fun _ => v))) K) := by
  refine XM.of (cI := cI) (cL := cL) (own := "java/util/Arrays") (by decide) rfl E.2 (nle rfl) ?_
  intro p e s m below meth c C hn
  refine x_iconst C d_Ar_fill_0 ?_
  refine x_istore_n C d_Ar_fill_1 (by decide) ?_
  refine x_aload_n C d_Ar_fill_2 rfl ?_
  refine x_alen C d_Ar_fill_3 hr ?_
  refine x_istore_n C d_Ar_fill_4 (by decide) ?_
  have e0 : fillZ f v 0 = f := by funext j; unfold fillZ; rw [if_neg (by omega)]
  refine XW.heq (h' := a_up h r (iA cI N (fillZ f v 0))) (by rw [e0]; exact (a_up_id hr).symm) ?_
  refine XW.loc (lv' := [(0, .ref (s0.heap.size + r)), (1, .int (zI v)), (2, .int (zI 0)), (3, .int (zI (N : Int)))]) ⟨rfl, rfl, rfl, rfl, trivial⟩ ?_
  exact lp_Ar_fill l E C hN v N 0 (by omega) (by omega)

abbrev oCh (b r : Nat) : va_E := .inr (1, [.ref (b + r)])
set_option maxRecDepth 100000 in
set_option maxHeartbeats 4000000 in
theorem c_Ch_forget {a0 : Array Value} {s0 : State} {D : va_G} {cI cL : ClassId} (l : Launch) (E : a_E a0 s0 D cI cL) {h : AH} {K a r : Nat} {f : Int → Int} (ha : h a = some (oCh s0.heap.size r)) (hr : h r = some (iA cI 3820 f)) : XM l s0 D y_Ch_forget prog_3_method_2_code 1 none 1 0 0 [.ref (s0.heap.size + a)] (h) (K) (PR none (a_up h r (iA cI 3820 (fun _ => 1024))) K) := by
  refine XM.of (cI := cI) (cL := cL) (own := "NarrowingPacker$Chances") (by decide) rfl E.2 (nle rfl) ?_
  intro p e s m below meth c C hn
  refine x_aload_n C d_Ch_forget_0 rfl ?_
  refine x_get C (G_Ch E.1) 0 (u_183 E.1) d_Ch_forget_1 (by decide) ha rfl ?_
  refine x_sipush C d_Ch_forget_4 (by decide) ?_
  refine x_callSR C (u_379 E.1) (u_365 E.1) (u_366 E.1) (u_14 E.1) d_Ch_forget_7 (c_Ar_fill l E hr (by decide)) nh_Ar_fill ln_Ar_fill rfl (nle rfl) (nle rfl) (nle rfl) (nle rfl) (nle rfl) ?_
  exact x_vret C d_Ch_forget_10 (nle rfl) (nle rfl) ⟨rfl, rfl, rfl⟩

set_option maxRecDepth 100000 in
set_option maxHeartbeats 4000000 in
theorem c_Ch_boundIn {a0 : Array Value} {s0 : State} {D : va_G} {cI cL : ClassId} (l : Launch) (E : a_E a0 s0 D cI cL) {h : AH} {K a r : Nat} {f : Int → Int} (ha : h a = some (oCh s0.heap.size r)) (hr : h r = some (iA cI 3820 f)) {pl : Int} (p1 : 0 ≤ pl) (p2 : pl < 3820) (fb : 0 ≤ f pl ∧ f pl ≤ 2048) {rg : Int} (g1 : 0 ≤ rg) (g2 : rg < 4294967296) : XM l s0 D y_Ch_boundIn prog_3_method_3_code 4 (some .long) 0 0 0 [.ref (s0.heap.size + a), .long (zL rg), .int (zI pl)] (h) (K) (PR (some (.long (zL (rg / 2048 * f pl)))) h K) := by
  refine XM.of (cI := cI) (cL := cL) (own := "NarrowingPacker$Chances") (by decide) rfl E.2 (nle rfl) ?_
  intro p e s m below meth c C hn
  refine x_lload_n C d_Ch_boundIn_0 rfl ?_
  refine x_bipush C d_Ch_boundIn_1 (by decide) ?_
  refine x_lshr C (q := 2048) 11 d_Ch_boundIn_3 rfl rfl (by decide) (by omega) (by omega) ?_
  refine x_aload_n C d_Ch_boundIn_4 rfl ?_
  refine x_get C (G_Ch E.1) 0 (u_183 E.1) d_Ch_boundIn_5 (by decide) ha rfl ?_
  refine x_iload_n C d_Ch_boundIn_8 rfl ?_
  refine x_iald C d_Ch_boundIn_9 hr (by omega) (by omega) (by omega) ?_
  refine x_i2l C d_Ch_boundIn_10 (by omega) (by omega) ?_
  refine x_lmul C d_Ch_boundIn_11 ?_
  exact x_lret C d_Ch_boundIn_12 (nle rfl) (nle rfl) ⟨rfl, rfl, rfl⟩

set_option maxRecDepth 100000 in
set_option maxHeartbeats 4000000 in
theorem c_Ch_learn {a0 : Array Value} {s0 : State} {D : va_G} {cI cL : ClassId} (l : Launch) (E : a_E a0 s0 D cI cL) {h : AH} {K a r : Nat} {f : Int → Int} (ha : h a = some (oCh s0.heap.size r)) (hr : h r = some (iA cI 3820 f)) {pl : Int} (p1 : 0 ≤ pl) (p2 : pl < 3820) (fb : 0 ≤ f pl ∧ f pl ≤ 2048) {bit : Int} (bb : bit = 0 ∨ bit = 1) : XM l s0 D y_Ch_learn prog_3_method_4_code 4 none 0 0 0 [.ref (s0.heap.size + a), .int (zI pl), .int (zI bit)] (h) (K) (PR none (a_up h r (iA cI 3820 (zup f pl (learnZ (f pl) bit)))) K) := by
  refine XM.of (cI := cI) (cL := cL) (own := "NarrowingPacker$Chances") (by decide) rfl E.2 (nle rfl) ?_
  intro p e s m below meth c C hn
  refine x_aload_n C d_Ch_learn_0 rfl ?_
  refine x_get C (G_Ch E.1) 0 (u_183 E.1) d_Ch_learn_1 (by decide) ha rfl ?_
  refine x_iload_n C d_Ch_learn_4 rfl ?_
  refine x_iald C d_Ch_learn_5 hr (by omega) (by omega) (by omega) ?_
  refine x_istore_n C d_Ch_learn_6 (by decide) ?_
  refine x_aload_n C d_Ch_learn_7 rfl ?_
  refine x_get C (G_Ch E.1) 0 (u_183 E.1) d_Ch_learn_8 (by decide) ha rfl ?_
  refine x_iload_n C d_Ch_learn_11 rfl ?_
  refine x_iload_n C d_Ch_learn_12 rfl ?_
  refine x_if_ne C (tgt := 28) d_Ch_learn_13 (by decide) (by omega) (by omega) (fun c13 => ?_) (fun c13 => ?_)
  · refine x_iload_n C d_Ch_learn_28 rfl ?_
    refine x_iload_n C d_Ch_learn_29 rfl ?_
    refine x_iconst C d_Ch_learn_30 ?_
    refine x_ishr C (q := 32) 5 d_Ch_learn_31 rfl rfl (by decide) (by omega) (by omega) ?_
    refine x_isub C d_Ch_learn_32 ?_
    refine x_iast C d_Ch_learn_33 hr (by omega) (by omega) (by omega) ?_
    exact x_vret C d_Ch_learn_34 (nle rfl) (nle rfl) ⟨rfl, by unfold learnZ; split <;> first | rfl | (exfalso; omega), rfl⟩
  · refine x_iload_n C d_Ch_learn_16 rfl ?_
    refine x_sipush C d_Ch_learn_17 (by decide) ?_
    refine x_iload_n C d_Ch_learn_20 rfl ?_
    refine x_isub C d_Ch_learn_21 ?_
    refine x_iconst C d_Ch_learn_22 ?_
    refine x_ishr C (q := 32) 5 d_Ch_learn_23 rfl rfl (by decide) (by omega) (by omega) ?_
    refine x_iadd C d_Ch_learn_24 ?_
    refine x_goto C (tgt := 33) d_Ch_learn_25 (by decide) ?_
    refine x_iast C d_Ch_learn_33 hr (by omega) (by omega) (by omega) ?_
    exact x_vret C d_Ch_learn_34 (nle rfl) (nle rfl) ⟨rfl, by unfold learnZ; split <;> first | rfl | (exfalso; omega), rfl⟩
end
section
/-! the writer of bits: its object at 23, its chances at 24 and 25, its digits at 26 -/
abbrev oNa (b : Nat) (len rg : Int) : va_E := .inr (5, [.ref (b + 24), .ref (b + 26), .int (zI len), .long (zL rg)])
def sN (b : Nat) (cI : ClassId) (h : AH) (x : En) : AH := a_up (a_up (a_up h 25 (iA cI 3820 x.1)) 26 (iA cI 200 x.2.1)) 23 (oNa b x.2.2.1 x.2.2.2)
theorem moreZ_1 {r : Int} (h : r < 16777216) : moreZ r = 1 := if_pos h
theorem moreZ_0 {r : Int} (h : 16777216 ≤ r) : moreZ r = 0 := if_neg (by omega)
theorem shiftZ_1 {r : Int} (h : r < 16777216) : shiftZ r = r * 256 := if_pos h
theorem shiftZ_0 {r : Int} (h : 16777216 ≤ r) : shiftZ r = r := if_neg (by omega)
theorem eBit0 (x : En) (a : Int) : eBit x a 0 = (zup x.1 a (learnZ (x.1 a) 0), x.2.1, x.2.2.1 + moreZ (x.2.2.2 / 2048 * x.1 a), shiftZ (x.2.2.2 / 2048 * x.1 a)) := by
  unfold eBit
  rw [if_pos rfl, if_pos rfl]
theorem eBit1 (x : En) (a : Int) (hl : x.2.2.1 ≤ 200) : eBit x a 1 = (zup x.1 a (learnZ (x.1 a) 1), raiseZ x.2.2.1.toNat (x.2.2.2 / 2048 * x.1 a) x.2.1, x.2.2.1 + moreZ (x.2.2.2 - x.2.2.2 / 2048 * x.1 a), shiftZ (x.2.2.2 - x.2.2.2 / 2048 * x.1 a)) := by
  simp only [eBit, if_neg (show ¬ (1 : Int) = 0 by decide), if_neg (show ¬ 200 < x.2.2.1 by omega)]
theorem eBit1' (x : En) (a : Int) (hl : 200 < x.2.2.1) : eBit x a 1 = (zup x.1 a (learnZ (x.1 a) 1), x.2.1, x.2.2.1 + moreZ (x.2.2.2 - x.2.2.2 / 2048 * x.1 a), shiftZ (x.2.2.2 - x.2.2.2 / 2048 * x.1 a)) := by
  simp only [eBit, if_neg (show ¬ (1 : Int) = 0 by decide), if_pos hl]
theorem sN_eq {b : Nat} {cI : ClassId} {h h1 : AH} {x : En} (e1 : h1 25 = some (iA cI 3820 x.1)) (e2 : h1 26 = some (iA cI 200 x.2.1)) (e3 : h1 23 = some (oNa b x.2.2.1 x.2.2.2)) (o : ∀ q, q ≠ 25 → q ≠ 26 → q ≠ 23 → h1 q = h q) : h1 = sN b cI h x :=
  a_eq3 25 26 23 e1 e2 e3 (fun q q1 q2 q3 => by rw [o q q1 q2 q3]; unfold sN; rw [a_up_n q3, a_up_n q2, a_up_n q1])
theorem sN_sN (b : Nat) (cI : ClassId) (h : AH) (x y : En) : sN b cI (sN b cI h x) y = sN b cI h y :=
  sN_eq rfl rfl rfl (fun q q1 q2 q3 => by unfold sN; rw [a_up_n q3, a_up_n q2, a_up_n q1, a_up_n q3, a_up_n q2, a_up_n q1])
set_option maxRecDepth 100000 in
set_option maxHeartbeats 4000000 in
theorem lp_Na_raiseLow {a0 : Array Value} {s0 : State} {D : va_G} {cI cL : ClassId} (l : Launch) (E : a_E a0 s0 D cI cL) {p : Program} {e : Env} {R : Room} {s : State} {m : MethodId} {args : Array Value} {below : List Frame} {meth : Method} {c : Code} (C : XC s0 D cI cL p s m meth c "NarrowingPacker$Narrower" prog_7_method_7_code 6 none []) {h : AH} {K : Nat} {len rg : Int} (h23 : h 23 = some (oNa s0.heap.size len rg)) {G : Int → Int} : ∀ (k : Nat) (cy : Int) (g : Int → Int), k ≤ 200 → 0 ≤ cy → cy < 8589934592 → (∀ j, 0 ≤ g j ∧ g j < 256) → raiseZ k cy g = G → XW s0 D p l e R s m args below meth c (XQ s0 D 0 0 (PR none (a_up h 26 (iA cI 200 G)) K) below s) 21 [(0, .ref (s0.heap.size + 23)), (3, .long (zL cy)), (5, .int (zI ((k : Nat) - 1 : Int)))] [] (a_up h 26 (iA cI 200 g)) K 0 0 := by
  intro k
  induction k with
  | zero =>
    intro cy g hk c1 c2 hg hG
    have hG : g = G := hG
    subst hG
    refine x_iload C d_Na_raiseLow_21 rfl ?_
    refine x_if_lt C (tgt := 67) d_Na_raiseLow_23 (by decide) (by omega) (by omega) (fun c23 => ?_) (fun c23 => ?_)
    · exact x_vret C d_Na_raiseLow_67 (nle rfl) (nle rfl) ⟨rfl, rfl, rfl⟩
    · exfalso; omega
  | succ k ih =>
    intro cy g hk c1 c2 hg hG
    rw [show (((k + 1 : Nat) : Int) - 1) = (k : Int) by omega]
    have hgk := hg (k : Int)
    unfold raiseZ at hG
    refine x_iload C d_Na_raiseLow_21 rfl ?_
    refine x_if_lt C (tgt := 67) d_Na_raiseLow_23 (by decide) (by omega) (by omega) (fun c23 => ?_) (fun c23 => ?_)
    · first
        | (exfalso; omega)
        | (rw [if_neg (by omega)] at hG; subst hG; exact x_vret C d_Na_raiseLow_67 (nle rfl) (nle rfl) ⟨rfl, rfl, rfl⟩)
    · refine x_lload_n C d_Na_raiseLow_26 rfl ?_
      refine x_lconst C d_Na_raiseLow_27 rfl ?_
      refine x_lcmp C d_Na_raiseLow_28 ?_
      refine x_lif_le C (tgt := 67) d_Na_raiseLow_29 (by decide) (by omega) (by omega) (by omega) (by omega) (fun c29 => ?_) (fun c29 => ?_)
      · first
          | (exfalso; omega)
          | (rw [if_neg (by omega)] at hG; subst hG; exact x_vret C d_Na_raiseLow_67 (nle rfl) (nle rfl) ⟨rfl, rfl, rfl⟩)
      · refine x_lload_n C d_Na_raiseLow_32 rfl ?_
        refine x_aload_n C d_Na_raiseLow_33 rfl ?_
        refine x_get C (G_Na E.1) 1 (u_190 E.1) d_Na_raiseLow_34 (by decide) (by rw [a_up_n (by decide)]; exact h23) rfl ?_
        refine x_iload C d_Na_raiseLow_37 rfl ?_
        refine x_iald C d_Na_raiseLow_39 (a_up_s _ _ _) (by omega) (by omega) (by omega) ?_
        refine x_i2l C d_Na_raiseLow_40 (by omega) (by omega) ?_
        refine x_ladd C d_Na_raiseLow_41 ?_
        refine x_lstore_n C d_Na_raiseLow_42 (by decide) ?_
        refine x_aload_n C d_Na_raiseLow_43 rfl ?_
        refine x_get C (G_Na E.1) 1 (u_190 E.1) d_Na_raiseLow_44 (by decide) (by rw [a_up_n (by decide)]; exact h23) rfl ?_
        refine x_iload C d_Na_raiseLow_47 rfl ?_
        refine x_lload_n C d_Na_raiseLow_49 rfl ?_
        refine x_ldc2 C (v := 255) (u_438 E.1) d_Na_raiseLow_50 ?_
        refine x_land255 C d_Na_raiseLow_53 ?_
        refine x_l2i C d_Na_raiseLow_54 ?_
        refine x_iast C d_Na_raiseLow_55 (a_up_s _ _ _) (by omega) (by omega) (by omega) ?_
        refine x_lload_n C d_Na_raiseLow_56 rfl ?_
        refine x_bipush C d_Na_raiseLow_57 (by decide) ?_
        refine x_lshr C (q := 256) 8 d_Na_raiseLow_59 rfl rfl (by decide) (by omega) (by omega) ?_
        refine x_lstore_n C d_Na_raiseLow_60 (by decide) ?_
        refine x_iinc C d_Na_raiseLow_61 (by decide) rfl ?_
        refine x_goto C (tgt := 21) d_Na_raiseLow_64 (by decide) ?_
        rw [if_pos (by omega)] at hG
        rw [a_up_up]
        refine XW.loc (lv' := [(0, .ref (s0.heap.size + 23)), (3, .long (zL ((cy + g k) / 256))), (5, .int (zI ((k : Nat) - 1 : Int)))]) ⟨rfl, rfl, by rw [show ((k : Nat) - 1 : Int) = (k : Int) + -1 by omega]; rfl, trivial⟩ ?_
        exact ih _ _ (by omega) (by omega) (by omega) (zup_all (Q := fun z => 0 ≤ z ∧ z < 256) hg (by omega)) hG
set_option maxRecDepth 100000 in
set_option maxHeartbeats 4000000 in
theorem c_Na_raiseLow {a0 : Array Value} {s0 : State} {D : va_G} {cI cL : ClassId} (l : Launch) (E : a_E a0 s0 D cI cL) {h : AH} {K : Nat} {len rg : Int} (h23 : h 23 = some (oNa s0.heap.size len rg)) {g : Int → Int} (h26 : h 26 = some (iA cI 200 g)) (hg : ∀ j, 0 ≤ g j ∧ g j < 256) {bd : Int} (b1 : 0 ≤ bd) (b2 : bd < 8589934592) (l1 : 4 ≤ len) (l2 : len ≤ 200) : XM l s0 D y_Na_raiseLow prog_7_method_7_code 6 none 0 0 0 [.ref (s0.heap.size + 23), .long (zL bd)] (h) (K) (PR none (a_up h 26 (iA cI 200 (raiseZ len.toNat bd g))) K) := by
  refine XM.of (cI := cI) (cL := cL) (own := "NarrowingPacker$Narrower") (by decide) rfl E.2 (nle rfl) ?_
  intro p e s m below meth c C hn
  refine x_aload_n C d_Na_raiseLow_0 rfl ?_
  refine x_get C (G_Na E.1) 2 (u_192 E.1) d_Na_raiseLow_1 (by decide) h23 rfl ?_
  refine x_sipush C d_Na_raiseLow_4 (by decide) ?_
  refine x_icmp_le C (tgt := 11) d_Na_raiseLow_7 (by decide) (by omega) (by omega) (by omega) (by omega) (fun c7 => ?_) (fun c7 => ?_)
  · refine x_lload_n C d_Na_raiseLow_11 rfl ?_
    refine x_lstore_n C d_Na_raiseLow_12 (by decide) ?_
    refine x_aload_n C d_Na_raiseLow_13 rfl ?_
    refine x_get C (G_Na E.1) 2 (u_192 E.1) d_Na_raiseLow_14 (by decide) h23 rfl ?_
    refine x_iconst C d_Na_raiseLow_17 ?_
    refine x_isub C d_Na_raiseLow_18 ?_
    refine x_istore C d_Na_raiseLow_19 (by decide) ?_
    refine XW.heq (h' := a_up h 26 (iA cI 200 g)) (a_up_id h26).symm ?_
    have el : (len.toNat : Int) = len := by omega
    refine XW.loc (lv' := [(0, .ref (s0.heap.size + 23)), (3, .long (zL bd)), (5, .int (zI ((len.toNat : Nat) - 1 : Int)))]) ⟨rfl, rfl, by rw [el]; rfl, trivial⟩ ?_
    exact lp_Na_raiseLow l E C h23 _ _ _ (by omega) b1 b2 hg rfl
  · exfalso; omega

set_option maxRecDepth 100000 in
set_option maxHeartbeats 4000000 in
theorem c_Na_raiseLow0 {a0 : Array Value} {s0 : State} {D : va_G} {cI cL : ClassId} (l : Launch) (E : a_E a0 s0 D cI cL) {h : AH} {K : Nat} {len rg : Int} (h23 : h 23 = some (oNa s0.heap.size len rg)) {bd : Int} (l2 : 200 < len) (l3 : len < 100000) : XM l s0 D y_Na_raiseLow prog_7_method_7_code 6 none 0 0 0 [.ref (s0.heap.size + 23), .long (zL bd)] (h) (K) (PR none h K) := by
  refine XM.of (cI := cI) (cL := cL) (own := "NarrowingPacker$Narrower") (by decide) rfl E.2 (nle rfl) ?_
  intro p e s m below meth c C hn
  refine x_aload_n C d_Na_raiseLow_0 rfl ?_
  refine x_get C (G_Na E.1) 2 (u_192 E.1) d_Na_raiseLow_1 (by decide) h23 rfl ?_
  refine x_sipush C d_Na_raiseLow_4 (by decide) ?_
  refine x_icmp_le C (tgt := 11) d_Na_raiseLow_7 (by decide) (by omega) (by omega) (by omega) (by omega) (fun c7 => ?_) (fun c7 => ?_)
  · exfalso; omega
  · exact x_vret C d_Na_raiseLow_10 (nle rfl) (nle rfl) ⟨rfl, rfl, rfl⟩
end
section
/-! the writer of bits: a bit, a tree, a row -/
set_option maxRecDepth 100000 in
set_option maxHeartbeats 4000000 in
theorem c_Na_writeBit {a0 : Array Value} {s0 : State} {D : va_G} {cI cL : ClassId} (l : Launch) (E : a_E a0 s0 D cI cL) {h : AH} {K : Nat} {x : En} (h24 : h 24 = some (oCh s0.heap.size 25)) (ok : eOk x) (lx : x.2.2.1 < 100000) {pl bit : Int} (p1 : 0 ≤ pl) (p2 : pl < 3820) (bb : bit = 0 ∨ bit = 1) : XM l s0 D y_Na_writeBit prog_7_method_4_code 5 none 1 0 0 [.ref (s0.heap.size + 23), .int (zI pl), .int (zI bit)] (sN s0.heap.size cI h x) (K) (PR none (sN s0.heap.size cI h (eBit x pl bit)) K) := by
  refine XM.of (cI := cI) (cL := cL) (own := "NarrowingPacker$Narrower") (by decide) rfl E.2 (nle rfl) ?_
  intro p e s m below meth c C hn
  obtain ⟨k1, k2, k3, k4, k5, k6⟩ := ok
  have fp := k1 pl
  have hbd := bd_le k5 fp.1 fp.2
  rcases bb with rfl | rfl
  · refine x_aload_n C d_Na_writeBit_0 rfl ?_
    refine x_get C (G_Na E.1) 0 (u_188 E.1) d_Na_writeBit_1 (by decide) rfl rfl ?_
    refine x_aload_n C d_Na_writeBit_4 rfl ?_
    refine x_get C (G_Na E.1) 3 (u_194 E.1) d_Na_writeBit_5 (by decide) rfl rfl ?_
    refine x_iload_n C d_Na_writeBit_8 rfl ?_
    refine x_callVR C (G_Ch E.1) (u_430 E.1) (u_431 E.1) (u_432 E.1) (u_433 E.1) (u_10 E.1) d_Na_writeBit_9 (c_Ch_boundIn l E (by exact h24) (by rfl) p1 p2 (by exact fp) k5 k6) nh_Ch_boundIn ln_Ch_boundIn rfl (by exact h24) (nle rfl) (nle rfl) (nle rfl) (nle rfl) (nle rfl) ?_
    refine x_lstore_n C d_Na_writeBit_12 (by decide) ?_
    refine x_iload_n C d_Na_writeBit_13 rfl ?_
    refine x_if_ne C (tgt := 25) d_Na_writeBit_14 (by decide) (by omega) (by omega) (fun c14 => ?_) (fun c14 => ?_)
    · exfalso; omega
    · refine x_aload_n C d_Na_writeBit_17 rfl ?_
      refine x_lload_n C d_Na_writeBit_18 rfl ?_
      refine x_put C (G_Na E.1) 3 (u_194 E.1) d_Na_writeBit_19 (by decide) rfl rfl rfl rfl (nle rfl) ?_
      refine x_goto C (tgt := 40) d_Na_writeBit_22 (by decide) ?_
      refine x_aload_n C d_Na_writeBit_40 rfl ?_
      refine x_get C (G_Na E.1) 0 (u_188 E.1) d_Na_writeBit_41 (by decide) rfl rfl ?_
      refine x_iload_n C d_Na_writeBit_44 rfl ?_
      refine x_iload_n C d_Na_writeBit_45 rfl ?_
      refine x_callVR C (G_Ch E.1) (u_439 E.1) (u_440 E.1) (u_441 E.1) (u_442 E.1) (u_10 E.1) d_Na_writeBit_46 (c_Ch_learn l E (by exact h24) (by rfl) p1 p2 (by exact fp) (by omega)) nh_Ch_learn ln_Ch_learn rfl (by exact h24) (nle rfl) (nle rfl) (nle rfl) (nle rfl) (nle rfl) ?_
      refine x_aload_n C d_Na_writeBit_49 rfl ?_
      refine x_get C (G_Na E.1) 3 (u_194 E.1) d_Na_writeBit_50 (by decide) rfl rfl ?_
      refine x_ldc2 C (v := 16777216) (u_443 E.1) d_Na_writeBit_53 ?_
      refine x_lcmp C d_Na_writeBit_56 ?_
      refine x_lif_ge C (tgt := 81) d_Na_writeBit_57 (by decide) (by omega) (by omega) (by omega) (by omega) (fun c57 => ?_) (fun c57 => ?_)
      · exact x_vret C d_Na_writeBit_81 (nle rfl) (nle rfl) ⟨rfl, by
          rw [eBit0]
          refine sN_eq rfl rfl ?_ (fun q q1 q2 q3 => by simp only [sN, a_up_n q1, a_up_n q2, a_up_n q3])
          first
            | (rw [moreZ_1 c57, shiftZ_1 c57]; rfl)
            | (rw [moreZ_0 c57, shiftZ_0 c57, Int.add_zero]; rfl), rfl⟩
      · refine x_aload_n C d_Na_writeBit_60 rfl ?_
        refine x_dup C d_Na_writeBit_61 rfl ?_
        refine x_get C (G_Na E.1) 3 (u_194 E.1) d_Na_writeBit_62 (by decide) rfl rfl ?_
        refine x_bipush C d_Na_writeBit_65 (by decide) ?_
        refine x_lshl C (q := 256) 8 d_Na_writeBit_67 rfl rfl (by decide) ?_
        refine x_put C (G_Na E.1) 3 (u_194 E.1) d_Na_writeBit_68 (by decide) rfl rfl rfl rfl (nle rfl) ?_
        refine x_aload_n C d_Na_writeBit_71 rfl ?_
        refine x_dup C d_Na_writeBit_72 rfl ?_
        refine x_get C (G_Na E.1) 2 (u_192 E.1) d_Na_writeBit_73 (by decide) rfl rfl ?_
        refine x_iconst C d_Na_writeBit_76 ?_
        refine x_iadd C d_Na_writeBit_77 ?_
        refine x_put C (G_Na E.1) 2 (u_192 E.1) d_Na_writeBit_78 (by decide) rfl rfl rfl rfl (nle rfl) ?_
        exact x_vret C d_Na_writeBit_81 (nle rfl) (nle rfl) ⟨rfl, by
          rw [eBit0]
          refine sN_eq rfl rfl ?_ (fun q q1 q2 q3 => by simp only [sN, a_up_n q1, a_up_n q2, a_up_n q3])
          first
            | (rw [moreZ_1 c57, shiftZ_1 c57]; rfl)
            | (rw [moreZ_0 c57, shiftZ_0 c57, Int.add_zero]; rfl), rfl⟩
  · by_cases hl : x.2.2.1 ≤ 200
    · refine x_aload_n C d_Na_writeBit_0 rfl ?_
      refine x_get C (G_Na E.1) 0 (u_188 E.1) d_Na_writeBit_1 (by decide) rfl rfl ?_
      refine x_aload_n C d_Na_writeBit_4 rfl ?_
      refine x_get C (G_Na E.1) 3 (u_194 E.1) d_Na_writeBit_5 (by decide) rfl rfl ?_
      refine x_iload_n C d_Na_writeBit_8 rfl ?_
      refine x_callVR C (G_Ch E.1) (u_430 E.1) (u_431 E.1) (u_432 E.1) (u_433 E.1) (u_10 E.1) d_Na_writeBit_9 (c_Ch_boundIn l E (by exact h24) (by rfl) p1 p2 (by exact fp) k5 k6) nh_Ch_boundIn ln_Ch_boundIn rfl (by exact h24) (nle rfl) (nle rfl) (nle rfl) (nle rfl) (nle rfl) ?_
      refine x_lstore_n C d_Na_writeBit_12 (by decide) ?_
      refine x_iload_n C d_Na_writeBit_13 rfl ?_
      refine x_if_ne C (tgt := 25) d_Na_writeBit_14 (by decide) (by omega) (by omega) (fun c14 => ?_) (fun c14 => ?_)
      · refine x_aload_n C d_Na_writeBit_25 rfl ?_
        refine x_lload_n C d_Na_writeBit_26 rfl ?_
        refine x_callVR C (G_Na E.1) (u_434 E.1) (u_436 E.1) (us_4 E.1) (u_437 E.1) (u_9 E.1) d_Na_writeBit_27 (c_Na_raiseLow l E (by rfl) (by rfl) (by exact k2) (by omega) (by omega) (by omega) (by omega)) nh_Na_raiseLow ln_Na_raiseLow rfl rfl (nle rfl) (nle rfl) (nle rfl) (nle rfl) (nle rfl) ?_
        refine x_aload_n C d_Na_writeBit_30 rfl ?_
        refine x_dup C d_Na_writeBit_31 rfl ?_
        refine x_get C (G_Na E.1) 3 (u_194 E.1) d_Na_writeBit_32 (by decide) rfl rfl ?_
        refine x_lload_n C d_Na_writeBit_35 rfl ?_
        refine x_lsub C d_Na_writeBit_36 ?_
        refine x_put C (G_Na E.1) 3 (u_194 E.1) d_Na_writeBit_37 (by decide) rfl rfl rfl rfl (nle rfl) ?_
        refine x_aload_n C d_Na_writeBit_40 rfl ?_
        refine x_get C (G_Na E.1) 0 (u_188 E.1) d_Na_writeBit_41 (by decide) rfl rfl ?_
        refine x_iload_n C d_Na_writeBit_44 rfl ?_
        refine x_iload_n C d_Na_writeBit_45 rfl ?_
        refine x_callVR C (G_Ch E.1) (u_439 E.1) (u_440 E.1) (u_441 E.1) (u_442 E.1) (u_10 E.1) d_Na_writeBit_46 (c_Ch_learn l E (by exact h24) (by rfl) p1 p2 (by exact fp) (by omega)) nh_Ch_learn ln_Ch_learn rfl (by exact h24) (nle rfl) (nle rfl) (nle rfl) (nle rfl) (nle rfl) ?_
        refine x_aload_n C d_Na_writeBit_49 rfl ?_
        refine x_get C (G_Na E.1) 3 (u_194 E.1) d_Na_writeBit_50 (by decide) rfl rfl ?_
        refine x_ldc2 C (v := 16777216) (u_443 E.1) d_Na_writeBit_53 ?_
        refine x_lcmp C d_Na_writeBit_56 ?_
        refine x_lif_ge C (tgt := 81) d_Na_writeBit_57 (by decide) (by omega) (by omega) (by omega) (by omega) (fun c57 => ?_) (fun c57 => ?_)
        · exact x_vret C d_Na_writeBit_81 (nle rfl) (nle rfl) ⟨rfl, by
            rw [eBit1 _ _ hl]
            refine sN_eq rfl rfl ?_ (fun q q1 q2 q3 => by simp only [sN, a_up_n q1, a_up_n q2, a_up_n q3])
            first
              | (rw [moreZ_1 c57, shiftZ_1 c57]; rfl)
              | (rw [moreZ_0 c57, shiftZ_0 c57, Int.add_zero]; rfl), rfl⟩
        · refine x_aload_n C d_Na_writeBit_60 rfl ?_
          refine x_dup C d_Na_writeBit_61 rfl ?_
          refine x_get C (G_Na E.1) 3 (u_194 E.1) d_Na_writeBit_62 (by decide) rfl rfl ?_
          refine x_bipush C d_Na_writeBit_65 (by decide) ?_
          refine x_lshl C (q := 256) 8 d_Na_writeBit_67 rfl rfl (by decide) ?_
          refine x_put C (G_Na E.1) 3 (u_194 E.1) d_Na_writeBit_68 (by decide) rfl rfl rfl rfl (nle rfl) ?_
          refine x_aload_n C d_Na_writeBit_71 rfl ?_
          refine x_dup C d_Na_writeBit_72 rfl ?_
          refine x_get C (G_Na E.1) 2 (u_192 E.1) d_Na_writeBit_73 (by decide) rfl rfl ?_
          refine x_iconst C d_Na_writeBit_76 ?_
          refine x_iadd C d_Na_writeBit_77 ?_
          refine x_put C (G_Na E.1) 2 (u_192 E.1) d_Na_writeBit_78 (by decide) rfl rfl rfl rfl (nle rfl) ?_
          exact x_vret C d_Na_writeBit_81 (nle rfl) (nle rfl) ⟨rfl, by
            rw [eBit1 _ _ hl]
            refine sN_eq rfl rfl ?_ (fun q q1 q2 q3 => by simp only [sN, a_up_n q1, a_up_n q2, a_up_n q3])
            first
              | (rw [moreZ_1 c57, shiftZ_1 c57]; rfl)
              | (rw [moreZ_0 c57, shiftZ_0 c57, Int.add_zero]; rfl), rfl⟩
      · exfalso; omega
    · refine x_aload_n C d_Na_writeBit_0 rfl ?_
      refine x_get C (G_Na E.1) 0 (u_188 E.1) d_Na_writeBit_1 (by decide) rfl rfl ?_
      refine x_aload_n C d_Na_writeBit_4 rfl ?_
      refine x_get C (G_Na E.1) 3 (u_194 E.1) d_Na_writeBit_5 (by decide) rfl rfl ?_
      refine x_iload_n C d_Na_writeBit_8 rfl ?_
      refine x_callVR C (G_Ch E.1) (u_430 E.1) (u_431 E.1) (u_432 E.1) (u_433 E.1) (u_10 E.1) d_Na_writeBit_9 (c_Ch_boundIn l E (by exact h24) (by rfl) p1 p2 (by exact fp) k5 k6) nh_Ch_boundIn ln_Ch_boundIn rfl (by exact h24) (nle rfl) (nle rfl) (nle rfl) (nle rfl) (nle rfl) ?_
      refine x_lstore_n C d_Na_writeBit_12 (by decide) ?_
      refine x_iload_n C d_Na_writeBit_13 rfl ?_
      refine x_if_ne C (tgt := 25) d_Na_writeBit_14 (by decide) (by omega) (by omega) (fun c14 => ?_) (fun c14 => ?_)
      · refine x_aload_n C d_Na_writeBit_25 rfl ?_
        refine x_lload_n C d_Na_writeBit_26 rfl ?_
        refine x_callVR C (G_Na E.1) (u_434 E.1) (u_436 E.1) (us_4 E.1) (u_437 E.1) (u_9 E.1) d_Na_writeBit_27 (c_Na_raiseLow0 l E (by rfl) (by omega) (by omega)) nh_Na_raiseLow ln_Na_raiseLow rfl rfl (nle rfl) (nle rfl) (nle rfl) (nle rfl) (nle rfl) ?_
        refine x_aload_n C d_Na_writeBit_30 rfl ?_
        refine x_dup C d_Na_writeBit_31 rfl ?_
        refine x_get C (G_Na E.1) 3 (u_194 E.1) d_Na_writeBit_32 (by decide) rfl rfl ?_
        refine x_lload_n C d_Na_writeBit_35 rfl ?_
        refine x_lsub C d_Na_writeBit_36 ?_
        refine x_put C (G_Na E.1) 3 (u_194 E.1) d_Na_writeBit_37 (by decide) rfl rfl rfl rfl (nle rfl) ?_
        refine x_aload_n C d_Na_writeBit_40 rfl ?_
        refine x_get C (G_Na E.1) 0 (u_188 E.1) d_Na_writeBit_41 (by decide) rfl rfl ?_
        refine x_iload_n C d_Na_writeBit_44 rfl ?_
        refine x_iload_n C d_Na_writeBit_45 rfl ?_
        refine x_callVR C (G_Ch E.1) (u_439 E.1) (u_440 E.1) (u_441 E.1) (u_442 E.1) (u_10 E.1) d_Na_writeBit_46 (c_Ch_learn l E (by exact h24) (by rfl) p1 p2 (by exact fp) (by omega)) nh_Ch_learn ln_Ch_learn rfl (by exact h24) (nle rfl) (nle rfl) (nle rfl) (nle rfl) (nle rfl) ?_
        refine x_aload_n C d_Na_writeBit_49 rfl ?_
        refine x_get C (G_Na E.1) 3 (u_194 E.1) d_Na_writeBit_50 (by decide) rfl rfl ?_
        refine x_ldc2 C (v := 16777216) (u_443 E.1) d_Na_writeBit_53 ?_
        refine x_lcmp C d_Na_writeBit_56 ?_
        refine x_lif_ge C (tgt := 81) d_Na_writeBit_57 (by decide) (by omega) (by omega) (by omega) (by omega) (fun c57 => ?_) (fun c57 => ?_)
        · exact x_vret C d_Na_writeBit_81 (nle rfl) (nle rfl) ⟨rfl, by
            rw [eBit1' _ _ (by omega)]
            refine sN_eq rfl rfl ?_ (fun q q1 q2 q3 => by simp only [sN, a_up_n q1, a_up_n q2, a_up_n q3])
            first
              | (rw [moreZ_1 c57, shiftZ_1 c57]; rfl)
              | (rw [moreZ_0 c57, shiftZ_0 c57, Int.add_zero]; rfl), rfl⟩
        · refine x_aload_n C d_Na_writeBit_60 rfl ?_
          refine x_dup C d_Na_writeBit_61 rfl ?_
          refine x_get C (G_Na E.1) 3 (u_194 E.1) d_Na_writeBit_62 (by decide) rfl rfl ?_
          refine x_bipush C d_Na_writeBit_65 (by decide) ?_
          refine x_lshl C (q := 256) 8 d_Na_writeBit_67 rfl rfl (by decide) ?_
          refine x_put C (G_Na E.1) 3 (u_194 E.1) d_Na_writeBit_68 (by decide) rfl rfl rfl rfl (nle rfl) ?_
          refine x_aload_n C d_Na_writeBit_71 rfl ?_
          refine x_dup C d_Na_writeBit_72 rfl ?_
          refine x_get C (G_Na E.1) 2 (u_192 E.1) d_Na_writeBit_73 (by decide) rfl rfl ?_
          refine x_iconst C d_Na_writeBit_76 ?_
          refine x_iadd C d_Na_writeBit_77 ?_
          refine x_put C (G_Na E.1) 2 (u_192 E.1) d_Na_writeBit_78 (by decide) rfl rfl rfl rfl (nle rfl) ?_
          exact x_vret C d_Na_writeBit_81 (nle rfl) (nle rfl) ⟨rfl, by
            rw [eBit1' _ _ (by omega)]
            refine sN_eq rfl rfl ?_ (fun q q1 q2 q3 => by simp only [sN, a_up_n q1, a_up_n q2, a_up_n q3])
            first
              | (rw [moreZ_1 c57, shiftZ_1 c57]; rfl)
              | (rw [moreZ_0 c57, shiftZ_0 c57, Int.add_zero]; rfl), rfl⟩
      · exfalso; omega

theorem pow_a {k : Nat} {m B : Int} (h0 : 0 ≤ m) (h : (m + 1) * 2 ^ (k + 1) ≤ B) : 2 * (m + 1) ≤ B := by
  have h1 : (1 : Int) ≤ 2 ^ k := by
    have : (0 : Int) < 2 ^ k := Int.pow_pos (by decide)
    omega
  have h2 := Int.mul_le_mul_of_nonneg_left h1 (show 0 ≤ (m + 1) * 2 by omega)
  have e : (m + 1) * 2 ^ (k + 1) = (m + 1) * 2 * 2 ^ k := by rw [Int.pow_succ, Int.mul_comm (2 ^ k) 2, ← Int.mul_assoc]
  omega
theorem pow_b {k : Nat} {m b B : Int} (hb : b = 0 ∨ b = 1) (h : (m + 1) * 2 ^ (k + 1) ≤ B) : (2 * m + b + 1) * 2 ^ k ≤ B := by
  have h1 : (0 : Int) ≤ 2 ^ k := Int.le_of_lt (Int.pow_pos (by decide))
  have h2 := Int.mul_le_mul_of_nonneg_right (show 2 * m + b + 1 ≤ (m + 1) * 2 by omega) h1
  have e : (m + 1) * 2 ^ (k + 1) = (m + 1) * 2 * 2 ^ k := by rw [Int.pow_succ, Int.mul_comm (2 ^ k) 2, ← Int.mul_assoc]
  omega
set_option maxRecDepth 100000 in
set_option maxHeartbeats 4000000 in
theorem lp_Na_writeTree {a0 : Array Value} {s0 : State} {D : va_G} {cI cL : ClassId} (l : Launch) (E : a_E a0 s0 D cI cL) {p : Program} {e : Env} {R : Room} {s : State} {m : MethodId} {args : Array Value} {below : List Frame} {meth : Method} {c : Code} (C : XC s0 D cI cL p s m meth c "NarrowingPacker$Narrower" prog_7_method_5_code 7 none []) (hR : R = a_rm 2 0 0) {h : AH} {K : Nat} {pl v B : Int} (p1 : 0 ≤ pl) (hB : B ≤ 2 * (3820 - pl)) (v1 : 0 ≤ v) (v2 : v < 2147483648) (h24 : h 24 = some (oCh s0.heap.size 25)) {X : En} : ∀ (k : Nat) (mm : Int) (x : En), k ≤ 30 → 0 ≤ mm → (mm + 1) * 2 ^ k ≤ B → eOk x → x.2.2.1 + k < 100000 → eTree k pl v mm x = X → XW s0 D p l e R s m args below meth c (XQ s0 D 0 0 (PR none (sN s0.heap.size cI h X) K) below s) 8 [(0, .ref (s0.heap.size + 23)), (1, .int (zI pl)), (3, .int (zI v)), (4, .int (zI mm)), (5, .int (zI ((k : Nat) - 1 : Int)))] [] (sN s0.heap.size cI h x) K 0 0 := by
  subst hR
  intro k
  induction k with
  | zero =>
    intro mm x hk m0 mB ok lx hX
    have hX : x = X := hX
    subst hX
    refine x_iload C d_Na_writeTree_8 rfl ?_
    refine x_if_lt C (tgt := 46) d_Na_writeTree_10 (by decide) (by omega) (by omega) (fun c10 => ?_) (fun c10 => ?_)
    · exact x_vret C d_Na_writeTree_46 (nle rfl) (nle rfl) ⟨rfl, rfl, rfl⟩
    · exfalso; omega
  | succ k ih =>
    intro mm x hk m0 mB ok lx hX
    rw [show (((k + 1 : Nat) : Int) - 1) = (k : Int) by omega]
    have ha := pow_a m0 mB
    have hb := bitZ_01 v k
    refine x_iload C d_Na_writeTree_8 rfl ?_
    refine x_if_lt C (tgt := 46) d_Na_writeTree_10 (by decide) (by omega) (by omega) (fun c10 => ?_) (fun c10 => ?_)
    · exfalso; omega
    · refine x_iload_n C d_Na_writeTree_13 rfl ?_
      refine x_iload C d_Na_writeTree_14 rfl ?_
      refine x_ishr C (q := 2 ^ k) k d_Na_writeTree_16 rfl rfl (by omega) (by omega) (by omega) ?_
      refine x_iconst C d_Na_writeTree_17 ?_
      refine x_iand C d_Na_writeTree_18 (zI_and1 _) ?_
      show XW s0 D p l e (a_rm 2 0 0) s m args below meth c _ 19 _ (.int (zI (bitZ v k)) :: []) _ _ _ _
      refine x_istore C d_Na_writeTree_19 (by decide) ?_
      refine x_aload_n C d_Na_writeTree_21 rfl ?_
      refine x_iload_n C d_Na_writeTree_22 rfl ?_
      refine x_iload C d_Na_writeTree_23 rfl ?_
      refine x_iadd C d_Na_writeTree_25 ?_
      refine x_iload C d_Na_writeTree_26 rfl ?_
      refine x_callVR C (G_Na E.1) (u_476 E.1) (u_427 E.1) (u_428 E.1) (u_429 E.1) (u_9 E.1) d_Na_writeTree_28 (c_Na_writeBit l E h24 ok (by omega) (by omega) (by omega) hb) nh_Na_writeBit ln_Na_writeBit rfl rfl (nle rfl) (nle rfl) (nle rfl) (nle rfl) (nle rfl) ?_
      refine x_iconst C d_Na_writeTree_31 ?_
      refine x_iload C d_Na_writeTree_32 rfl ?_
      refine x_imul C d_Na_writeTree_34 ?_
      refine x_iload C d_Na_writeTree_35 rfl ?_
      refine x_iadd C d_Na_writeTree_37 ?_
      refine x_istore C d_Na_writeTree_38 (by decide) ?_
      refine x_iinc C d_Na_writeTree_40 (by decide) rfl ?_
      refine x_goto C (tgt := 8) d_Na_writeTree_43 (by decide) ?_
      refine XW.loc (lv' := [(0, .ref (s0.heap.size + 23)), (1, .int (zI pl)), (3, .int (zI v)), (4, .int (zI (2 * mm + bitZ v k))), (5, .int (zI ((k : Nat) - 1 : Int)))]) ⟨rfl, rfl, rfl, rfl, by rw [show ((k : Nat) - 1 : Int) = (k : Int) + -1 by omega]; rfl, trivial⟩ ?_
      exact ih _ _ (by omega) (by omega) (pow_b hb mB) (eOk_bit ok _ _) (by have := len_bit x (pl + mm) (bitZ v k); omega) hX
set_option maxRecDepth 100000 in
set_option maxHeartbeats 4000000 in
theorem c_Na_writeTree {a0 : Array Value} {s0 : State} {D : va_G} {cI cL : ClassId} (l : Launch) (E : a_E a0 s0 D cI cL) {h : AH} {K : Nat} {x : En} (h24 : h 24 = some (oCh s0.heap.size 25)) (ok : eOk x) (lx : x.2.2.1 < 99000) {pl v : Int} (n : Nat) (n30 : n ≤ 30) (p1 : 0 ≤ pl) (hB : 2 * 2 ^ n ≤ 2 * (3820 - pl)) (v1 : 0 ≤ v) (v2 : v < 2147483648) : XM l s0 D y_Na_writeTree prog_7_method_5_code 7 none 2 0 0 [.ref (s0.heap.size + 23), .int (zI pl), .int (zI (n : Int)), .int (zI v)] (sN s0.heap.size cI h x) (K) (PR none (sN s0.heap.size cI h (eTree n pl v 1 x)) K) := by
  refine XM.of (cI := cI) (cL := cL) (own := "NarrowingPacker$Narrower") (by decide) rfl E.2 (nle rfl) ?_
  intro p e s m below meth c C hn
  refine x_iconst C d_Na_writeTree_0 ?_
  refine x_istore C d_Na_writeTree_1 (by decide) ?_
  refine x_iload_n C d_Na_writeTree_3 rfl ?_
  refine x_iconst C d_Na_writeTree_4 ?_
  refine x_isub C d_Na_writeTree_5 ?_
  refine x_istore C d_Na_writeTree_6 (by decide) ?_
  refine XW.loc (lv' := [(0, .ref (s0.heap.size + 23)), (1, .int (zI pl)), (3, .int (zI v)), (4, .int (zI 1)), (5, .int (zI ((n : Nat) - 1 : Int)))]) ⟨rfl, rfl, rfl, rfl, rfl, trivial⟩ ?_
  exact lp_Na_writeTree l E C rfl p1 hB v1 v2 h24 n 1 x n30 (by omega) (by omega) ok (by omega) rfl

set_option maxRecDepth 100000 in
set_option maxHeartbeats 4000000 in
theorem lp_Na_writeRow {a0 : Array Value} {s0 : State} {D : va_G} {cI cL : ClassId} (l : Launch) (E : a_E a0 s0 D cI cL) {p : Program} {e : Env} {R : Room} {s : State} {m : MethodId} {args : Array Value} {below : List Frame} {meth : Method} {c : Code} (C : XC s0 D cI cL p s m meth c "NarrowingPacker$Narrower" prog_7_method_6_code 7 none []) (hR : R = a_rm 2 0 0) {h : AH} {K : Nat} {pl v B : Int} (p1 : 0 ≤ pl) (hB : B ≤ 2 * (3820 - pl)) (v1 : 0 ≤ v) (v2 : v < 2147483648) (h24 : h 24 = some (oCh s0.heap.size 25)) {X : En} : ∀ (r k : Nat) (mm : Int) (x : En), r + k ≤ 30 → 0 ≤ mm → (mm + 1) * 2 ^ r ≤ B → eOk x → x.2.2.1 + r < 100000 → eRow r k pl v mm x = X → XW s0 D p l e R s m args below meth c (XQ s0 D 0 0 (PR none (sN s0.heap.size cI h X) K) below s) 6 [(0, .ref (s0.heap.size + 23)), (1, .int (zI pl)), (2, .int (zI ((r : Int) + (k : Nat)))), (3, .int (zI v)), (4, .int (zI mm)), (5, .int (zI ((k : Nat) : Int)))] [] (sN s0.heap.size cI h x) K 0 0 := by
  subst hR
  intro r
  induction r with
  | zero =>
    intro k mm x hk m0 mB ok lx hX
    have hX : x = X := hX
    subst hX
    refine x_iload C d_Na_writeRow_6 rfl ?_
    refine x_iload_n C d_Na_writeRow_8 rfl ?_
    refine x_icmp_ge C (tgt := 45) d_Na_writeRow_9 (by decide) (by omega) (by omega) (by omega) (by omega) (fun c9 => ?_) (fun c9 => ?_)
    · exact x_vret C d_Na_writeRow_45 (nle rfl) (nle rfl) ⟨rfl, rfl, rfl⟩
    · exfalso; omega
  | succ r ih =>
    intro k mm x hk m0 mB ok lx hX
    have ha := pow_a m0 mB
    have hb := bitZ_01 v k
    refine x_iload C d_Na_writeRow_6 rfl ?_
    refine x_iload_n C d_Na_writeRow_8 rfl ?_
    refine x_icmp_ge C (tgt := 45) d_Na_writeRow_9 (by decide) (by omega) (by omega) (by omega) (by omega) (fun c9 => ?_) (fun c9 => ?_)
    · exfalso; omega
    · refine x_iload_n C d_Na_writeRow_12 rfl ?_
      refine x_iload C d_Na_writeRow_13 rfl ?_
      refine x_ishr C (q := 2 ^ k) k d_Na_writeRow_15 rfl rfl (by omega) (by omega) (by omega) ?_
      refine x_iconst C d_Na_writeRow_16 ?_
      refine x_iand C d_Na_writeRow_17 (zI_and1 _) ?_
      show XW s0 D p l e (a_rm 2 0 0) s m args below meth c _ 18 _ (.int (zI (bitZ v k)) :: []) _ _ _ _
      refine x_istore C d_Na_writeRow_18 (by decide) ?_
      refine x_aload_n C d_Na_writeRow_20 rfl ?_
      refine x_iload_n C d_Na_writeRow_21 rfl ?_
      refine x_iload C d_Na_writeRow_22 rfl ?_
      refine x_iadd C d_Na_writeRow_24 ?_
      refine x_iload C d_Na_writeRow_25 rfl ?_
      refine x_callVR C (G_Na E.1) (u_476 E.1) (u_427 E.1) (u_428 E.1) (u_429 E.1) (u_9 E.1) d_Na_writeRow_27 (c_Na_writeBit l E h24 ok (by omega) (by omega) (by omega) hb) nh_Na_writeBit ln_Na_writeBit rfl rfl (nle rfl) (nle rfl) (nle rfl) (nle rfl) (nle rfl) ?_
      refine x_iconst C d_Na_writeRow_30 ?_
      refine x_iload C d_Na_writeRow_31 rfl ?_
      refine x_imul C d_Na_writeRow_33 ?_
      refine x_iload C d_Na_writeRow_34 rfl ?_
      refine x_iadd C d_Na_writeRow_36 ?_
      refine x_istore C d_Na_writeRow_37 (by decide) ?_
      refine x_iinc C d_Na_writeRow_39 (by decide) rfl ?_
      refine x_goto C (tgt := 6) d_Na_writeRow_42 (by decide) ?_
      refine XW.loc (lv' := [(0, .ref (s0.heap.size + 23)), (1, .int (zI pl)), (2, .int (zI ((r : Int) + (k + 1 : Nat)))), (3, .int (zI v)), (4, .int (zI (2 * mm + bitZ v k))), (5, .int (zI ((k + 1 : Nat) : Int)))]) ⟨rfl, rfl, by rw [show (r : Int) + ((k + 1 : Nat) : Int) = ((r + 1 : Nat) : Int) + ((k : Nat) : Int) by omega]; rfl, rfl, rfl, by rw [show ((k + 1 : Nat) : Int) = (k : Int) + 1 by omega]; rfl, trivial⟩ ?_
      exact ih _ _ _ (by omega) (by omega) (pow_b hb mB) (eOk_bit ok _ _) (by have := len_bit x (pl + mm) (bitZ v k); omega) hX
set_option maxRecDepth 100000 in
set_option maxHeartbeats 4000000 in
theorem c_Na_writeRow {a0 : Array Value} {s0 : State} {D : va_G} {cI cL : ClassId} (l : Launch) (E : a_E a0 s0 D cI cL) {h : AH} {K : Nat} {x : En} (h24 : h 24 = some (oCh s0.heap.size 25)) (ok : eOk x) (lx : x.2.2.1 < 99000) {pl v : Int} (n : Nat) (n30 : n ≤ 30) (p1 : 0 ≤ pl) (hB : 2 * 2 ^ n ≤ 2 * (3820 - pl)) (v1 : 0 ≤ v) (v2 : v < 2147483648) : XM l s0 D y_Na_writeRow prog_7_method_6_code 7 none 2 0 0 [.ref (s0.heap.size + 23), .int (zI pl), .int (zI (n : Int)), .int (zI v)] (sN s0.heap.size cI h x) (K) (PR none (sN s0.heap.size cI h (eRow n 0 pl v 1 x)) K) := by
  refine XM.of (cI := cI) (cL := cL) (own := "NarrowingPacker$Narrower") (by decide) rfl E.2 (nle rfl) ?_
  intro p e s m below meth c C hn
  refine x_iconst C d_Na_writeRow_0 ?_
  refine x_istore C d_Na_writeRow_1 (by decide) ?_
  refine x_iconst C d_Na_writeRow_3 ?_
  refine x_istore C d_Na_writeRow_4 (by decide) ?_
  refine XW.loc (lv' := [(0, .ref (s0.heap.size + 23)), (1, .int (zI pl)), (2, .int (zI ((n : Int) + (0 : Nat)))), (3, .int (zI v)), (4, .int (zI 1)), (5, .int (zI ((0 : Nat) : Int)))]) ⟨rfl, rfl, by rw [show (n : Int) + ((0 : Nat) : Int) = (n : Int) by omega]; rfl, rfl, rfl, rfl, trivial⟩ ?_
  exact lp_Na_writeRow l E C rfl p1 hB v1 v2 h24 n 0 1 x (by omega) (by omega) (by omega) ok (by omega) rfl
end
section
/-! packets into bits: lengths, matches, echoes, END; the writer's object at 22 -/
abbrev oWr (b : Nat) : va_E := .inr (9, [.ref (b + 23)])
def hbL : Nat → Nat → Int → Int → Int
  | 0, _, _, q => q
  | r + 1, k, d, q => hbL r (k + 1) d (if 0 < d / 2 ^ k then (k : Int) else q)
theorem hbL_all : ∀ d : Fin 256, hbL 7 1 (d.val : Int) 0 = (hbZ (d.val : Int) : Int) := by decide +kernel
theorem hbL_eq {d : Int} (d1 : 0 ≤ d) (d2 : d < 256) : hbL 7 1 d 0 = (hbZ d : Int) := by
  have h1 := hbL_all ⟨d.toNat, by omega⟩
  have e : ((d.toNat : Nat) : Int) = d := by omega
  simp only [e] at h1
  exact h1
set_option maxRecDepth 100000 in
set_option maxHeartbeats 4000000 in
theorem lp_Wr_bits {a0 : Array Value} {s0 : State} {D : va_G} {cI cL : ClassId} (l : Launch) (E : a_E a0 s0 D cI cL) {p : Program} {e : Env} {R : Room} {s : State} {m : MethodId} {args : Array Value} {below : List Frame} {meth : Method} {c : Code} (C : XC s0 D cI cL p s m meth c "NarrowingPacker$PacketWriter" prog_11_method_8_code 3 (some .int) []) {h : AH} {K : Nat} {d X : Int} (d1 : 0 ≤ d) (d2 : d < 256) : ∀ (r k : Nat) (q : Int), r + k = 8 → hbL r k d q = X → XW s0 D p l e R s m args below meth c (XQ s0 D 0 0 (PR (some (.int (zI X))) h K) below s) 4 [(0, .int (zI d)), (1, .int (zI q)), (2, .int (zI ((k : Nat) : Int)))] [] h K 0 0 := by
  intro r
  induction r with
  | zero =>
    intro k q hk hX
    have hX : q = X := hX
    subst hX
    refine x_iload_n C d_Wr_bitsBelowHighest_4 rfl ?_
    refine x_bipush C d_Wr_bitsBelowHighest_5 (by decide) ?_
    refine x_icmp_ge C (tgt := 24) d_Wr_bitsBelowHighest_7 (by decide) (by omega) (by omega) (by omega) (by omega) (fun c7 => ?_) (fun c7 => ?_)
    · refine x_iload_n C d_Wr_bitsBelowHighest_24 rfl ?_
      exact x_iret C d_Wr_bitsBelowHighest_25 (nle rfl) (nle rfl) ⟨rfl, rfl, rfl⟩
    · exfalso; omega
  | succ r ih =>
    intro k q hk hX
    unfold hbL at hX
    have hdk : 0 ≤ d / 2 ^ k := Int.ediv_nonneg d1 (Int.le_of_lt (Int.pow_pos (by decide)))
    have hdl : d / 2 ^ k ≤ d := Int.ediv_le_self _ d1
    refine x_iload_n C d_Wr_bitsBelowHighest_4 rfl ?_
    refine x_bipush C d_Wr_bitsBelowHighest_5 (by decide) ?_
    refine x_icmp_ge C (tgt := 24) d_Wr_bitsBelowHighest_7 (by decide) (by omega) (by omega) (by omega) (by omega) (fun c7 => ?_) (fun c7 => ?_)
    · exfalso; omega
    · refine x_iload_n C d_Wr_bitsBelowHighest_10 rfl ?_
      refine x_iload_n C d_Wr_bitsBelowHighest_11 rfl ?_
      refine x_ishr C (q := 2 ^ k) k d_Wr_bitsBelowHighest_12 rfl rfl (by omega) (by omega) (by omega) ?_
      refine x_if_le C (tgt := 18) d_Wr_bitsBelowHighest_13 (by decide) (by omega) (by omega) (fun c13 => ?_) (fun c13 => ?_)
      · refine x_iinc C d_Wr_bitsBelowHighest_18 (by decide) rfl ?_
        refine x_goto C (tgt := 4) d_Wr_bitsBelowHighest_21 (by decide) ?_
        first
          | (rw [if_pos c13] at hX
             refine XW.loc (lv' := [(0, .int (zI d)), (1, .int (zI (k : Int))), (2, .int (zI ((k + 1 : Nat) : Int)))]) ⟨rfl, rfl, by rw [show ((k + 1 : Nat) : Int) = (k : Int) + 1 by omega]; rfl, trivial⟩ ?_
             exact ih _ _ (by omega) hX)
          | (rw [if_neg (by omega)] at hX
             refine XW.loc (lv' := [(0, .int (zI d)), (1, .int (zI q)), (2, .int (zI ((k + 1 : Nat) : Int)))]) ⟨rfl, rfl, by rw [show ((k + 1 : Nat) : Int) = (k : Int) + 1 by omega]; rfl, trivial⟩ ?_
             exact ih _ _ (by omega) hX)
      · refine x_iload_n C d_Wr_bitsBelowHighest_16 rfl ?_
        refine x_istore_n C d_Wr_bitsBelowHighest_17 (by decide) ?_
        refine x_iinc C d_Wr_bitsBelowHighest_18 (by decide) rfl ?_
        refine x_goto C (tgt := 4) d_Wr_bitsBelowHighest_21 (by decide) ?_
        first
          | (rw [if_pos c13] at hX
             refine XW.loc (lv' := [(0, .int (zI d)), (1, .int (zI (k : Int))), (2, .int (zI ((k + 1 : Nat) : Int)))]) ⟨rfl, rfl, by rw [show ((k + 1 : Nat) : Int) = (k : Int) + 1 by omega]; rfl, trivial⟩ ?_
             exact ih _ _ (by omega) hX)
          | (rw [if_neg (by omega)] at hX
             refine XW.loc (lv' := [(0, .int (zI d)), (1, .int (zI q)), (2, .int (zI ((k + 1 : Nat) : Int)))]) ⟨rfl, rfl, by rw [show ((k + 1 : Nat) : Int) = (k : Int) + 1 by omega]; rfl, trivial⟩ ?_
             exact ih _ _ (by omega) hX)
set_option maxRecDepth 100000 in
set_option maxHeartbeats 4000000 in
theorem c_Wr_bitsBelowHighest {a0 : Array Value} {s0 : State} {D : va_G} {cI cL : ClassId} (l : Launch) (E : a_E a0 s0 D cI cL) {h : AH} {K : Nat} {d : Int} (d1 : 0 ≤ d) (d2 : d < 256) : XM l s0 D y_Wr_bitsBelowHighest prog_11_method_8_code 3 (some .int) 0 0 0 [.int (zI d)] (h) (K) (PR (some (.int (zI (hbZ d : Int)))) h K) := by
  refine XM.of (cI := cI) (cL := cL) (own := "NarrowingPacker$PacketWriter") (by decide) rfl E.2 (nle rfl) ?_
  intro p e s m below meth c C hn
  refine x_iconst C d_Wr_bitsBelowHighest_0 ?_
  refine x_istore_n C d_Wr_bitsBelowHighest_1 (by decide) ?_
  refine x_iconst C d_Wr_bitsBelowHighest_2 ?_
  refine x_istore_n C d_Wr_bitsBelowHighest_3 (by decide) ?_
  refine XW.loc (lv' := [(0, .int (zI d)), (1, .int (zI 0)), (2, .int (zI ((1 : Nat) : Int)))]) ⟨rfl, rfl, rfl, trivial⟩ ?_
  exact lp_Wr_bits l E C d1 d2 7 1 0 rfl (hbL_eq d1 d2)

set_option maxRecDepth 100000 in
set_option maxHeartbeats 4000000 in
theorem c_Wr_writeLength {a0 : Array Value} {s0 : State} {D : va_G} {cI cL : ClassId} (l : Launch) (E : a_E a0 s0 D cI cL) {h : AH} {K : Nat} {x : En} (h22 : h 22 = some (oWr s0.heap.size)) (h24 : h 24 = some (oCh s0.heap.size 25)) (ok : eOk x) (lx : x.2.2.1 < 98000) {pl v : Int} (p1 : 0 ≤ pl) (p2 : pl + 146 ≤ 3820) (v1 : 0 ≤ v) (v2 : v < 144) : XM l s0 D y_Wr_writeLength prog_11_method_7_code 3 none 3 0 0 [.ref (s0.heap.size + 22), .int (zI pl), .int (zI v)] (sN s0.heap.size cI h x) (K) (PR none (sN s0.heap.size cI h (eLen pl v x)) K) := by
  refine XM.of (cI := cI) (cL := cL) (own := "NarrowingPacker$PacketWriter") (by decide) rfl E.2 (nle rfl) ?_
  intro p e s m below meth c C hn
  refine x_aload_n C d_Wr_writeLength_0 rfl ?_
  refine x_get C (G_Wr E.1) 0 (u_204 E.1) d_Wr_writeLength_1 (by decide) (by exact h22) rfl ?_
  refine x_iload_n C d_Wr_writeLength_4 rfl ?_
  refine x_iload_n C d_Wr_writeLength_5 rfl ?_
  refine x_bipush C d_Wr_writeLength_6 (by decide) ?_
  refine x_icmp_ge C (tgt := 15) d_Wr_writeLength_8 (by decide) (by omega) (by omega) (by omega) (by omega) (fun c8 => ?_) (fun c8 => ?_)
  · refine x_iconst C d_Wr_writeLength_15 ?_
    refine x_callVR C (G_Na E.1) (u_426 E.1) (u_427 E.1) (u_428 E.1) (u_429 E.1) (u_9 E.1) d_Wr_writeLength_16 (c_Na_writeBit l E h24 ok (by omega) (by omega) (by omega) (by omega)) nh_Na_writeBit ln_Na_writeBit rfl rfl (nle rfl) (nle rfl) (nle rfl) (nle rfl) (nle rfl) ?_
    refine x_iload_n C d_Wr_writeLength_19 rfl ?_
    refine x_bipush C d_Wr_writeLength_20 (by decide) ?_
    refine x_icmp_ge C (tgt := 38) d_Wr_writeLength_22 (by decide) (by omega) (by omega) (by omega) (by omega) (fun c22 => ?_) (fun c22 => ?_)
    · refine x_aload_n C d_Wr_writeLength_38 rfl ?_
      refine x_get C (G_Wr E.1) 0 (u_204 E.1) d_Wr_writeLength_39 (by decide) (by exact h22) rfl ?_
      refine x_iload_n C d_Wr_writeLength_42 rfl ?_
      refine x_iconst C d_Wr_writeLength_43 ?_
      refine x_iadd C d_Wr_writeLength_44 ?_
      refine x_iload_n C d_Wr_writeLength_45 rfl ?_
      refine x_bipush C d_Wr_writeLength_46 (by decide) ?_
      refine x_icmp_ge C (tgt := 55) d_Wr_writeLength_48 (by decide) (by omega) (by omega) (by omega) (by omega) (fun c48 => ?_) (fun c48 => ?_)
      · refine x_iconst C d_Wr_writeLength_55 ?_
        refine x_callVR C (G_Na E.1) (u_426 E.1) (u_427 E.1) (u_428 E.1) (u_429 E.1) (u_9 E.1) d_Wr_writeLength_56 (c_Na_writeBit l E h24 (eOk_bit ok _ _) (by have := len_bit x pl 1; omega) (by omega) (by omega) (by omega)) nh_Na_writeBit ln_Na_writeBit rfl rfl (nle rfl) (nle rfl) (nle rfl) (nle rfl) (nle rfl) ?_
        refine x_iload_n C d_Wr_writeLength_59 rfl ?_
        refine x_bipush C d_Wr_writeLength_60 (by decide) ?_
        refine x_icmp_ge C (tgt := 84) d_Wr_writeLength_62 (by decide) (by omega) (by omega) (by omega) (by omega) (fun c62 => ?_) (fun c62 => ?_)
        · refine x_aload_n C d_Wr_writeLength_84 rfl ?_
          refine x_get C (G_Wr E.1) 0 (u_204 E.1) d_Wr_writeLength_85 (by decide) (by exact h22) rfl ?_
          refine x_iload_n C d_Wr_writeLength_88 rfl ?_
          refine x_bipush C d_Wr_writeLength_89 (by decide) ?_
          refine x_iadd C d_Wr_writeLength_91 ?_
          refine x_bipush C d_Wr_writeLength_92 (by decide) ?_
          refine x_iload_n C d_Wr_writeLength_94 rfl ?_
          refine x_bipush C d_Wr_writeLength_95 (by decide) ?_
          refine x_isub C d_Wr_writeLength_97 ?_
          refine x_callVR C (G_Na E.1) (u_472 E.1) (u_473 E.1) (u_474 E.1) (u_475 E.1) (u_9 E.1) d_Wr_writeLength_98 (c_Na_writeTree l E h24 (eOk_bit (eOk_bit ok _ _) _ _) (by have := len_bit x pl 1; have := len_bit (eBit x pl 1) (pl + 1) 1; omega) 7 (by omega) (by omega) (by omega) (by omega) (by omega)) nh_Na_writeTree ln_Na_writeTree rfl rfl (nle rfl) (nle rfl) (nle rfl) (nle rfl) (nle rfl) ?_
          exact x_vret C d_Wr_writeLength_101 (nle rfl) (nle rfl) ⟨rfl, by
  first
    | (exfalso; omega)
    | (unfold eLen; rw [if_pos (by omega)]; done)
    | (unfold eLen; rw [if_neg (by omega), if_pos (by omega)]; done)
    | (unfold eLen; rw [if_neg (by omega), if_neg (by omega)]; done), rfl⟩
        · refine x_aload_n C d_Wr_writeLength_65 rfl ?_
          refine x_get C (G_Wr E.1) 0 (u_204 E.1) d_Wr_writeLength_66 (by decide) (by exact h22) rfl ?_
          refine x_iload_n C d_Wr_writeLength_69 rfl ?_
          refine x_bipush C d_Wr_writeLength_70 (by decide) ?_
          refine x_iadd C d_Wr_writeLength_72 ?_
          refine x_iconst C d_Wr_writeLength_73 ?_
          refine x_iload_n C d_Wr_writeLength_74 rfl ?_
          refine x_bipush C d_Wr_writeLength_75 (by decide) ?_
          refine x_isub C d_Wr_writeLength_77 ?_
          refine x_callVR C (G_Na E.1) (u_472 E.1) (u_473 E.1) (u_474 E.1) (u_475 E.1) (u_9 E.1) d_Wr_writeLength_78 (c_Na_writeTree l E h24 (eOk_bit (eOk_bit ok _ _) _ _) (by have := len_bit x pl 1; have := len_bit (eBit x pl 1) (pl + 1) 0; omega) 3 (by omega) (by omega) (by omega) (by omega) (by omega)) nh_Na_writeTree ln_Na_writeTree rfl rfl (nle rfl) (nle rfl) (nle rfl) (nle rfl) (nle rfl) ?_
          refine x_goto C (tgt := 101) d_Wr_writeLength_81 (by decide) ?_
          exact x_vret C d_Wr_writeLength_101 (nle rfl) (nle rfl) ⟨rfl, by
  first
    | (exfalso; omega)
    | (unfold eLen; rw [if_pos (by omega)]; done)
    | (unfold eLen; rw [if_neg (by omega), if_pos (by omega)]; done)
    | (unfold eLen; rw [if_neg (by omega), if_neg (by omega)]; done), rfl⟩
      · refine x_iconst C d_Wr_writeLength_51 ?_
        refine x_goto C (tgt := 56) d_Wr_writeLength_52 (by decide) ?_
        refine x_callVR C (G_Na E.1) (u_426 E.1) (u_427 E.1) (u_428 E.1) (u_429 E.1) (u_9 E.1) d_Wr_writeLength_56 (c_Na_writeBit l E h24 (eOk_bit ok _ _) (by have := len_bit x pl 1; omega) (by omega) (by omega) (by omega)) nh_Na_writeBit ln_Na_writeBit rfl rfl (nle rfl) (nle rfl) (nle rfl) (nle rfl) (nle rfl) ?_
        refine x_iload_n C d_Wr_writeLength_59 rfl ?_
        refine x_bipush C d_Wr_writeLength_60 (by decide) ?_
        refine x_icmp_ge C (tgt := 84) d_Wr_writeLength_62 (by decide) (by omega) (by omega) (by omega) (by omega) (fun c62 => ?_) (fun c62 => ?_)
        · refine x_aload_n C d_Wr_writeLength_84 rfl ?_
          refine x_get C (G_Wr E.1) 0 (u_204 E.1) d_Wr_writeLength_85 (by decide) (by exact h22) rfl ?_
          refine x_iload_n C d_Wr_writeLength_88 rfl ?_
          refine x_bipush C d_Wr_writeLength_89 (by decide) ?_
          refine x_iadd C d_Wr_writeLength_91 ?_
          refine x_bipush C d_Wr_writeLength_92 (by decide) ?_
          refine x_iload_n C d_Wr_writeLength_94 rfl ?_
          refine x_bipush C d_Wr_writeLength_95 (by decide) ?_
          refine x_isub C d_Wr_writeLength_97 ?_
          refine x_callVR C (G_Na E.1) (u_472 E.1) (u_473 E.1) (u_474 E.1) (u_475 E.1) (u_9 E.1) d_Wr_writeLength_98 (c_Na_writeTree l E h24 (eOk_bit (eOk_bit ok _ _) _ _) (by have := len_bit x pl 1; have := len_bit (eBit x pl 1) (pl + 1) 1; omega) 7 (by omega) (by omega) (by omega) (by omega) (by omega)) nh_Na_writeTree ln_Na_writeTree rfl rfl (nle rfl) (nle rfl) (nle rfl) (nle rfl) (nle rfl) ?_
          exact x_vret C d_Wr_writeLength_101 (nle rfl) (nle rfl) ⟨rfl, by
  first
    | (exfalso; omega)
    | (unfold eLen; rw [if_pos (by omega)]; done)
    | (unfold eLen; rw [if_neg (by omega), if_pos (by omega)]; done)
    | (unfold eLen; rw [if_neg (by omega), if_neg (by omega)]; done), rfl⟩
        · refine x_aload_n C d_Wr_writeLength_65 rfl ?_
          refine x_get C (G_Wr E.1) 0 (u_204 E.1) d_Wr_writeLength_66 (by decide) (by exact h22) rfl ?_
          refine x_iload_n C d_Wr_writeLength_69 rfl ?_
          refine x_bipush C d_Wr_writeLength_70 (by decide) ?_
          refine x_iadd C d_Wr_writeLength_72 ?_
          refine x_iconst C d_Wr_writeLength_73 ?_
          refine x_iload_n C d_Wr_writeLength_74 rfl ?_
          refine x_bipush C d_Wr_writeLength_75 (by decide) ?_
          refine x_isub C d_Wr_writeLength_77 ?_
          refine x_callVR C (G_Na E.1) (u_472 E.1) (u_473 E.1) (u_474 E.1) (u_475 E.1) (u_9 E.1) d_Wr_writeLength_78 (c_Na_writeTree l E h24 (eOk_bit (eOk_bit ok _ _) _ _) (by have := len_bit x pl 1; have := len_bit (eBit x pl 1) (pl + 1) 0; omega) 3 (by omega) (by omega) (by omega) (by omega) (by omega)) nh_Na_writeTree ln_Na_writeTree rfl rfl (nle rfl) (nle rfl) (nle rfl) (nle rfl) (nle rfl) ?_
          refine x_goto C (tgt := 101) d_Wr_writeLength_81 (by decide) ?_
          exact x_vret C d_Wr_writeLength_101 (nle rfl) (nle rfl) ⟨rfl, by
  first
    | (exfalso; omega)
    | (unfold eLen; rw [if_pos (by omega)]; done)
    | (unfold eLen; rw [if_neg (by omega), if_pos (by omega)]; done)
    | (unfold eLen; rw [if_neg (by omega), if_neg (by omega)]; done), rfl⟩
    · refine x_aload_n C d_Wr_writeLength_25 rfl ?_
      refine x_get C (G_Wr E.1) 0 (u_204 E.1) d_Wr_writeLength_26 (by decide) (by exact h22) rfl ?_
      refine x_iload_n C d_Wr_writeLength_29 rfl ?_
      refine x_iconst C d_Wr_writeLength_30 ?_
      refine x_iadd C d_Wr_writeLength_31 ?_
      refine x_iconst C d_Wr_writeLength_32 ?_
      refine x_iload_n C d_Wr_writeLength_33 rfl ?_
      refine x_callVR C (G_Na E.1) (u_472 E.1) (u_473 E.1) (u_474 E.1) (u_475 E.1) (u_9 E.1) d_Wr_writeLength_34 (c_Na_writeTree l E h24 (eOk_bit ok _ _) (by have := len_bit x pl 0; omega) 3 (by omega) (by omega) (by omega) (by omega) (by omega)) nh_Na_writeTree ln_Na_writeTree rfl rfl (nle rfl) (nle rfl) (nle rfl) (nle rfl) (nle rfl) ?_
      exact x_vret C d_Wr_writeLength_37 (nle rfl) (nle rfl) ⟨rfl, by
  first
    | (exfalso; omega)
    | (unfold eLen; rw [if_pos (by omega)]; done)
    | (unfold eLen; rw [if_neg (by omega), if_pos (by omega)]; done)
    | (unfold eLen; rw [if_neg (by omega), if_neg (by omega)]; done), rfl⟩
  · refine x_iconst C d_Wr_writeLength_11 ?_
    refine x_goto C (tgt := 16) d_Wr_writeLength_12 (by decide) ?_
    refine x_callVR C (G_Na E.1) (u_426 E.1) (u_427 E.1) (u_428 E.1) (u_429 E.1) (u_9 E.1) d_Wr_writeLength_16 (c_Na_writeBit l E h24 ok (by omega) (by omega) (by omega) (by omega)) nh_Na_writeBit ln_Na_writeBit rfl rfl (nle rfl) (nle rfl) (nle rfl) (nle rfl) (nle rfl) ?_
    refine x_iload_n C d_Wr_writeLength_19 rfl ?_
    refine x_bipush C d_Wr_writeLength_20 (by decide) ?_
    refine x_icmp_ge C (tgt := 38) d_Wr_writeLength_22 (by decide) (by omega) (by omega) (by omega) (by omega) (fun c22 => ?_) (fun c22 => ?_)
    · refine x_aload_n C d_Wr_writeLength_38 rfl ?_
      refine x_get C (G_Wr E.1) 0 (u_204 E.1) d_Wr_writeLength_39 (by decide) (by exact h22) rfl ?_
      refine x_iload_n C d_Wr_writeLength_42 rfl ?_
      refine x_iconst C d_Wr_writeLength_43 ?_
      refine x_iadd C d_Wr_writeLength_44 ?_
      refine x_iload_n C d_Wr_writeLength_45 rfl ?_
      refine x_bipush C d_Wr_writeLength_46 (by decide) ?_
      refine x_icmp_ge C (tgt := 55) d_Wr_writeLength_48 (by decide) (by omega) (by omega) (by omega) (by omega) (fun c48 => ?_) (fun c48 => ?_)
      · refine x_iconst C d_Wr_writeLength_55 ?_
        refine x_callVR C (G_Na E.1) (u_426 E.1) (u_427 E.1) (u_428 E.1) (u_429 E.1) (u_9 E.1) d_Wr_writeLength_56 (c_Na_writeBit l E h24 (eOk_bit ok _ _) (by have := len_bit x pl 1; omega) (by omega) (by omega) (by omega)) nh_Na_writeBit ln_Na_writeBit rfl rfl (nle rfl) (nle rfl) (nle rfl) (nle rfl) (nle rfl) ?_
        refine x_iload_n C d_Wr_writeLength_59 rfl ?_
        refine x_bipush C d_Wr_writeLength_60 (by decide) ?_
        refine x_icmp_ge C (tgt := 84) d_Wr_writeLength_62 (by decide) (by omega) (by omega) (by omega) (by omega) (fun c62 => ?_) (fun c62 => ?_)
        · refine x_aload_n C d_Wr_writeLength_84 rfl ?_
          refine x_get C (G_Wr E.1) 0 (u_204 E.1) d_Wr_writeLength_85 (by decide) (by exact h22) rfl ?_
          refine x_iload_n C d_Wr_writeLength_88 rfl ?_
          refine x_bipush C d_Wr_writeLength_89 (by decide) ?_
          refine x_iadd C d_Wr_writeLength_91 ?_
          refine x_bipush C d_Wr_writeLength_92 (by decide) ?_
          refine x_iload_n C d_Wr_writeLength_94 rfl ?_
          refine x_bipush C d_Wr_writeLength_95 (by decide) ?_
          refine x_isub C d_Wr_writeLength_97 ?_
          refine x_callVR C (G_Na E.1) (u_472 E.1) (u_473 E.1) (u_474 E.1) (u_475 E.1) (u_9 E.1) d_Wr_writeLength_98 (c_Na_writeTree l E h24 (eOk_bit (eOk_bit ok _ _) _ _) (by have := len_bit x pl 1; have := len_bit (eBit x pl 1) (pl + 1) 1; omega) 7 (by omega) (by omega) (by omega) (by omega) (by omega)) nh_Na_writeTree ln_Na_writeTree rfl rfl (nle rfl) (nle rfl) (nle rfl) (nle rfl) (nle rfl) ?_
          exact x_vret C d_Wr_writeLength_101 (nle rfl) (nle rfl) ⟨rfl, by
  first
    | (exfalso; omega)
    | (unfold eLen; rw [if_pos (by omega)]; done)
    | (unfold eLen; rw [if_neg (by omega), if_pos (by omega)]; done)
    | (unfold eLen; rw [if_neg (by omega), if_neg (by omega)]; done), rfl⟩
        · refine x_aload_n C d_Wr_writeLength_65 rfl ?_
          refine x_get C (G_Wr E.1) 0 (u_204 E.1) d_Wr_writeLength_66 (by decide) (by exact h22) rfl ?_
          refine x_iload_n C d_Wr_writeLength_69 rfl ?_
          refine x_bipush C d_Wr_writeLength_70 (by decide) ?_
          refine x_iadd C d_Wr_writeLength_72 ?_
          refine x_iconst C d_Wr_writeLength_73 ?_
          refine x_iload_n C d_Wr_writeLength_74 rfl ?_
          refine x_bipush C d_Wr_writeLength_75 (by decide) ?_
          refine x_isub C d_Wr_writeLength_77 ?_
          refine x_callVR C (G_Na E.1) (u_472 E.1) (u_473 E.1) (u_474 E.1) (u_475 E.1) (u_9 E.1) d_Wr_writeLength_78 (c_Na_writeTree l E h24 (eOk_bit (eOk_bit ok _ _) _ _) (by have := len_bit x pl 1; have := len_bit (eBit x pl 1) (pl + 1) 0; omega) 3 (by omega) (by omega) (by omega) (by omega) (by omega)) nh_Na_writeTree ln_Na_writeTree rfl rfl (nle rfl) (nle rfl) (nle rfl) (nle rfl) (nle rfl) ?_
          refine x_goto C (tgt := 101) d_Wr_writeLength_81 (by decide) ?_
          exact x_vret C d_Wr_writeLength_101 (nle rfl) (nle rfl) ⟨rfl, by
  first
    | (exfalso; omega)
    | (unfold eLen; rw [if_pos (by omega)]; done)
    | (unfold eLen; rw [if_neg (by omega), if_pos (by omega)]; done)
    | (unfold eLen; rw [if_neg (by omega), if_neg (by omega)]; done), rfl⟩
      · refine x_iconst C d_Wr_writeLength_51 ?_
        refine x_goto C (tgt := 56) d_Wr_writeLength_52 (by decide) ?_
        refine x_callVR C (G_Na E.1) (u_426 E.1) (u_427 E.1) (u_428 E.1) (u_429 E.1) (u_9 E.1) d_Wr_writeLength_56 (c_Na_writeBit l E h24 (eOk_bit ok _ _) (by have := len_bit x pl 1; omega) (by omega) (by omega) (by omega)) nh_Na_writeBit ln_Na_writeBit rfl rfl (nle rfl) (nle rfl) (nle rfl) (nle rfl) (nle rfl) ?_
        refine x_iload_n C d_Wr_writeLength_59 rfl ?_
        refine x_bipush C d_Wr_writeLength_60 (by decide) ?_
        refine x_icmp_ge C (tgt := 84) d_Wr_writeLength_62 (by decide) (by omega) (by omega) (by omega) (by omega) (fun c62 => ?_) (fun c62 => ?_)
        · refine x_aload_n C d_Wr_writeLength_84 rfl ?_
          refine x_get C (G_Wr E.1) 0 (u_204 E.1) d_Wr_writeLength_85 (by decide) (by exact h22) rfl ?_
          refine x_iload_n C d_Wr_writeLength_88 rfl ?_
          refine x_bipush C d_Wr_writeLength_89 (by decide) ?_
          refine x_iadd C d_Wr_writeLength_91 ?_
          refine x_bipush C d_Wr_writeLength_92 (by decide) ?_
          refine x_iload_n C d_Wr_writeLength_94 rfl ?_
          refine x_bipush C d_Wr_writeLength_95 (by decide) ?_
          refine x_isub C d_Wr_writeLength_97 ?_
          refine x_callVR C (G_Na E.1) (u_472 E.1) (u_473 E.1) (u_474 E.1) (u_475 E.1) (u_9 E.1) d_Wr_writeLength_98 (c_Na_writeTree l E h24 (eOk_bit (eOk_bit ok _ _) _ _) (by have := len_bit x pl 1; have := len_bit (eBit x pl 1) (pl + 1) 1; omega) 7 (by omega) (by omega) (by omega) (by omega) (by omega)) nh_Na_writeTree ln_Na_writeTree rfl rfl (nle rfl) (nle rfl) (nle rfl) (nle rfl) (nle rfl) ?_
          exact x_vret C d_Wr_writeLength_101 (nle rfl) (nle rfl) ⟨rfl, by
  first
    | (exfalso; omega)
    | (unfold eLen; rw [if_pos (by omega)]; done)
    | (unfold eLen; rw [if_neg (by omega), if_pos (by omega)]; done)
    | (unfold eLen; rw [if_neg (by omega), if_neg (by omega)]; done), rfl⟩
        · refine x_aload_n C d_Wr_writeLength_65 rfl ?_
          refine x_get C (G_Wr E.1) 0 (u_204 E.1) d_Wr_writeLength_66 (by decide) (by exact h22) rfl ?_
          refine x_iload_n C d_Wr_writeLength_69 rfl ?_
          refine x_bipush C d_Wr_writeLength_70 (by decide) ?_
          refine x_iadd C d_Wr_writeLength_72 ?_
          refine x_iconst C d_Wr_writeLength_73 ?_
          refine x_iload_n C d_Wr_writeLength_74 rfl ?_
          refine x_bipush C d_Wr_writeLength_75 (by decide) ?_
          refine x_isub C d_Wr_writeLength_77 ?_
          refine x_callVR C (G_Na E.1) (u_472 E.1) (u_473 E.1) (u_474 E.1) (u_475 E.1) (u_9 E.1) d_Wr_writeLength_78 (c_Na_writeTree l E h24 (eOk_bit (eOk_bit ok _ _) _ _) (by have := len_bit x pl 1; have := len_bit (eBit x pl 1) (pl + 1) 0; omega) 3 (by omega) (by omega) (by omega) (by omega) (by omega)) nh_Na_writeTree ln_Na_writeTree rfl rfl (nle rfl) (nle rfl) (nle rfl) (nle rfl) (nle rfl) ?_
          refine x_goto C (tgt := 101) d_Wr_writeLength_81 (by decide) ?_
          exact x_vret C d_Wr_writeLength_101 (nle rfl) (nle rfl) ⟨rfl, by
  first
    | (exfalso; omega)
    | (unfold eLen; rw [if_pos (by omega)]; done)
    | (unfold eLen; rw [if_neg (by omega), if_pos (by omega)]; done)
    | (unfold eLen; rw [if_neg (by omega), if_neg (by omega)]; done), rfl⟩
    · refine x_aload_n C d_Wr_writeLength_25 rfl ?_
      refine x_get C (G_Wr E.1) 0 (u_204 E.1) d_Wr_writeLength_26 (by decide) (by exact h22) rfl ?_
      refine x_iload_n C d_Wr_writeLength_29 rfl ?_
      refine x_iconst C d_Wr_writeLength_30 ?_
      refine x_iadd C d_Wr_writeLength_31 ?_
      refine x_iconst C d_Wr_writeLength_32 ?_
      refine x_iload_n C d_Wr_writeLength_33 rfl ?_
      refine x_callVR C (G_Na E.1) (u_472 E.1) (u_473 E.1) (u_474 E.1) (u_475 E.1) (u_9 E.1) d_Wr_writeLength_34 (c_Na_writeTree l E h24 (eOk_bit ok _ _) (by have := len_bit x pl 0; omega) 3 (by omega) (by omega) (by omega) (by omega) (by omega)) nh_Na_writeTree ln_Na_writeTree rfl rfl (nle rfl) (nle rfl) (nle rfl) (nle rfl) (nle rfl) ?_
      exact x_vret C d_Wr_writeLength_37 (nle rfl) (nle rfl) ⟨rfl, by
  first
    | (exfalso; omega)
    | (unfold eLen; rw [if_pos (by omega)]; done)
    | (unfold eLen; rw [if_neg (by omega), if_pos (by omega)]; done)
    | (unfold eLen; rw [if_neg (by omega), if_neg (by omega)]; done), rfl⟩

theorem eOk_len {x : En} (ok : eOk x) (pl v : Int) : eOk (eLen pl v x) ∧ (eLen pl v x).2.2.1 ≤ x.2.2.1 + 9 := by
  unfold eLen
  have e1 := eOk_bit ok pl 0
  have e2 := eOk_bit ok pl 1
  have n1 := len_bit x pl 0
  have n2 := len_bit x pl 1
  split
  · have h1 := eOk_tree 3 (pl + 2) v 1 _ e1
    exact ⟨h1.1, by have := h1.2; omega⟩
  · split
    · have n3 := len_bit (eBit x pl 1) (pl + 1) 0
      have h1 := eOk_tree 3 (pl + 10) (v - 8) 1 _ (eOk_bit e2 (pl + 1) 0)
      exact ⟨h1.1, by have := h1.2; omega⟩
    · have n3 := len_bit (eBit x pl 1) (pl + 1) 1
      have h1 := eOk_tree 7 (pl + 18) (v - 16) 1 _ (eOk_bit e2 (pl + 1) 1)
      exact ⟨h1.1, by have := h1.2; omega⟩
theorem hb_le (d : Int) : hbZ d ≤ 7 := by unfold hbZ; repeat' split <;> try omega
theorem hb_ge {d : Int} (h : 4 ≤ d) : 2 ≤ hbZ d := by unfold hbZ; repeat' split <;> try omega
theorem hb_pow {d : Int} (h : d < 128) : (2 : Int) ^ (hbZ d - 1) ≤ 32 := by
  have : hbZ d - 1 ≤ 5 := by unfold hbZ; repeat' split <;> try omega
  generalize hbZ d - 1 = k at this
  match k, this with
  | 0, _ => decide
  | 1, _ => decide
  | 2, _ => decide
  | 3, _ => decide
  | 4, _ => decide
  | 5, _ => decide
theorem slot_b {d : Int} (h0 : 0 ≤ d) (h : d < 128) : 0 ≤ slotZ d ∧ slotZ d ≤ 13 ∧ (4 ≤ slotZ d → 4 ≤ d) := by
  have : d < 128 → hbZ d ≤ 6 := fun _ => by unfold hbZ; repeat' split <;> try omega
  have h1 := this h
  unfold slotZ bitZ
  split <;> omega
set_option maxRecDepth 100000 in
set_option maxHeartbeats 4000000 in
theorem c_Wr_writeEnd {a0 : Array Value} {s0 : State} {D : va_G} {cI cL : ClassId} (l : Launch) (E : a_E a0 s0 D cI cL) {h : AH} {K : Nat} {x : En} (h22 : h 22 = some (oWr s0.heap.size)) (h24 : h 24 = some (oCh s0.heap.size 25)) (ok : eOk x) (lx : x.2.2.1 < 97000) : XM l s0 D y_Wr_writeEnd prog_11_method_5_code 1 none 4 0 0 [.ref (s0.heap.size + 22)] (sN s0.heap.size cI h x) (K) (PR none (sN s0.heap.size cI h (eEnd x)) K) := by
  refine XM.of (cI := cI) (cL := cL) (own := "NarrowingPacker$PacketWriter") (by decide) rfl E.2 (nle rfl) ?_
  intro p e s m below meth c C hn
  refine x_aload_n C d_Wr_writeEnd_0 rfl ?_
  refine x_bipush C d_Wr_writeEnd_1 (by decide) ?_
  refine x_iconst C d_Wr_writeEnd_3 ?_
  refine x_callVR C (G_Wr E.1) (u_468 E.1) (u_470 E.1) (us_7 E.1) (u_471 E.1) (u_8 E.1) d_Wr_writeEnd_4 (c_Wr_writeLength l E h22 h24 ok (by omega) (by omega) (by omega) (by omega) (by omega)) nh_Wr_writeLength ln_Wr_writeLength rfl (by exact h22) (nle rfl) (nle rfl) (nle rfl) (nle rfl) (nle rfl) ?_
  refine x_aload_n C d_Wr_writeEnd_7 rfl ?_
  refine x_get C (G_Wr E.1) 0 (u_204 E.1) d_Wr_writeEnd_8 (by decide) (by exact h22) rfl ?_
  refine x_sipush C d_Wr_writeEnd_11 (by decide) ?_
  refine x_iconst C d_Wr_writeEnd_14 ?_
  refine x_bipush C d_Wr_writeEnd_15 (by decide) ?_
  refine x_callVR C (G_Na E.1) (u_472 E.1) (u_473 E.1) (u_474 E.1) (u_475 E.1) (u_9 E.1) d_Wr_writeEnd_17 (c_Na_writeTree l E h24 (eOk_len ok _ _).1 (by have := (eOk_len ok 72 0).2; omega) 4 (by omega) (by omega) (by omega) (by omega) (by omega)) nh_Na_writeTree ln_Na_writeTree rfl rfl (nle rfl) (nle rfl) (nle rfl) (nle rfl) (nle rfl) ?_
  exact x_vret C d_Wr_writeEnd_20 (nle rfl) (nle rfl) ⟨rfl, rfl, rfl⟩

set_option maxRecDepth 100000 in
set_option maxHeartbeats 4000000 in
theorem c_Wr_writeMatch {a0 : Array Value} {s0 : State} {D : va_G} {cI cL : ClassId} (l : Launch) (E : a_E a0 s0 D cI cL) {h : AH} {K : Nat} {x : En} (h22 : h 22 = some (oWr s0.heap.size)) (h24 : h 24 = some (oCh s0.heap.size 25)) (ok : eOk x) (lx : x.2.2.1 < 97000) {k ln ds ec li : Int} (h16 : h 16 = some (oPa k ln ds ec li)) (n1 : 2 ≤ ln) (n2 : ln ≤ 120) (d1 : 1 ≤ ds) (d2 : ds ≤ 120) : XM l s0 D y_Wr_writeMatch prog_11_method_4_code 7 none 4 0 0 [.ref (s0.heap.size + 22), .ref (s0.heap.size + 16)] (sN s0.heap.size cI h x) (K) (PR none (sN s0.heap.size cI h (eMatch ln ds x)) K) := by
  refine XM.of (cI := cI) (cL := cL) (own := "NarrowingPacker$PacketWriter") (by decide) rfl E.2 (nle rfl) ?_
  intro p e s m below meth c C hn
  refine x_aload_n C d_Wr_writeMatch_0 rfl ?_
  refine x_getN C (G_Pa E.1) 1 (u_86 E.1) d_Wr_writeMatch_1 (by decide) (by exact h16) rfl ?_
  refine x_iconst C d_Wr_writeMatch_4 ?_
  refine x_isub C d_Wr_writeMatch_5 ?_
  refine x_istore_n C d_Wr_writeMatch_6 (by decide) ?_
  refine x_aload_n C d_Wr_writeMatch_7 rfl ?_
  refine x_getN C (G_Pa E.1) 2 (u_91 E.1) d_Wr_writeMatch_8 (by decide) (by exact h16) rfl ?_
  refine x_iconst C d_Wr_writeMatch_11 ?_
  refine x_isub C d_Wr_writeMatch_12 ?_
  refine x_istore_n C d_Wr_writeMatch_13 (by decide) ?_
  refine x_iload_n C d_Wr_writeMatch_14 rfl ?_
  refine x_callSR C (u_465 E.1) (u_466 E.1) (u_467 E.1) (u_8 E.1) d_Wr_writeMatch_15 (c_Wr_bitsBelowHighest l E (by omega) (by omega)) nh_Wr_bitsBelowHighest ln_Wr_bitsBelowHighest rfl (nle rfl) (nle rfl) (nle rfl) (nle rfl) (nle rfl) ?_
  refine x_istore C d_Wr_writeMatch_18 (by decide) ?_
  refine x_iload_n C d_Wr_writeMatch_20 rfl ?_
  refine x_iconst C d_Wr_writeMatch_21 ?_
  refine x_icmp_ge C (tgt := 29) d_Wr_writeMatch_22 (by decide) (by omega) (by omega) (by omega) (by omega) (fun c22 => ?_) (fun c22 => ?_)
  · refine x_iconst C d_Wr_writeMatch_29 ?_
    refine x_iload C d_Wr_writeMatch_30 rfl ?_
    refine x_imul C d_Wr_writeMatch_32 ?_
    refine x_iload_n C d_Wr_writeMatch_33 rfl ?_
    refine x_iload C d_Wr_writeMatch_34 rfl ?_
    refine x_iconst C d_Wr_writeMatch_36 ?_
    refine x_isub C d_Wr_writeMatch_37 ?_
    refine x_ishr C (q := 2 ^ (hbZ (ds - 1) - 1)) (hbZ (ds - 1) - 1) d_Wr_writeMatch_38 (by have := hb_ge (d := ds - 1) (by omega); omega) rfl (by have := hb_le (ds - 1); omega) (by omega) (by omega) ?_
    refine x_iconst C d_Wr_writeMatch_39 ?_
    refine x_iand C d_Wr_writeMatch_40 (zI_and1 _) ?_
    refine x_iadd C d_Wr_writeMatch_41 ?_
    refine XW.steq (st' := [.int (zI (slotZ (ds - 1)))]) (by unfold slotZ bitZ; first | (rw [if_pos (by omega)]; rfl) | (rw [if_neg (by omega)]; rfl)) ?_
    have sb := slot_b (d := ds - 1) (by omega) (by omega)
    refine x_istore C d_Wr_writeMatch_42 (by decide) ?_
    refine x_aload_n C d_Wr_writeMatch_44 rfl ?_
    refine x_bipush C d_Wr_writeMatch_45 (by decide) ?_
    refine x_iload_n C d_Wr_writeMatch_47 rfl ?_
    refine x_callVR C (G_Wr E.1) (u_468 E.1) (u_470 E.1) (us_7 E.1) (u_471 E.1) (u_8 E.1) d_Wr_writeMatch_48 (c_Wr_writeLength l E h22 h24 ok (by omega) (by omega) (by omega) (by omega) (by omega)) nh_Wr_writeLength ln_Wr_writeLength rfl (by exact h22) (nle rfl) (nle rfl) (nle rfl) (nle rfl) (nle rfl) ?_
    refine x_aload_n C d_Wr_writeMatch_51 rfl ?_
    refine x_get C (G_Wr E.1) 0 (u_204 E.1) d_Wr_writeMatch_52 (by decide) (by exact h22) rfl ?_
    refine x_sipush C d_Wr_writeMatch_55 (by decide) ?_
    refine x_iload_n C d_Wr_writeMatch_58 rfl ?_
    refine x_iconst C d_Wr_writeMatch_59 ?_
    refine x_min C (u_477 E.1) (u_140 E.1) (u_7 E.1) (u_141 E.1) d_Wr_writeMatch_60 (nle rfl) (nle rfl) (nle rfl) (nle rfl) (by omega) (by omega) (by omega) (by omega) ?_
    refine x_bipush C d_Wr_writeMatch_63 (by decide) ?_
    refine x_imul C d_Wr_writeMatch_65 ?_
    refine x_iadd C d_Wr_writeMatch_66 ?_
    refine x_iconst C d_Wr_writeMatch_67 ?_
    refine x_iload C d_Wr_writeMatch_68 rfl ?_
    refine x_callVR C (G_Na E.1) (u_472 E.1) (u_473 E.1) (u_474 E.1) (u_475 E.1) (u_9 E.1) d_Wr_writeMatch_70 (c_Na_writeTree l E h24 (eOk_len ok _ _).1 (by have := (eOk_len ok 72 (ln - 2)).2; omega) 4 (by omega) (by omega) (by omega) (by omega) (by omega)) nh_Na_writeTree ln_Na_writeTree rfl rfl (nle rfl) (nle rfl) (nle rfl) (nle rfl) (nle rfl) ?_
    refine x_iload C d_Wr_writeMatch_73 rfl ?_
    refine x_iconst C d_Wr_writeMatch_75 ?_
    refine x_icmp_lt C (tgt := 106) d_Wr_writeMatch_76 (by decide) (by omega) (by omega) (by omega) (by omega) (fun c76 => ?_) (fun c76 => ?_)
    · exact x_vret C d_Wr_writeMatch_106 (nle rfl) (nle rfl) ⟨rfl, by
  first
    | (exfalso; omega)
    | (unfold eMatch; rw [if_pos (by omega)]; done)
    | (unfold eMatch; rw [if_neg (by omega)]; done), rfl⟩
    · refine x_sipush C d_Wr_writeMatch_79 (by decide) ?_
      refine x_iload C d_Wr_writeMatch_82 rfl ?_
      refine x_iconst C d_Wr_writeMatch_84 ?_
      refine x_isub C d_Wr_writeMatch_85 ?_
      refine x_bipush C d_Wr_writeMatch_86 (by decide) ?_
      refine x_imul C d_Wr_writeMatch_88 ?_
      refine x_iadd C d_Wr_writeMatch_89 ?_
      refine x_istore C d_Wr_writeMatch_90 (by decide) ?_
      refine x_aload_n C d_Wr_writeMatch_92 rfl ?_
      refine x_get C (G_Wr E.1) 0 (u_204 E.1) d_Wr_writeMatch_93 (by decide) (by exact h22) rfl ?_
      refine x_iload C d_Wr_writeMatch_96 rfl ?_
      refine x_iload C d_Wr_writeMatch_98 rfl ?_
      refine x_iconst C d_Wr_writeMatch_100 ?_
      refine x_isub C d_Wr_writeMatch_101 ?_
      have hg := hb_ge (d := ds - 1) (by omega)
      have hp := hb_pow (d := ds - 1) (by omega)
      rw [show ((hbZ (ds - 1) : Nat) : Int) - 1 = ((hbZ (ds - 1) - 1 : Nat) : Int) by omega]
      refine x_iload_n C d_Wr_writeMatch_102 rfl ?_
      refine x_callVR C (G_Na E.1) (u_478 E.1) (u_479 E.1) (u_480 E.1) (u_481 E.1) (u_9 E.1) d_Wr_writeMatch_103 (c_Na_writeRow l E h24 (eOk_tree 4 _ _ _ _ (eOk_len ok _ _).1).1 (by have := (eOk_len ok 72 (ln - 2)).2; have := (eOk_tree 4 (364 + min (ln - 2) 3 * 16) (slotZ (ds - 1)) 1 _ (eOk_len ok 72 (ln - 2)).1).2; omega) (hbZ (ds - 1) - 1) (by have := hb_le (ds - 1); omega) (by omega) (by omega) (by omega) (by omega)) nh_Na_writeRow ln_Na_writeRow rfl rfl (nle rfl) (nle rfl) (nle rfl) (nle rfl) (nle rfl) ?_
      exact x_vret C d_Wr_writeMatch_106 (nle rfl) (nle rfl) ⟨rfl, by
  first
    | (exfalso; omega)
    | (unfold eMatch; rw [if_pos (by omega)]; done)
    | (unfold eMatch; rw [if_neg (by omega)]; done), rfl⟩
  · refine x_iload_n C d_Wr_writeMatch_25 rfl ?_
    refine x_goto C (tgt := 42) d_Wr_writeMatch_26 (by decide) ?_
    refine XW.steq (st' := [.int (zI (slotZ (ds - 1)))]) (by unfold slotZ bitZ; first | (rw [if_pos (by omega)]; rfl) | (rw [if_neg (by omega)]; rfl)) ?_
    have sb := slot_b (d := ds - 1) (by omega) (by omega)
    refine x_istore C d_Wr_writeMatch_42 (by decide) ?_
    refine x_aload_n C d_Wr_writeMatch_44 rfl ?_
    refine x_bipush C d_Wr_writeMatch_45 (by decide) ?_
    refine x_iload_n C d_Wr_writeMatch_47 rfl ?_
    refine x_callVR C (G_Wr E.1) (u_468 E.1) (u_470 E.1) (us_7 E.1) (u_471 E.1) (u_8 E.1) d_Wr_writeMatch_48 (c_Wr_writeLength l E h22 h24 ok (by omega) (by omega) (by omega) (by omega) (by omega)) nh_Wr_writeLength ln_Wr_writeLength rfl (by exact h22) (nle rfl) (nle rfl) (nle rfl) (nle rfl) (nle rfl) ?_
    refine x_aload_n C d_Wr_writeMatch_51 rfl ?_
    refine x_get C (G_Wr E.1) 0 (u_204 E.1) d_Wr_writeMatch_52 (by decide) (by exact h22) rfl ?_
    refine x_sipush C d_Wr_writeMatch_55 (by decide) ?_
    refine x_iload_n C d_Wr_writeMatch_58 rfl ?_
    refine x_iconst C d_Wr_writeMatch_59 ?_
    refine x_min C (u_477 E.1) (u_140 E.1) (u_7 E.1) (u_141 E.1) d_Wr_writeMatch_60 (nle rfl) (nle rfl) (nle rfl) (nle rfl) (by omega) (by omega) (by omega) (by omega) ?_
    refine x_bipush C d_Wr_writeMatch_63 (by decide) ?_
    refine x_imul C d_Wr_writeMatch_65 ?_
    refine x_iadd C d_Wr_writeMatch_66 ?_
    refine x_iconst C d_Wr_writeMatch_67 ?_
    refine x_iload C d_Wr_writeMatch_68 rfl ?_
    refine x_callVR C (G_Na E.1) (u_472 E.1) (u_473 E.1) (u_474 E.1) (u_475 E.1) (u_9 E.1) d_Wr_writeMatch_70 (c_Na_writeTree l E h24 (eOk_len ok _ _).1 (by have := (eOk_len ok 72 (ln - 2)).2; omega) 4 (by omega) (by omega) (by omega) (by omega) (by omega)) nh_Na_writeTree ln_Na_writeTree rfl rfl (nle rfl) (nle rfl) (nle rfl) (nle rfl) (nle rfl) ?_
    refine x_iload C d_Wr_writeMatch_73 rfl ?_
    refine x_iconst C d_Wr_writeMatch_75 ?_
    refine x_icmp_lt C (tgt := 106) d_Wr_writeMatch_76 (by decide) (by omega) (by omega) (by omega) (by omega) (fun c76 => ?_) (fun c76 => ?_)
    · exact x_vret C d_Wr_writeMatch_106 (nle rfl) (nle rfl) ⟨rfl, by
  first
    | (exfalso; omega)
    | (unfold eMatch; rw [if_pos (by omega)]; done)
    | (unfold eMatch; rw [if_neg (by omega)]; done), rfl⟩
    · refine x_sipush C d_Wr_writeMatch_79 (by decide) ?_
      refine x_iload C d_Wr_writeMatch_82 rfl ?_
      refine x_iconst C d_Wr_writeMatch_84 ?_
      refine x_isub C d_Wr_writeMatch_85 ?_
      refine x_bipush C d_Wr_writeMatch_86 (by decide) ?_
      refine x_imul C d_Wr_writeMatch_88 ?_
      refine x_iadd C d_Wr_writeMatch_89 ?_
      refine x_istore C d_Wr_writeMatch_90 (by decide) ?_
      refine x_aload_n C d_Wr_writeMatch_92 rfl ?_
      refine x_get C (G_Wr E.1) 0 (u_204 E.1) d_Wr_writeMatch_93 (by decide) (by exact h22) rfl ?_
      refine x_iload C d_Wr_writeMatch_96 rfl ?_
      refine x_iload C d_Wr_writeMatch_98 rfl ?_
      refine x_iconst C d_Wr_writeMatch_100 ?_
      refine x_isub C d_Wr_writeMatch_101 ?_
      have hg := hb_ge (d := ds - 1) (by omega)
      have hp := hb_pow (d := ds - 1) (by omega)
      rw [show ((hbZ (ds - 1) : Nat) : Int) - 1 = ((hbZ (ds - 1) - 1 : Nat) : Int) by omega]
      refine x_iload_n C d_Wr_writeMatch_102 rfl ?_
      refine x_callVR C (G_Na E.1) (u_478 E.1) (u_479 E.1) (u_480 E.1) (u_481 E.1) (u_9 E.1) d_Wr_writeMatch_103 (c_Na_writeRow l E h24 (eOk_tree 4 _ _ _ _ (eOk_len ok _ _).1).1 (by have := (eOk_len ok 72 (ln - 2)).2; have := (eOk_tree 4 (364 + min (ln - 2) 3 * 16) (slotZ (ds - 1)) 1 _ (eOk_len ok 72 (ln - 2)).1).2; omega) (hbZ (ds - 1) - 1) (by have := hb_le (ds - 1); omega) (by omega) (by omega) (by omega) (by omega)) nh_Na_writeRow ln_Na_writeRow rfl rfl (nle rfl) (nle rfl) (nle rfl) (nle rfl) (nle rfl) ?_
      exact x_vret C d_Wr_writeMatch_106 (nle rfl) (nle rfl) ⟨rfl, by
  first
    | (exfalso; omega)
    | (unfold eMatch; rw [if_pos (by omega)]; done)
    | (unfold eMatch; rw [if_neg (by omega)]; done), rfl⟩

set_option maxRecDepth 100000 in
set_option maxHeartbeats 4000000 in
theorem c_Wr_repeat3 {a0 : Array Value} {s0 : State} {D : va_G} {cI cL : ClassId} (l : Launch) (E : a_E a0 s0 D cI cL) {h : AH} {K : Nat} {x : En} (h22 : h 22 = some (oWr s0.heap.size)) (h24 : h 24 = some (oCh s0.heap.size 25)) (ok : eOk x) (lx : x.2.2.1 < 97000) {ln ds ec li st : Int} (s1 : 0 ≤ st) (s2 : st ≤ 11) (h16 : h 16 = some (oPa 3 ln ds ec li)) : XM l s0 D y_Wr_writeRepeat prog_11_method_6_code 3 none 4 0 0 [.ref (s0.heap.size + 22), .ref (s0.heap.size + 16), .int (zI st)] (sN s0.heap.size cI h x) (K) (PR none (sN s0.heap.size cI h (eEcho st (-1) x)) K) := by
  refine XM.of (cI := cI) (cL := cL) (own := "NarrowingPacker$PacketWriter") (by decide) rfl E.2 (nle rfl) ?_
  intro p e s m below meth c C hn
  refine x_aload_n C d_Wr_writeRepeat_0 rfl ?_
  refine x_getN C (G_Pa E.1) 0 (u_79 E.1) d_Wr_writeRepeat_1 (by decide) (by exact h16) rfl ?_
  refine x_iconst C d_Wr_writeRepeat_4 ?_
  refine x_icmp_eq C (tgt := 15) d_Wr_writeRepeat_5 (by decide) (by omega) (by omega) (by omega) (by omega) (fun c5 => ?_) (fun c5 => ?_)
  · refine x_aload_n C d_Wr_writeRepeat_15 rfl ?_
    refine x_get C (G_Wr E.1) 0 (u_204 E.1) d_Wr_writeRepeat_16 (by decide) (by exact h22) rfl ?_
    refine x_bipush C d_Wr_writeRepeat_19 (by decide) ?_
    refine x_iload_n C d_Wr_writeRepeat_21 rfl ?_
    refine x_iadd C d_Wr_writeRepeat_22 ?_
    refine x_iconst C d_Wr_writeRepeat_23 ?_
    refine x_callVR C (G_Na E.1) (u_426 E.1) (u_427 E.1) (u_428 E.1) (u_429 E.1) (u_9 E.1) d_Wr_writeRepeat_24 (c_Na_writeBit l E h24 ok (by omega) (by omega) (by omega) (by omega)) nh_Na_writeBit ln_Na_writeBit rfl rfl (nle rfl) (nle rfl) (nle rfl) (nle rfl) (nle rfl) ?_
    refine x_aload_n C d_Wr_writeRepeat_27 rfl ?_
    refine x_get C (G_Wr E.1) 0 (u_204 E.1) d_Wr_writeRepeat_28 (by decide) (by exact h22) rfl ?_
    refine x_bipush C d_Wr_writeRepeat_31 (by decide) ?_
    refine x_iload_n C d_Wr_writeRepeat_33 rfl ?_
    refine x_iadd C d_Wr_writeRepeat_34 ?_
    refine x_aload_n C d_Wr_writeRepeat_35 rfl ?_
    refine x_getN C (G_Pa E.1) 0 (u_79 E.1) d_Wr_writeRepeat_36 (by decide) (by exact h16) rfl ?_
    refine x_iconst C d_Wr_writeRepeat_39 ?_
    refine x_icmp_ne C (tgt := 47) d_Wr_writeRepeat_40 (by decide) (by omega) (by omega) (by omega) (by omega) (fun c40 => ?_) (fun c40 => ?_)
    · exfalso; omega
    · refine x_iconst C d_Wr_writeRepeat_43 ?_
      refine x_goto C (tgt := 48) d_Wr_writeRepeat_44 (by decide) ?_
      refine x_callVR C (G_Na E.1) (u_426 E.1) (u_427 E.1) (u_428 E.1) (u_429 E.1) (u_9 E.1) d_Wr_writeRepeat_48 (c_Na_writeBit l E h24 (eOk_bit ok _ _) (by have := len_bit x (24 + st) 0; omega) (by omega) (by omega) (by omega)) nh_Na_writeBit ln_Na_writeBit rfl rfl (nle rfl) (nle rfl) (nle rfl) (nle rfl) (nle rfl) ?_
      refine x_goto C (tgt := 122) d_Wr_writeRepeat_51 (by decide) ?_
      refine x_aload_n C d_Wr_writeRepeat_122 rfl ?_
      refine x_getN C (G_Pa E.1) 0 (u_79 E.1) d_Wr_writeRepeat_123 (by decide) (by exact h16) rfl ?_
      refine x_iconst C d_Wr_writeRepeat_126 ?_
      refine x_icmp_ne C (tgt := 143) d_Wr_writeRepeat_127 (by decide) (by omega) (by omega) (by omega) (by omega) (fun c127 => ?_) (fun c127 => ?_)
      · exact x_vret C d_Wr_writeRepeat_143 (nle rfl) (nle rfl) ⟨rfl, by
  first
    | (exfalso; omega)
    | (unfold eEcho; rw [if_pos rfl]; done), rfl⟩
      · exfalso; omega
  · exfalso; omega

theorem eOk_echo {x : En} (ok : eOk x) (st k : Int) : eOk (eEcho st k x) ∧ (eEcho st k x).2.2.1 ≤ x.2.2.1 + 3 := by
  have a0 := len_bit x (24 + st) 0
  have a1 := len_bit x (24 + st) 1
  unfold eEcho
  split
  · have b := len_bit (eBit x (24 + st) 0) (36 + st) 0
    exact ⟨eOk_bit (eOk_bit ok _ _) _ _, by omega⟩
  · split
    · have b := len_bit (eBit x (24 + st) 0) (36 + st) 1
      exact ⟨eOk_bit (eOk_bit ok _ _) _ _, by omega⟩
    · split
      · have b := len_bit (eBit x (24 + st) 1) (48 + st) 0
        exact ⟨eOk_bit (eOk_bit ok _ _) _ _, by omega⟩
      · have b := len_bit (eBit x (24 + st) 1) (48 + st) 1
        have c := len_bit (eBit (eBit x (24 + st) 1) (48 + st) 1) (60 + st) (k - 2)
        exact ⟨eOk_bit (eOk_bit (eOk_bit ok _ _) _ _) _ _, by omega⟩
set_option maxRecDepth 100000 in
set_option maxHeartbeats 4000000 in
theorem c_Wr_repeat2 {a0 : Array Value} {s0 : State} {D : va_G} {cI cL : ClassId} (l : Launch) (E : a_E a0 s0 D cI cL) {h : AH} {K : Nat} {x : En} (h22 : h 22 = some (oWr s0.heap.size)) (h24 : h 24 = some (oCh s0.heap.size 25)) (ok : eOk x) (lx : x.2.2.1 < 97000) {ln ds ec li st : Int} (s1 : 0 ≤ st) (s2 : st ≤ 11) (h16 : h 16 = some (oPa 2 ln ds ec li)) (e1 : 0 ≤ ec) (e2 : ec ≤ 3) (n1 : 2 ≤ ln) (n2 : ln ≤ 120) : XM l s0 D y_Wr_writeRepeat prog_11_method_6_code 3 none 4 0 0 [.ref (s0.heap.size + 22), .ref (s0.heap.size + 16), .int (zI st)] (sN s0.heap.size cI h x) (K) (PR none (sN s0.heap.size cI h (eLen 218 (ln - 2) (eEcho st ec x))) K) := by
  refine XM.of (cI := cI) (cL := cL) (own := "NarrowingPacker$PacketWriter") (by decide) rfl E.2 (nle rfl) ?_
  intro p e s m below meth c C hn
  refine x_aload_n C d_Wr_writeRepeat_0 rfl ?_
  refine x_getN C (G_Pa E.1) 0 (u_79 E.1) d_Wr_writeRepeat_1 (by decide) (by exact h16) rfl ?_
  refine x_iconst C d_Wr_writeRepeat_4 ?_
  refine x_icmp_eq C (tgt := 15) d_Wr_writeRepeat_5 (by decide) (by omega) (by omega) (by omega) (by omega) (fun c5 => ?_) (fun c5 => ?_)
  · refine x_aload_n C d_Wr_writeRepeat_15 rfl ?_
    refine x_get C (G_Wr E.1) 0 (u_204 E.1) d_Wr_writeRepeat_16 (by decide) (by exact h22) rfl ?_
    refine x_bipush C d_Wr_writeRepeat_19 (by decide) ?_
    refine x_iload_n C d_Wr_writeRepeat_21 rfl ?_
    refine x_iadd C d_Wr_writeRepeat_22 ?_
    refine x_iconst C d_Wr_writeRepeat_23 ?_
    refine x_callVR C (G_Na E.1) (u_426 E.1) (u_427 E.1) (u_428 E.1) (u_429 E.1) (u_9 E.1) d_Wr_writeRepeat_24 (c_Na_writeBit l E h24 ok (by omega) (by omega) (by omega) (by omega)) nh_Na_writeBit ln_Na_writeBit rfl rfl (nle rfl) (nle rfl) (nle rfl) (nle rfl) (nle rfl) ?_
    refine x_aload_n C d_Wr_writeRepeat_27 rfl ?_
    refine x_get C (G_Wr E.1) 0 (u_204 E.1) d_Wr_writeRepeat_28 (by decide) (by exact h22) rfl ?_
    refine x_bipush C d_Wr_writeRepeat_31 (by decide) ?_
    refine x_iload_n C d_Wr_writeRepeat_33 rfl ?_
    refine x_iadd C d_Wr_writeRepeat_34 ?_
    refine x_aload_n C d_Wr_writeRepeat_35 rfl ?_
    refine x_getN C (G_Pa E.1) 0 (u_79 E.1) d_Wr_writeRepeat_36 (by decide) (by exact h16) rfl ?_
    refine x_iconst C d_Wr_writeRepeat_39 ?_
    refine x_icmp_ne C (tgt := 47) d_Wr_writeRepeat_40 (by decide) (by omega) (by omega) (by omega) (by omega) (fun c40 => ?_) (fun c40 => ?_)
    · refine x_iconst C d_Wr_writeRepeat_47 ?_
      refine x_callVR C (G_Na E.1) (u_426 E.1) (u_427 E.1) (u_428 E.1) (u_429 E.1) (u_9 E.1) d_Wr_writeRepeat_48 (c_Na_writeBit l E h24 (eOk_bit ok _ _) (by have := len_bit x (24 + st) 0; omega) (by omega) (by omega) (by omega)) nh_Na_writeBit ln_Na_writeBit rfl rfl (nle rfl) (nle rfl) (nle rfl) (nle rfl) (nle rfl) ?_
      refine x_goto C (tgt := 122) d_Wr_writeRepeat_51 (by decide) ?_
      refine XW.heq (h' := sN s0.heap.size cI h (eEcho st ec x)) (by
        unfold eEcho
        first
          | (exfalso; omega)
          | (rw [if_neg (by omega), if_pos (by omega)]; done)
          | (rw [if_neg (by omega), if_neg (by omega), if_pos (by omega)]; done)
          | (rw [if_neg (by omega), if_neg (by omega), if_neg (by omega), show ec - 2 = 0 by omega]; done)
          | (rw [if_neg (by omega), if_neg (by omega), if_neg (by omega), show ec - 2 = 1 by omega]; done)) ?_
      refine x_aload_n C d_Wr_writeRepeat_122 rfl ?_
      refine x_getN C (G_Pa E.1) 0 (u_79 E.1) d_Wr_writeRepeat_123 (by decide) (by exact h16) rfl ?_
      refine x_iconst C d_Wr_writeRepeat_126 ?_
      refine x_icmp_ne C (tgt := 143) d_Wr_writeRepeat_127 (by decide) (by omega) (by omega) (by omega) (by omega) (fun c127 => ?_) (fun c127 => ?_)
      · first
          | (exfalso; omega)
          | exact x_vret C d_Wr_writeRepeat_143 (nle rfl) (nle rfl) ⟨rfl, rfl, rfl⟩
      · refine x_aload_n C d_Wr_writeRepeat_130 rfl ?_
        refine x_sipush C d_Wr_writeRepeat_131 (by decide) ?_
        refine x_aload_n C d_Wr_writeRepeat_134 rfl ?_
        refine x_getN C (G_Pa E.1) 1 (u_86 E.1) d_Wr_writeRepeat_135 (by decide) (by exact h16) rfl ?_
        refine x_iconst C d_Wr_writeRepeat_138 ?_
        refine x_isub C d_Wr_writeRepeat_139 ?_
        refine x_callVR C (G_Wr E.1) (u_468 E.1) (u_470 E.1) (us_7 E.1) (u_471 E.1) (u_8 E.1) d_Wr_writeRepeat_140 (c_Wr_writeLength l E h22 h24 (eOk_echo ok _ _).1 (by have := (eOk_echo ok st ec).2; omega) (by omega) (by omega) (by omega) (by omega)) nh_Wr_writeLength ln_Wr_writeLength rfl (by exact h22) (nle rfl) (nle rfl) (nle rfl) (nle rfl) (nle rfl) ?_
        first
          | (exfalso; omega)
          | exact x_vret C d_Wr_writeRepeat_143 (nle rfl) (nle rfl) ⟨rfl, rfl, rfl⟩
    · refine x_iconst C d_Wr_writeRepeat_43 ?_
      refine x_goto C (tgt := 48) d_Wr_writeRepeat_44 (by decide) ?_
      refine x_callVR C (G_Na E.1) (u_426 E.1) (u_427 E.1) (u_428 E.1) (u_429 E.1) (u_9 E.1) d_Wr_writeRepeat_48 (c_Na_writeBit l E h24 (eOk_bit ok _ _) (by have := len_bit x (24 + st) 0; omega) (by omega) (by omega) (by omega)) nh_Na_writeBit ln_Na_writeBit rfl rfl (nle rfl) (nle rfl) (nle rfl) (nle rfl) (nle rfl) ?_
      refine x_goto C (tgt := 122) d_Wr_writeRepeat_51 (by decide) ?_
      refine XW.heq (h' := sN s0.heap.size cI h (eEcho st ec x)) (by
        unfold eEcho
        first
          | (exfalso; omega)
          | (rw [if_neg (by omega), if_pos (by omega)]; done)
          | (rw [if_neg (by omega), if_neg (by omega), if_pos (by omega)]; done)
          | (rw [if_neg (by omega), if_neg (by omega), if_neg (by omega), show ec - 2 = 0 by omega]; done)
          | (rw [if_neg (by omega), if_neg (by omega), if_neg (by omega), show ec - 2 = 1 by omega]; done)) ?_
      refine x_aload_n C d_Wr_writeRepeat_122 rfl ?_
      refine x_getN C (G_Pa E.1) 0 (u_79 E.1) d_Wr_writeRepeat_123 (by decide) (by exact h16) rfl ?_
      refine x_iconst C d_Wr_writeRepeat_126 ?_
      refine x_icmp_ne C (tgt := 143) d_Wr_writeRepeat_127 (by decide) (by omega) (by omega) (by omega) (by omega) (fun c127 => ?_) (fun c127 => ?_)
      · first
          | (exfalso; omega)
          | exact x_vret C d_Wr_writeRepeat_143 (nle rfl) (nle rfl) ⟨rfl, rfl, rfl⟩
      · refine x_aload_n C d_Wr_writeRepeat_130 rfl ?_
        refine x_sipush C d_Wr_writeRepeat_131 (by decide) ?_
        refine x_aload_n C d_Wr_writeRepeat_134 rfl ?_
        refine x_getN C (G_Pa E.1) 1 (u_86 E.1) d_Wr_writeRepeat_135 (by decide) (by exact h16) rfl ?_
        refine x_iconst C d_Wr_writeRepeat_138 ?_
        refine x_isub C d_Wr_writeRepeat_139 ?_
        refine x_callVR C (G_Wr E.1) (u_468 E.1) (u_470 E.1) (us_7 E.1) (u_471 E.1) (u_8 E.1) d_Wr_writeRepeat_140 (c_Wr_writeLength l E h22 h24 (eOk_echo ok _ _).1 (by have := (eOk_echo ok st ec).2; omega) (by omega) (by omega) (by omega) (by omega)) nh_Wr_writeLength ln_Wr_writeLength rfl (by exact h22) (nle rfl) (nle rfl) (nle rfl) (nle rfl) (nle rfl) ?_
        first
          | (exfalso; omega)
          | exact x_vret C d_Wr_writeRepeat_143 (nle rfl) (nle rfl) ⟨rfl, rfl, rfl⟩
  · refine x_aload_n C d_Wr_writeRepeat_8 rfl ?_
    refine x_getN C (G_Pa E.1) 3 (u_96 E.1) d_Wr_writeRepeat_9 (by decide) (by exact h16) rfl ?_
    refine x_if_ne C (tgt := 54) d_Wr_writeRepeat_12 (by decide) (by omega) (by omega) (fun c12 => ?_) (fun c12 => ?_)
    · refine x_aload_n C d_Wr_writeRepeat_54 rfl ?_
      refine x_get C (G_Wr E.1) 0 (u_204 E.1) d_Wr_writeRepeat_55 (by decide) (by exact h22) rfl ?_
      refine x_bipush C d_Wr_writeRepeat_58 (by decide) ?_
      refine x_iload_n C d_Wr_writeRepeat_60 rfl ?_
      refine x_iadd C d_Wr_writeRepeat_61 ?_
      refine x_iconst C d_Wr_writeRepeat_62 ?_
      refine x_callVR C (G_Na E.1) (u_426 E.1) (u_427 E.1) (u_428 E.1) (u_429 E.1) (u_9 E.1) d_Wr_writeRepeat_63 (c_Na_writeBit l E h24 ok (by omega) (by omega) (by omega) (by omega)) nh_Na_writeBit ln_Na_writeBit rfl rfl (nle rfl) (nle rfl) (nle rfl) (nle rfl) (nle rfl) ?_
      refine x_aload_n C d_Wr_writeRepeat_66 rfl ?_
      refine x_get C (G_Wr E.1) 0 (u_204 E.1) d_Wr_writeRepeat_67 (by decide) (by exact h22) rfl ?_
      refine x_bipush C d_Wr_writeRepeat_70 (by decide) ?_
      refine x_iload_n C d_Wr_writeRepeat_72 rfl ?_
      refine x_iadd C d_Wr_writeRepeat_73 ?_
      refine x_aload_n C d_Wr_writeRepeat_74 rfl ?_
      refine x_getN C (G_Pa E.1) 3 (u_96 E.1) d_Wr_writeRepeat_75 (by decide) (by exact h16) rfl ?_
      refine x_iconst C d_Wr_writeRepeat_78 ?_
      refine x_icmp_ne C (tgt := 86) d_Wr_writeRepeat_79 (by decide) (by omega) (by omega) (by omega) (by omega) (fun c79 => ?_) (fun c79 => ?_)
      · refine x_iconst C d_Wr_writeRepeat_86 ?_
        refine x_callVR C (G_Na E.1) (u_426 E.1) (u_427 E.1) (u_428 E.1) (u_429 E.1) (u_9 E.1) d_Wr_writeRepeat_87 (c_Na_writeBit l E h24 (eOk_bit ok _ _) (by have := len_bit x (24 + st) 1; omega) (by omega) (by omega) (by omega)) nh_Na_writeBit ln_Na_writeBit rfl rfl (nle rfl) (nle rfl) (nle rfl) (nle rfl) (nle rfl) ?_
        refine x_aload_n C d_Wr_writeRepeat_90 rfl ?_
        refine x_getN C (G_Pa E.1) 3 (u_96 E.1) d_Wr_writeRepeat_91 (by decide) (by exact h16) rfl ?_
        refine x_iconst C d_Wr_writeRepeat_94 ?_
        refine x_icmp_le C (tgt := 122) d_Wr_writeRepeat_95 (by decide) (by omega) (by omega) (by omega) (by omega) (fun c95 => ?_) (fun c95 => ?_)
        · refine XW.heq (h' := sN s0.heap.size cI h (eEcho st ec x)) (by
            unfold eEcho
            first
              | (exfalso; omega)
              | (rw [if_neg (by omega), if_pos (by omega)]; done)
              | (rw [if_neg (by omega), if_neg (by omega), if_pos (by omega)]; done)
              | (rw [if_neg (by omega), if_neg (by omega), if_neg (by omega), show ec - 2 = 0 by omega]; done)
              | (rw [if_neg (by omega), if_neg (by omega), if_neg (by omega), show ec - 2 = 1 by omega]; done)) ?_
          refine x_aload_n C d_Wr_writeRepeat_122 rfl ?_
          refine x_getN C (G_Pa E.1) 0 (u_79 E.1) d_Wr_writeRepeat_123 (by decide) (by exact h16) rfl ?_
          refine x_iconst C d_Wr_writeRepeat_126 ?_
          refine x_icmp_ne C (tgt := 143) d_Wr_writeRepeat_127 (by decide) (by omega) (by omega) (by omega) (by omega) (fun c127 => ?_) (fun c127 => ?_)
          · first
              | (exfalso; omega)
              | exact x_vret C d_Wr_writeRepeat_143 (nle rfl) (nle rfl) ⟨rfl, rfl, rfl⟩
          · refine x_aload_n C d_Wr_writeRepeat_130 rfl ?_
            refine x_sipush C d_Wr_writeRepeat_131 (by decide) ?_
            refine x_aload_n C d_Wr_writeRepeat_134 rfl ?_
            refine x_getN C (G_Pa E.1) 1 (u_86 E.1) d_Wr_writeRepeat_135 (by decide) (by exact h16) rfl ?_
            refine x_iconst C d_Wr_writeRepeat_138 ?_
            refine x_isub C d_Wr_writeRepeat_139 ?_
            refine x_callVR C (G_Wr E.1) (u_468 E.1) (u_470 E.1) (us_7 E.1) (u_471 E.1) (u_8 E.1) d_Wr_writeRepeat_140 (c_Wr_writeLength l E h22 h24 (eOk_echo ok _ _).1 (by have := (eOk_echo ok st ec).2; omega) (by omega) (by omega) (by omega) (by omega)) nh_Wr_writeLength ln_Wr_writeLength rfl (by exact h22) (nle rfl) (nle rfl) (nle rfl) (nle rfl) (nle rfl) ?_
            first
              | (exfalso; omega)
              | exact x_vret C d_Wr_writeRepeat_143 (nle rfl) (nle rfl) ⟨rfl, rfl, rfl⟩
        · refine x_aload_n C d_Wr_writeRepeat_98 rfl ?_
          refine x_get C (G_Wr E.1) 0 (u_204 E.1) d_Wr_writeRepeat_99 (by decide) (by exact h22) rfl ?_
          refine x_bipush C d_Wr_writeRepeat_102 (by decide) ?_
          refine x_iload_n C d_Wr_writeRepeat_104 rfl ?_
          refine x_iadd C d_Wr_writeRepeat_105 ?_
          refine x_aload_n C d_Wr_writeRepeat_106 rfl ?_
          refine x_getN C (G_Pa E.1) 3 (u_96 E.1) d_Wr_writeRepeat_107 (by decide) (by exact h16) rfl ?_
          refine x_iconst C d_Wr_writeRepeat_110 ?_
          refine x_icmp_ne C (tgt := 118) d_Wr_writeRepeat_111 (by decide) (by omega) (by omega) (by omega) (by omega) (fun c111 => ?_) (fun c111 => ?_)
          · refine x_iconst C d_Wr_writeRepeat_118 ?_
            refine x_callVR C (G_Na E.1) (u_426 E.1) (u_427 E.1) (u_428 E.1) (u_429 E.1) (u_9 E.1) d_Wr_writeRepeat_119 (c_Na_writeBit l E h24 (eOk_bit (eOk_bit ok _ _) _ _) (by have := len_bit x (24 + st) 1; have := len_bit (eBit x (24 + st) 1) (48 + st) 1; omega) (by omega) (by omega) (by omega)) nh_Na_writeBit ln_Na_writeBit rfl rfl (nle rfl) (nle rfl) (nle rfl) (nle rfl) (nle rfl) ?_
            refine XW.heq (h' := sN s0.heap.size cI h (eEcho st ec x)) (by
              unfold eEcho
              first
                | (exfalso; omega)
                | (rw [if_neg (by omega), if_pos (by omega)]; done)
                | (rw [if_neg (by omega), if_neg (by omega), if_pos (by omega)]; done)
                | (rw [if_neg (by omega), if_neg (by omega), if_neg (by omega), show ec - 2 = 0 by omega]; done)
                | (rw [if_neg (by omega), if_neg (by omega), if_neg (by omega), show ec - 2 = 1 by omega]; done)) ?_
            refine x_aload_n C d_Wr_writeRepeat_122 rfl ?_
            refine x_getN C (G_Pa E.1) 0 (u_79 E.1) d_Wr_writeRepeat_123 (by decide) (by exact h16) rfl ?_
            refine x_iconst C d_Wr_writeRepeat_126 ?_
            refine x_icmp_ne C (tgt := 143) d_Wr_writeRepeat_127 (by decide) (by omega) (by omega) (by omega) (by omega) (fun c127 => ?_) (fun c127 => ?_)
            · first
                | (exfalso; omega)
                | exact x_vret C d_Wr_writeRepeat_143 (nle rfl) (nle rfl) ⟨rfl, rfl, rfl⟩
            · refine x_aload_n C d_Wr_writeRepeat_130 rfl ?_
              refine x_sipush C d_Wr_writeRepeat_131 (by decide) ?_
              refine x_aload_n C d_Wr_writeRepeat_134 rfl ?_
              refine x_getN C (G_Pa E.1) 1 (u_86 E.1) d_Wr_writeRepeat_135 (by decide) (by exact h16) rfl ?_
              refine x_iconst C d_Wr_writeRepeat_138 ?_
              refine x_isub C d_Wr_writeRepeat_139 ?_
              refine x_callVR C (G_Wr E.1) (u_468 E.1) (u_470 E.1) (us_7 E.1) (u_471 E.1) (u_8 E.1) d_Wr_writeRepeat_140 (c_Wr_writeLength l E h22 h24 (eOk_echo ok _ _).1 (by have := (eOk_echo ok st ec).2; omega) (by omega) (by omega) (by omega) (by omega)) nh_Wr_writeLength ln_Wr_writeLength rfl (by exact h22) (nle rfl) (nle rfl) (nle rfl) (nle rfl) (nle rfl) ?_
              first
                | (exfalso; omega)
                | exact x_vret C d_Wr_writeRepeat_143 (nle rfl) (nle rfl) ⟨rfl, rfl, rfl⟩
          · refine x_iconst C d_Wr_writeRepeat_114 ?_
            refine x_goto C (tgt := 119) d_Wr_writeRepeat_115 (by decide) ?_
            refine x_callVR C (G_Na E.1) (u_426 E.1) (u_427 E.1) (u_428 E.1) (u_429 E.1) (u_9 E.1) d_Wr_writeRepeat_119 (c_Na_writeBit l E h24 (eOk_bit (eOk_bit ok _ _) _ _) (by have := len_bit x (24 + st) 1; have := len_bit (eBit x (24 + st) 1) (48 + st) 1; omega) (by omega) (by omega) (by omega)) nh_Na_writeBit ln_Na_writeBit rfl rfl (nle rfl) (nle rfl) (nle rfl) (nle rfl) (nle rfl) ?_
            refine XW.heq (h' := sN s0.heap.size cI h (eEcho st ec x)) (by
              unfold eEcho
              first
                | (exfalso; omega)
                | (rw [if_neg (by omega), if_pos (by omega)]; done)
                | (rw [if_neg (by omega), if_neg (by omega), if_pos (by omega)]; done)
                | (rw [if_neg (by omega), if_neg (by omega), if_neg (by omega), show ec - 2 = 0 by omega]; done)
                | (rw [if_neg (by omega), if_neg (by omega), if_neg (by omega), show ec - 2 = 1 by omega]; done)) ?_
            refine x_aload_n C d_Wr_writeRepeat_122 rfl ?_
            refine x_getN C (G_Pa E.1) 0 (u_79 E.1) d_Wr_writeRepeat_123 (by decide) (by exact h16) rfl ?_
            refine x_iconst C d_Wr_writeRepeat_126 ?_
            refine x_icmp_ne C (tgt := 143) d_Wr_writeRepeat_127 (by decide) (by omega) (by omega) (by omega) (by omega) (fun c127 => ?_) (fun c127 => ?_)
            · first
                | (exfalso; omega)
                | exact x_vret C d_Wr_writeRepeat_143 (nle rfl) (nle rfl) ⟨rfl, rfl, rfl⟩
            · refine x_aload_n C d_Wr_writeRepeat_130 rfl ?_
              refine x_sipush C d_Wr_writeRepeat_131 (by decide) ?_
              refine x_aload_n C d_Wr_writeRepeat_134 rfl ?_
              refine x_getN C (G_Pa E.1) 1 (u_86 E.1) d_Wr_writeRepeat_135 (by decide) (by exact h16) rfl ?_
              refine x_iconst C d_Wr_writeRepeat_138 ?_
              refine x_isub C d_Wr_writeRepeat_139 ?_
              refine x_callVR C (G_Wr E.1) (u_468 E.1) (u_470 E.1) (us_7 E.1) (u_471 E.1) (u_8 E.1) d_Wr_writeRepeat_140 (c_Wr_writeLength l E h22 h24 (eOk_echo ok _ _).1 (by have := (eOk_echo ok st ec).2; omega) (by omega) (by omega) (by omega) (by omega)) nh_Wr_writeLength ln_Wr_writeLength rfl (by exact h22) (nle rfl) (nle rfl) (nle rfl) (nle rfl) (nle rfl) ?_
              first
                | (exfalso; omega)
                | exact x_vret C d_Wr_writeRepeat_143 (nle rfl) (nle rfl) ⟨rfl, rfl, rfl⟩
      · refine x_iconst C d_Wr_writeRepeat_82 ?_
        refine x_goto C (tgt := 87) d_Wr_writeRepeat_83 (by decide) ?_
        refine x_callVR C (G_Na E.1) (u_426 E.1) (u_427 E.1) (u_428 E.1) (u_429 E.1) (u_9 E.1) d_Wr_writeRepeat_87 (c_Na_writeBit l E h24 (eOk_bit ok _ _) (by have := len_bit x (24 + st) 1; omega) (by omega) (by omega) (by omega)) nh_Na_writeBit ln_Na_writeBit rfl rfl (nle rfl) (nle rfl) (nle rfl) (nle rfl) (nle rfl) ?_
        refine x_aload_n C d_Wr_writeRepeat_90 rfl ?_
        refine x_getN C (G_Pa E.1) 3 (u_96 E.1) d_Wr_writeRepeat_91 (by decide) (by exact h16) rfl ?_
        refine x_iconst C d_Wr_writeRepeat_94 ?_
        refine x_icmp_le C (tgt := 122) d_Wr_writeRepeat_95 (by decide) (by omega) (by omega) (by omega) (by omega) (fun c95 => ?_) (fun c95 => ?_)
        · refine XW.heq (h' := sN s0.heap.size cI h (eEcho st ec x)) (by
            unfold eEcho
            first
              | (exfalso; omega)
              | (rw [if_neg (by omega), if_pos (by omega)]; done)
              | (rw [if_neg (by omega), if_neg (by omega), if_pos (by omega)]; done)
              | (rw [if_neg (by omega), if_neg (by omega), if_neg (by omega), show ec - 2 = 0 by omega]; done)
              | (rw [if_neg (by omega), if_neg (by omega), if_neg (by omega), show ec - 2 = 1 by omega]; done)) ?_
          refine x_aload_n C d_Wr_writeRepeat_122 rfl ?_
          refine x_getN C (G_Pa E.1) 0 (u_79 E.1) d_Wr_writeRepeat_123 (by decide) (by exact h16) rfl ?_
          refine x_iconst C d_Wr_writeRepeat_126 ?_
          refine x_icmp_ne C (tgt := 143) d_Wr_writeRepeat_127 (by decide) (by omega) (by omega) (by omega) (by omega) (fun c127 => ?_) (fun c127 => ?_)
          · first
              | (exfalso; omega)
              | exact x_vret C d_Wr_writeRepeat_143 (nle rfl) (nle rfl) ⟨rfl, rfl, rfl⟩
          · refine x_aload_n C d_Wr_writeRepeat_130 rfl ?_
            refine x_sipush C d_Wr_writeRepeat_131 (by decide) ?_
            refine x_aload_n C d_Wr_writeRepeat_134 rfl ?_
            refine x_getN C (G_Pa E.1) 1 (u_86 E.1) d_Wr_writeRepeat_135 (by decide) (by exact h16) rfl ?_
            refine x_iconst C d_Wr_writeRepeat_138 ?_
            refine x_isub C d_Wr_writeRepeat_139 ?_
            refine x_callVR C (G_Wr E.1) (u_468 E.1) (u_470 E.1) (us_7 E.1) (u_471 E.1) (u_8 E.1) d_Wr_writeRepeat_140 (c_Wr_writeLength l E h22 h24 (eOk_echo ok _ _).1 (by have := (eOk_echo ok st ec).2; omega) (by omega) (by omega) (by omega) (by omega)) nh_Wr_writeLength ln_Wr_writeLength rfl (by exact h22) (nle rfl) (nle rfl) (nle rfl) (nle rfl) (nle rfl) ?_
            first
              | (exfalso; omega)
              | exact x_vret C d_Wr_writeRepeat_143 (nle rfl) (nle rfl) ⟨rfl, rfl, rfl⟩
        · refine x_aload_n C d_Wr_writeRepeat_98 rfl ?_
          refine x_get C (G_Wr E.1) 0 (u_204 E.1) d_Wr_writeRepeat_99 (by decide) (by exact h22) rfl ?_
          refine x_bipush C d_Wr_writeRepeat_102 (by decide) ?_
          refine x_iload_n C d_Wr_writeRepeat_104 rfl ?_
          refine x_iadd C d_Wr_writeRepeat_105 ?_
          refine x_aload_n C d_Wr_writeRepeat_106 rfl ?_
          refine x_getN C (G_Pa E.1) 3 (u_96 E.1) d_Wr_writeRepeat_107 (by decide) (by exact h16) rfl ?_
          refine x_iconst C d_Wr_writeRepeat_110 ?_
          refine x_icmp_ne C (tgt := 118) d_Wr_writeRepeat_111 (by decide) (by omega) (by omega) (by omega) (by omega) (fun c111 => ?_) (fun c111 => ?_)
          · refine x_iconst C d_Wr_writeRepeat_118 ?_
            refine x_callVR C (G_Na E.1) (u_426 E.1) (u_427 E.1) (u_428 E.1) (u_429 E.1) (u_9 E.1) d_Wr_writeRepeat_119 (c_Na_writeBit l E h24 (eOk_bit (eOk_bit ok _ _) _ _) (by have := len_bit x (24 + st) 1; have := len_bit (eBit x (24 + st) 1) (48 + st) 1; omega) (by omega) (by omega) (by omega)) nh_Na_writeBit ln_Na_writeBit rfl rfl (nle rfl) (nle rfl) (nle rfl) (nle rfl) (nle rfl) ?_
            refine XW.heq (h' := sN s0.heap.size cI h (eEcho st ec x)) (by
              unfold eEcho
              first
                | (exfalso; omega)
                | (rw [if_neg (by omega), if_pos (by omega)]; done)
                | (rw [if_neg (by omega), if_neg (by omega), if_pos (by omega)]; done)
                | (rw [if_neg (by omega), if_neg (by omega), if_neg (by omega), show ec - 2 = 0 by omega]; done)
                | (rw [if_neg (by omega), if_neg (by omega), if_neg (by omega), show ec - 2 = 1 by omega]; done)) ?_
            refine x_aload_n C d_Wr_writeRepeat_122 rfl ?_
            refine x_getN C (G_Pa E.1) 0 (u_79 E.1) d_Wr_writeRepeat_123 (by decide) (by exact h16) rfl ?_
            refine x_iconst C d_Wr_writeRepeat_126 ?_
            refine x_icmp_ne C (tgt := 143) d_Wr_writeRepeat_127 (by decide) (by omega) (by omega) (by omega) (by omega) (fun c127 => ?_) (fun c127 => ?_)
            · first
                | (exfalso; omega)
                | exact x_vret C d_Wr_writeRepeat_143 (nle rfl) (nle rfl) ⟨rfl, rfl, rfl⟩
            · refine x_aload_n C d_Wr_writeRepeat_130 rfl ?_
              refine x_sipush C d_Wr_writeRepeat_131 (by decide) ?_
              refine x_aload_n C d_Wr_writeRepeat_134 rfl ?_
              refine x_getN C (G_Pa E.1) 1 (u_86 E.1) d_Wr_writeRepeat_135 (by decide) (by exact h16) rfl ?_
              refine x_iconst C d_Wr_writeRepeat_138 ?_
              refine x_isub C d_Wr_writeRepeat_139 ?_
              refine x_callVR C (G_Wr E.1) (u_468 E.1) (u_470 E.1) (us_7 E.1) (u_471 E.1) (u_8 E.1) d_Wr_writeRepeat_140 (c_Wr_writeLength l E h22 h24 (eOk_echo ok _ _).1 (by have := (eOk_echo ok st ec).2; omega) (by omega) (by omega) (by omega) (by omega)) nh_Wr_writeLength ln_Wr_writeLength rfl (by exact h22) (nle rfl) (nle rfl) (nle rfl) (nle rfl) (nle rfl) ?_
              first
                | (exfalso; omega)
                | exact x_vret C d_Wr_writeRepeat_143 (nle rfl) (nle rfl) ⟨rfl, rfl, rfl⟩
          · refine x_iconst C d_Wr_writeRepeat_114 ?_
            refine x_goto C (tgt := 119) d_Wr_writeRepeat_115 (by decide) ?_
            refine x_callVR C (G_Na E.1) (u_426 E.1) (u_427 E.1) (u_428 E.1) (u_429 E.1) (u_9 E.1) d_Wr_writeRepeat_119 (c_Na_writeBit l E h24 (eOk_bit (eOk_bit ok _ _) _ _) (by have := len_bit x (24 + st) 1; have := len_bit (eBit x (24 + st) 1) (48 + st) 1; omega) (by omega) (by omega) (by omega)) nh_Na_writeBit ln_Na_writeBit rfl rfl (nle rfl) (nle rfl) (nle rfl) (nle rfl) (nle rfl) ?_
            refine XW.heq (h' := sN s0.heap.size cI h (eEcho st ec x)) (by
              unfold eEcho
              first
                | (exfalso; omega)
                | (rw [if_neg (by omega), if_pos (by omega)]; done)
                | (rw [if_neg (by omega), if_neg (by omega), if_pos (by omega)]; done)
                | (rw [if_neg (by omega), if_neg (by omega), if_neg (by omega), show ec - 2 = 0 by omega]; done)
                | (rw [if_neg (by omega), if_neg (by omega), if_neg (by omega), show ec - 2 = 1 by omega]; done)) ?_
            refine x_aload_n C d_Wr_writeRepeat_122 rfl ?_
            refine x_getN C (G_Pa E.1) 0 (u_79 E.1) d_Wr_writeRepeat_123 (by decide) (by exact h16) rfl ?_
            refine x_iconst C d_Wr_writeRepeat_126 ?_
            refine x_icmp_ne C (tgt := 143) d_Wr_writeRepeat_127 (by decide) (by omega) (by omega) (by omega) (by omega) (fun c127 => ?_) (fun c127 => ?_)
            · first
                | (exfalso; omega)
                | exact x_vret C d_Wr_writeRepeat_143 (nle rfl) (nle rfl) ⟨rfl, rfl, rfl⟩
            · refine x_aload_n C d_Wr_writeRepeat_130 rfl ?_
              refine x_sipush C d_Wr_writeRepeat_131 (by decide) ?_
              refine x_aload_n C d_Wr_writeRepeat_134 rfl ?_
              refine x_getN C (G_Pa E.1) 1 (u_86 E.1) d_Wr_writeRepeat_135 (by decide) (by exact h16) rfl ?_
              refine x_iconst C d_Wr_writeRepeat_138 ?_
              refine x_isub C d_Wr_writeRepeat_139 ?_
              refine x_callVR C (G_Wr E.1) (u_468 E.1) (u_470 E.1) (us_7 E.1) (u_471 E.1) (u_8 E.1) d_Wr_writeRepeat_140 (c_Wr_writeLength l E h22 h24 (eOk_echo ok _ _).1 (by have := (eOk_echo ok st ec).2; omega) (by omega) (by omega) (by omega) (by omega)) nh_Wr_writeLength ln_Wr_writeLength rfl (by exact h22) (nle rfl) (nle rfl) (nle rfl) (nle rfl) (nle rfl) ?_
              first
                | (exfalso; omega)
                | exact x_vret C d_Wr_writeRepeat_143 (nle rfl) (nle rfl) ⟨rfl, rfl, rfl⟩
    · refine x_aload_n C d_Wr_writeRepeat_15 rfl ?_
      refine x_get C (G_Wr E.1) 0 (u_204 E.1) d_Wr_writeRepeat_16 (by decide) (by exact h22) rfl ?_
      refine x_bipush C d_Wr_writeRepeat_19 (by decide) ?_
      refine x_iload_n C d_Wr_writeRepeat_21 rfl ?_
      refine x_iadd C d_Wr_writeRepeat_22 ?_
      refine x_iconst C d_Wr_writeRepeat_23 ?_
      refine x_callVR C (G_Na E.1) (u_426 E.1) (u_427 E.1) (u_428 E.1) (u_429 E.1) (u_9 E.1) d_Wr_writeRepeat_24 (c_Na_writeBit l E h24 ok (by omega) (by omega) (by omega) (by omega)) nh_Na_writeBit ln_Na_writeBit rfl rfl (nle rfl) (nle rfl) (nle rfl) (nle rfl) (nle rfl) ?_
      refine x_aload_n C d_Wr_writeRepeat_27 rfl ?_
      refine x_get C (G_Wr E.1) 0 (u_204 E.1) d_Wr_writeRepeat_28 (by decide) (by exact h22) rfl ?_
      refine x_bipush C d_Wr_writeRepeat_31 (by decide) ?_
      refine x_iload_n C d_Wr_writeRepeat_33 rfl ?_
      refine x_iadd C d_Wr_writeRepeat_34 ?_
      refine x_aload_n C d_Wr_writeRepeat_35 rfl ?_
      refine x_getN C (G_Pa E.1) 0 (u_79 E.1) d_Wr_writeRepeat_36 (by decide) (by exact h16) rfl ?_
      refine x_iconst C d_Wr_writeRepeat_39 ?_
      refine x_icmp_ne C (tgt := 47) d_Wr_writeRepeat_40 (by decide) (by omega) (by omega) (by omega) (by omega) (fun c40 => ?_) (fun c40 => ?_)
      · refine x_iconst C d_Wr_writeRepeat_47 ?_
        refine x_callVR C (G_Na E.1) (u_426 E.1) (u_427 E.1) (u_428 E.1) (u_429 E.1) (u_9 E.1) d_Wr_writeRepeat_48 (c_Na_writeBit l E h24 (eOk_bit ok _ _) (by have := len_bit x (24 + st) 0; omega) (by omega) (by omega) (by omega)) nh_Na_writeBit ln_Na_writeBit rfl rfl (nle rfl) (nle rfl) (nle rfl) (nle rfl) (nle rfl) ?_
        refine x_goto C (tgt := 122) d_Wr_writeRepeat_51 (by decide) ?_
        refine XW.heq (h' := sN s0.heap.size cI h (eEcho st ec x)) (by
          unfold eEcho
          first
            | (exfalso; omega)
            | (rw [if_neg (by omega), if_pos (by omega)]; done)
            | (rw [if_neg (by omega), if_neg (by omega), if_pos (by omega)]; done)
            | (rw [if_neg (by omega), if_neg (by omega), if_neg (by omega), show ec - 2 = 0 by omega]; done)
            | (rw [if_neg (by omega), if_neg (by omega), if_neg (by omega), show ec - 2 = 1 by omega]; done)) ?_
        refine x_aload_n C d_Wr_writeRepeat_122 rfl ?_
        refine x_getN C (G_Pa E.1) 0 (u_79 E.1) d_Wr_writeRepeat_123 (by decide) (by exact h16) rfl ?_
        refine x_iconst C d_Wr_writeRepeat_126 ?_
        refine x_icmp_ne C (tgt := 143) d_Wr_writeRepeat_127 (by decide) (by omega) (by omega) (by omega) (by omega) (fun c127 => ?_) (fun c127 => ?_)
        · first
            | (exfalso; omega)
            | exact x_vret C d_Wr_writeRepeat_143 (nle rfl) (nle rfl) ⟨rfl, rfl, rfl⟩
        · refine x_aload_n C d_Wr_writeRepeat_130 rfl ?_
          refine x_sipush C d_Wr_writeRepeat_131 (by decide) ?_
          refine x_aload_n C d_Wr_writeRepeat_134 rfl ?_
          refine x_getN C (G_Pa E.1) 1 (u_86 E.1) d_Wr_writeRepeat_135 (by decide) (by exact h16) rfl ?_
          refine x_iconst C d_Wr_writeRepeat_138 ?_
          refine x_isub C d_Wr_writeRepeat_139 ?_
          refine x_callVR C (G_Wr E.1) (u_468 E.1) (u_470 E.1) (us_7 E.1) (u_471 E.1) (u_8 E.1) d_Wr_writeRepeat_140 (c_Wr_writeLength l E h22 h24 (eOk_echo ok _ _).1 (by have := (eOk_echo ok st ec).2; omega) (by omega) (by omega) (by omega) (by omega)) nh_Wr_writeLength ln_Wr_writeLength rfl (by exact h22) (nle rfl) (nle rfl) (nle rfl) (nle rfl) (nle rfl) ?_
          first
            | (exfalso; omega)
            | exact x_vret C d_Wr_writeRepeat_143 (nle rfl) (nle rfl) ⟨rfl, rfl, rfl⟩
      · refine x_iconst C d_Wr_writeRepeat_43 ?_
        refine x_goto C (tgt := 48) d_Wr_writeRepeat_44 (by decide) ?_
        refine x_callVR C (G_Na E.1) (u_426 E.1) (u_427 E.1) (u_428 E.1) (u_429 E.1) (u_9 E.1) d_Wr_writeRepeat_48 (c_Na_writeBit l E h24 (eOk_bit ok _ _) (by have := len_bit x (24 + st) 0; omega) (by omega) (by omega) (by omega)) nh_Na_writeBit ln_Na_writeBit rfl rfl (nle rfl) (nle rfl) (nle rfl) (nle rfl) (nle rfl) ?_
        refine x_goto C (tgt := 122) d_Wr_writeRepeat_51 (by decide) ?_
        refine XW.heq (h' := sN s0.heap.size cI h (eEcho st ec x)) (by
          unfold eEcho
          first
            | (exfalso; omega)
            | (rw [if_neg (by omega), if_pos (by omega)]; done)
            | (rw [if_neg (by omega), if_neg (by omega), if_pos (by omega)]; done)
            | (rw [if_neg (by omega), if_neg (by omega), if_neg (by omega), show ec - 2 = 0 by omega]; done)
            | (rw [if_neg (by omega), if_neg (by omega), if_neg (by omega), show ec - 2 = 1 by omega]; done)) ?_
        refine x_aload_n C d_Wr_writeRepeat_122 rfl ?_
        refine x_getN C (G_Pa E.1) 0 (u_79 E.1) d_Wr_writeRepeat_123 (by decide) (by exact h16) rfl ?_
        refine x_iconst C d_Wr_writeRepeat_126 ?_
        refine x_icmp_ne C (tgt := 143) d_Wr_writeRepeat_127 (by decide) (by omega) (by omega) (by omega) (by omega) (fun c127 => ?_) (fun c127 => ?_)
        · first
            | (exfalso; omega)
            | exact x_vret C d_Wr_writeRepeat_143 (nle rfl) (nle rfl) ⟨rfl, rfl, rfl⟩
        · refine x_aload_n C d_Wr_writeRepeat_130 rfl ?_
          refine x_sipush C d_Wr_writeRepeat_131 (by decide) ?_
          refine x_aload_n C d_Wr_writeRepeat_134 rfl ?_
          refine x_getN C (G_Pa E.1) 1 (u_86 E.1) d_Wr_writeRepeat_135 (by decide) (by exact h16) rfl ?_
          refine x_iconst C d_Wr_writeRepeat_138 ?_
          refine x_isub C d_Wr_writeRepeat_139 ?_
          refine x_callVR C (G_Wr E.1) (u_468 E.1) (u_470 E.1) (us_7 E.1) (u_471 E.1) (u_8 E.1) d_Wr_writeRepeat_140 (c_Wr_writeLength l E h22 h24 (eOk_echo ok _ _).1 (by have := (eOk_echo ok st ec).2; omega) (by omega) (by omega) (by omega) (by omega)) nh_Wr_writeLength ln_Wr_writeLength rfl (by exact h22) (nle rfl) (nle rfl) (nle rfl) (nle rfl) (nle rfl) ?_
          first
            | (exfalso; omega)
            | exact x_vret C d_Wr_writeRepeat_143 (nle rfl) (nle rfl) ⟨rfl, rfl, rfl⟩
end
