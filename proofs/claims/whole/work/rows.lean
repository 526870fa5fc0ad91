section
-- ===== PART A: goes FIRST, ahead of the names: the tables' words, and 'selects' of the private methods out of them =====
/-- a private method of a class that the tables say can be made, by its rows of tables_1 -/
def lw_okq (q : MethodName × Nat) : Prop := (q.1.cls ≠ "java/lang/invoke/MethodHandle" ∧ q.1.cls ≠ "java/lang/invoke/VarHandle") ∧ Cond.instantiable q.1.cls q.2 ∈ tables_1 ∧ Cond.privateMethod q.1 ∈ tables_1 ∧ Cond.instanceMethod q.1 ∈ tables_1
theorem lw_p0 : lw_okq (⟨"NarrowingPacker", "writeSource", "()V"⟩, 12) := ⟨⟨by decide +kernel, by decide +kernel⟩, List.mem_of_getElem? (i := 24) (by decide +kernel), List.mem_of_getElem? (i := 383) (by decide +kernel), List.mem_of_getElem? (i := 384) (by decide +kernel)⟩
theorem lw_p1 : lw_okq (⟨"NarrowingPacker$Chooser", "findMatch", "(LNarrowingPacker$Bytes;I)V"⟩, 5) := ⟨⟨by decide +kernel, by decide +kernel⟩, List.mem_of_getElem? (i := 138) (by decide +kernel), List.mem_of_getElem? (i := 391) (by decide +kernel), List.mem_of_getElem? (i := 392) (by decide +kernel)⟩
theorem lw_p2 : lw_okq (⟨"NarrowingPacker$Chooser", "findEcho", "(LNarrowingPacker$Bytes;I[I)V"⟩, 5) := ⟨⟨by decide +kernel, by decide +kernel⟩, List.mem_of_getElem? (i := 138) (by decide +kernel), List.mem_of_getElem? (i := 398) (by decide +kernel), List.mem_of_getElem? (i := 399) (by decide +kernel)⟩
theorem lw_p3 : lw_okq (⟨"NarrowingPacker$Packet", "become", "(III)V"⟩, 5) := ⟨⟨by decide +kernel, by decide +kernel⟩, List.mem_of_getElem? (i := 74) (by decide +kernel), List.mem_of_getElem? (i := 406) (by decide +kernel), List.mem_of_getElem? (i := 407) (by decide +kernel)⟩
theorem lw_p4 : lw_okq (⟨"NarrowingPacker$Narrower", "raiseLow", "(J)V"⟩, 4) := ⟨⟨by decide +kernel, by decide +kernel⟩, List.mem_of_getElem? (i := 172) (by decide +kernel), List.mem_of_getElem? (i := 435) (by decide +kernel), List.mem_of_getElem? (i := 436) (by decide +kernel)⟩
theorem lw_p5 : lw_okq (⟨"NarrowingPacker$PacketWriter", "writeLiteral", "(ILNarrowingPacker$History;)V"⟩, 1) := ⟨⟨by decide +kernel, by decide +kernel⟩, List.mem_of_getElem? (i := 166) (by decide +kernel), List.mem_of_getElem? (i := 445) (by decide +kernel), List.mem_of_getElem? (i := 446) (by decide +kernel)⟩
theorem lw_p6 : lw_okq (⟨"NarrowingPacker$PacketWriter", "writeMatch", "(LNarrowingPacker$Packet;)V"⟩, 1) := ⟨⟨by decide +kernel, by decide +kernel⟩, List.mem_of_getElem? (i := 166) (by decide +kernel), List.mem_of_getElem? (i := 462) (by decide +kernel), List.mem_of_getElem? (i := 463) (by decide +kernel)⟩
theorem lw_p7 : lw_okq (⟨"NarrowingPacker$PacketWriter", "writeLength", "(II)V"⟩, 1) := ⟨⟨by decide +kernel, by decide +kernel⟩, List.mem_of_getElem? (i := 166) (by decide +kernel), List.mem_of_getElem? (i := 469) (by decide +kernel), List.mem_of_getElem? (i := 470) (by decide +kernel)⟩
theorem lw_p8 : lw_okq (⟨"NarrowingPacker$PacketWriter", "writeEnd", "()V"⟩, 1) := ⟨⟨by decide +kernel, by decide +kernel⟩, List.mem_of_getElem? (i := 166) (by decide +kernel), List.mem_of_getElem? (i := 483) (by decide +kernel), List.mem_of_getElem? (i := 484) (by decide +kernel)⟩
theorem lw_p9 : lw_okq (⟨"NarrowingPacker$PacketWriter", "writeRepeat", "(LNarrowingPacker$Packet;I)V"⟩, 1) := ⟨⟨by decide +kernel, by decide +kernel⟩, List.mem_of_getElem? (i := 166) (by decide +kernel), List.mem_of_getElem? (i := 487) (by decide +kernel), List.mem_of_getElem? (i := 488) (by decide +kernel)⟩
theorem lw_p10 : lw_okq (⟨"NarrowingPacker$History", "repeat", "(II)V"⟩, 3) := ⟨⟨by decide +kernel, by decide +kernel⟩, List.mem_of_getElem? (i := 113) (by decide +kernel), List.mem_of_getElem? (i := 496) (by decide +kernel), List.mem_of_getElem? (i := 497) (by decide +kernel)⟩
theorem lw_p11 : lw_okq (⟨"NarrowingPacker$History", "bringToFront", "(II)V"⟩, 3) := ⟨⟨by decide +kernel, by decide +kernel⟩, List.mem_of_getElem? (i := 113) (by decide +kernel), List.mem_of_getElem? (i := 500) (by decide +kernel), List.mem_of_getElem? (i := 501) (by decide +kernel)⟩
theorem lw_p12 : lw_okq (⟨"NarrowingPacker$History", "stateBehind", "(I)I"⟩, 3) := ⟨⟨by decide +kernel, by decide +kernel⟩, List.mem_of_getElem? (i := 113) (by decide +kernel), List.mem_of_getElem? (i := 504) (by decide +kernel), List.mem_of_getElem? (i := 505) (by decide +kernel)⟩
theorem lw_p13 : lw_okq (⟨"NarrowingPacker$History", "stateBehindLiteral", "()I"⟩, 3) := ⟨⟨by decide +kernel, by decide +kernel⟩, List.mem_of_getElem? (i := 113) (by decide +kernel), List.mem_of_getElem? (i := 508) (by decide +kernel), List.mem_of_getElem? (i := 509) (by decide +kernel)⟩
theorem lw_p14 : lw_okq (⟨"java/lang/Throwable", "fillInStackTrace", "(I)Ljava/lang/Throwable;"⟩, 6) := ⟨⟨by decide +kernel, by decide +kernel⟩, List.mem_of_getElem? (i := 564) (by decide +kernel), List.mem_of_getElem? (i := 562) (by decide +kernel), List.mem_of_getElem? (i := 563) (by decide +kernel)⟩
theorem lw_p15 : lw_okq (⟨"NarrowingPacker", "keepPacking", "(LNarrowingPacker$Narrower;)V"⟩, 12) := ⟨⟨by decide +kernel, by decide +kernel⟩, List.mem_of_getElem? (i := 24) (by decide +kernel), List.mem_of_getElem? (i := 594) (by decide +kernel), List.mem_of_getElem? (i := 595) (by decide +kernel)⟩
def lw_privs_1 : List (MethodName × Nat) := [(⟨"NarrowingPacker", "writeSource", "()V"⟩, 12), (⟨"NarrowingPacker$Chooser", "findMatch", "(LNarrowingPacker$Bytes;I)V"⟩, 5), (⟨"NarrowingPacker$Chooser", "findEcho", "(LNarrowingPacker$Bytes;I[I)V"⟩, 5), (⟨"NarrowingPacker$Packet", "become", "(III)V"⟩, 5), (⟨"NarrowingPacker$Narrower", "raiseLow", "(J)V"⟩, 4), (⟨"NarrowingPacker$PacketWriter", "writeLiteral", "(ILNarrowingPacker$History;)V"⟩, 1), (⟨"NarrowingPacker$PacketWriter", "writeMatch", "(LNarrowingPacker$Packet;)V"⟩, 1), (⟨"NarrowingPacker$PacketWriter", "writeLength", "(II)V"⟩, 1), (⟨"NarrowingPacker$PacketWriter", "writeEnd", "()V"⟩, 1), (⟨"NarrowingPacker$PacketWriter", "writeRepeat", "(LNarrowingPacker$Packet;I)V"⟩, 1), (⟨"NarrowingPacker$History", "repeat", "(II)V"⟩, 3), (⟨"NarrowingPacker$History", "bringToFront", "(II)V"⟩, 3), (⟨"NarrowingPacker$History", "stateBehind", "(I)I"⟩, 3), (⟨"NarrowingPacker$History", "stateBehindLiteral", "()I"⟩, 3), (⟨"java/lang/Throwable", "fillInStackTrace", "(I)Ljava/lang/Throwable;"⟩, 6), (⟨"NarrowingPacker", "keepPacking", "(LNarrowingPacker$Narrower;)V"⟩, 12)]
theorem lw_r1 : ∀ q ∈ lw_privs_1, lw_okq q := List.forall_mem_cons.mpr ⟨lw_p0, List.forall_mem_cons.mpr ⟨lw_p1, List.forall_mem_cons.mpr ⟨lw_p2, List.forall_mem_cons.mpr ⟨lw_p3, List.forall_mem_cons.mpr ⟨lw_p4, List.forall_mem_cons.mpr ⟨lw_p5, List.forall_mem_cons.mpr ⟨lw_p6, List.forall_mem_cons.mpr ⟨lw_p7, List.forall_mem_cons.mpr ⟨lw_p8, List.forall_mem_cons.mpr ⟨lw_p9, List.forall_mem_cons.mpr ⟨lw_p10, List.forall_mem_cons.mpr ⟨lw_p11, List.forall_mem_cons.mpr ⟨lw_p12, List.forall_mem_cons.mpr ⟨lw_p13, List.forall_mem_cons.mpr ⟨lw_p14, List.forall_mem_cons.mpr ⟨lw_p15, fun _ h => absurd h List.not_mem_nil⟩⟩⟩⟩⟩⟩⟩⟩⟩⟩⟩⟩⟩⟩⟩⟩
theorem lw_p16 : lw_okq (⟨"NarrowingPacker$Follower", "takeByte", "()V"⟩, 5) := ⟨⟨by decide +kernel, by decide +kernel⟩, List.mem_of_getElem? (i := 216) (by decide +kernel), List.mem_of_getElem? (i := 672) (by decide +kernel), List.mem_of_getElem? (i := 673) (by decide +kernel)⟩
theorem lw_p17 : lw_okq (⟨"NarrowingPacker$PacketReader", "readLiteral", "(LNarrowingPacker$History;)I"⟩, 1) := ⟨⟨by decide +kernel, by decide +kernel⟩, List.mem_of_getElem? (i := 210) (by decide +kernel), List.mem_of_getElem? (i := 707) (by decide +kernel), List.mem_of_getElem? (i := 708) (by decide +kernel)⟩
theorem lw_p18 : lw_okq (⟨"NarrowingPacker$PacketReader", "readMatchOrEnd", "(LNarrowingPacker$Packet;)V"⟩, 1) := ⟨⟨by decide +kernel, by decide +kernel⟩, List.mem_of_getElem? (i := 210) (by decide +kernel), List.mem_of_getElem? (i := 715) (by decide +kernel), List.mem_of_getElem? (i := 716) (by decide +kernel)⟩
theorem lw_p19 : lw_okq (⟨"NarrowingPacker$PacketReader", "readLength", "(I)I"⟩, 1) := ⟨⟨by decide +kernel, by decide +kernel⟩, List.mem_of_getElem? (i := 210) (by decide +kernel), List.mem_of_getElem? (i := 719) (by decide +kernel), List.mem_of_getElem? (i := 720) (by decide +kernel)⟩
theorem lw_p20 : lw_okq (⟨"NarrowingPacker$PacketReader", "readDistance", "(I)I"⟩, 1) := ⟨⟨by decide +kernel, by decide +kernel⟩, List.mem_of_getElem? (i := 210) (by decide +kernel), List.mem_of_getElem? (i := 733) (by decide +kernel), List.mem_of_getElem? (i := 734) (by decide +kernel)⟩
theorem lw_p21 : lw_okq (⟨"NarrowingPacker$PacketReader", "readRepeat", "(LNarrowingPacker$Packet;I[I)V"⟩, 1) := ⟨⟨by decide +kernel, by decide +kernel⟩, List.mem_of_getElem? (i := 210) (by decide +kernel), List.mem_of_getElem? (i := 742) (by decide +kernel), List.mem_of_getElem? (i := 743) (by decide +kernel)⟩
theorem lw_p22 : lw_okq (⟨"NarrowingPacker", "refuseWhatCannotBeTold", "()V"⟩, 12) := ⟨⟨by decide +kernel, by decide +kernel⟩, List.mem_of_getElem? (i := 24) (by decide +kernel), List.mem_of_getElem? (i := 748) (by decide +kernel), List.mem_of_getElem? (i := 749) (by decide +kernel)⟩
theorem lw_p23 : lw_okq (⟨"NarrowingPackerModel", "begin", "(Z)V"⟩, 34) := ⟨⟨by decide +kernel, by decide +kernel⟩, List.mem_of_getElem? (i := 759) (by decide +kernel), List.mem_of_getElem? (i := 887) (by decide +kernel), List.mem_of_getElem? (i := 888) (by decide +kernel)⟩
theorem lw_p24 : lw_okq (⟨"NarrowingPackerModel", "choose", "()V"⟩, 34) := ⟨⟨by decide +kernel, by decide +kernel⟩, List.mem_of_getElem? (i := 759) (by decide +kernel), List.mem_of_getElem? (i := 892) (by decide +kernel), List.mem_of_getElem? (i := 893) (by decide +kernel)⟩
theorem lw_p25 : lw_okq (⟨"NarrowingPackerModel", "agree", "(II)I"⟩, 34) := ⟨⟨by decide +kernel, by decide +kernel⟩, List.mem_of_getElem? (i := 759) (by decide +kernel), List.mem_of_getElem? (i := 896) (by decide +kernel), List.mem_of_getElem? (i := 897) (by decide +kernel)⟩
theorem lw_p26 : lw_okq (⟨"NarrowingPackerModel", "packet", "()Z"⟩, 34) := ⟨⟨by decide +kernel, by decide +kernel⟩, List.mem_of_getElem? (i := 759) (by decide +kernel), List.mem_of_getElem? (i := 900) (by decide +kernel), List.mem_of_getElem? (i := 901) (by decide +kernel)⟩
theorem lw_p27 : lw_okq (⟨"NarrowingPackerModel", "bit", "(II)I"⟩, 34) := ⟨⟨by decide +kernel, by decide +kernel⟩, List.mem_of_getElem? (i := 759) (by decide +kernel), List.mem_of_getElem? (i := 904) (by decide +kernel), List.mem_of_getElem? (i := 905) (by decide +kernel)⟩
theorem lw_p28 : lw_okq (⟨"NarrowingPackerModel", "grow", "(J)V"⟩, 34) := ⟨⟨by decide +kernel, by decide +kernel⟩, List.mem_of_getElem? (i := 759) (by decide +kernel), List.mem_of_getElem? (i := 909) (by decide +kernel), List.mem_of_getElem? (i := 910) (by decide +kernel)⟩
theorem lw_p29 : lw_okq (⟨"NarrowingPackerModel", "widen", "()V"⟩, 34) := ⟨⟨by decide +kernel, by decide +kernel⟩, List.mem_of_getElem? (i := 759) (by decide +kernel), List.mem_of_getElem? (i := 914) (by decide +kernel), List.mem_of_getElem? (i := 915) (by decide +kernel)⟩
theorem lw_p30 : lw_okq (⟨"NarrowingPackerModel", "read", "()V"⟩, 34) := ⟨⟨by decide +kernel, by decide +kernel⟩, List.mem_of_getElem? (i := 759) (by decide +kernel), List.mem_of_getElem? (i := 919) (by decide +kernel), List.mem_of_getElem? (i := 920) (by decide +kernel)⟩
theorem lw_p31 : lw_okq (⟨"NarrowingPackerModel", "literal", "(I)I"⟩, 34) := ⟨⟨by decide +kernel, by decide +kernel⟩, List.mem_of_getElem? (i := 759) (by decide +kernel), List.mem_of_getElem? (i := 923) (by decide +kernel), List.mem_of_getElem? (i := 924) (by decide +kernel)⟩
def lw_privs_2 : List (MethodName × Nat) := [(⟨"NarrowingPacker$Follower", "takeByte", "()V"⟩, 5), (⟨"NarrowingPacker$PacketReader", "readLiteral", "(LNarrowingPacker$History;)I"⟩, 1), (⟨"NarrowingPacker$PacketReader", "readMatchOrEnd", "(LNarrowingPacker$Packet;)V"⟩, 1), (⟨"NarrowingPacker$PacketReader", "readLength", "(I)I"⟩, 1), (⟨"NarrowingPacker$PacketReader", "readDistance", "(I)I"⟩, 1), (⟨"NarrowingPacker$PacketReader", "readRepeat", "(LNarrowingPacker$Packet;I[I)V"⟩, 1), (⟨"NarrowingPacker", "refuseWhatCannotBeTold", "()V"⟩, 12), (⟨"NarrowingPackerModel", "begin", "(Z)V"⟩, 34), (⟨"NarrowingPackerModel", "choose", "()V"⟩, 34), (⟨"NarrowingPackerModel", "agree", "(II)I"⟩, 34), (⟨"NarrowingPackerModel", "packet", "()Z"⟩, 34), (⟨"NarrowingPackerModel", "bit", "(II)I"⟩, 34), (⟨"NarrowingPackerModel", "grow", "(J)V"⟩, 34), (⟨"NarrowingPackerModel", "widen", "()V"⟩, 34), (⟨"NarrowingPackerModel", "read", "()V"⟩, 34), (⟨"NarrowingPackerModel", "literal", "(I)I"⟩, 34)]
theorem lw_r2 : ∀ q ∈ lw_privs_2, lw_okq q := List.forall_mem_cons.mpr ⟨lw_p16, List.forall_mem_cons.mpr ⟨lw_p17, List.forall_mem_cons.mpr ⟨lw_p18, List.forall_mem_cons.mpr ⟨lw_p19, List.forall_mem_cons.mpr ⟨lw_p20, List.forall_mem_cons.mpr ⟨lw_p21, List.forall_mem_cons.mpr ⟨lw_p22, List.forall_mem_cons.mpr ⟨lw_p23, List.forall_mem_cons.mpr ⟨lw_p24, List.forall_mem_cons.mpr ⟨lw_p25, List.forall_mem_cons.mpr ⟨lw_p26, List.forall_mem_cons.mpr ⟨lw_p27, List.forall_mem_cons.mpr ⟨lw_p28, List.forall_mem_cons.mpr ⟨lw_p29, List.forall_mem_cons.mpr ⟨lw_p30, List.forall_mem_cons.mpr ⟨lw_p31, fun _ h => absurd h List.not_mem_nil⟩⟩⟩⟩⟩⟩⟩⟩⟩⟩⟩⟩⟩⟩⟩⟩
theorem lw_p32 : lw_okq (⟨"NarrowingPackerModel", "tree", "(III)I"⟩, 34) := ⟨⟨by decide +kernel, by decide +kernel⟩, List.mem_of_getElem? (i := 759) (by decide +kernel), List.mem_of_getElem? (i := 927) (by decide +kernel), List.mem_of_getElem? (i := 928) (by decide +kernel)⟩
theorem lw_p33 : lw_okq (⟨"NarrowingPackerModel", "tellLiteral", "(I)V"⟩, 34) := ⟨⟨by decide +kernel, by decide +kernel⟩, List.mem_of_getElem? (i := 759) (by decide +kernel), List.mem_of_getElem? (i := 931) (by decide +kernel), List.mem_of_getElem? (i := 932) (by decide +kernel)⟩
theorem lw_p34 : lw_okq (⟨"NarrowingPackerModel", "note", "(III)V"⟩, 34) := ⟨⟨by decide +kernel, by decide +kernel⟩, List.mem_of_getElem? (i := 759) (by decide +kernel), List.mem_of_getElem? (i := 935) (by decide +kernel), List.mem_of_getElem? (i := 936) (by decide +kernel)⟩
theorem lw_p35 : lw_okq (⟨"NarrowingPackerModel", "tell", "(I)V"⟩, 34) := ⟨⟨by decide +kernel, by decide +kernel⟩, List.mem_of_getElem? (i := 759) (by decide +kernel), List.mem_of_getElem? (i := 939) (by decide +kernel), List.mem_of_getElem? (i := 940) (by decide +kernel)⟩
theorem lw_p36 : lw_okq (⟨"NarrowingPackerModel", "length", "(II)I"⟩, 34) := ⟨⟨by decide +kernel, by decide +kernel⟩, List.mem_of_getElem? (i := 759) (by decide +kernel), List.mem_of_getElem? (i := 943) (by decide +kernel), List.mem_of_getElem? (i := 944) (by decide +kernel)⟩
theorem lw_p37 : lw_okq (⟨"NarrowingPackerModel", "distance", "(II)I"⟩, 34) := ⟨⟨by decide +kernel, by decide +kernel⟩, List.mem_of_getElem? (i := 759) (by decide +kernel), List.mem_of_getElem? (i := 947) (by decide +kernel), List.mem_of_getElem? (i := 948) (by decide +kernel)⟩
theorem lw_p38 : lw_okq (⟨"NarrowingPackerModel", "row", "(III)I"⟩, 34) := ⟨⟨by decide +kernel, by decide +kernel⟩, List.mem_of_getElem? (i := 759) (by decide +kernel), List.mem_of_getElem? (i := 954) (by decide +kernel), List.mem_of_getElem? (i := 955) (by decide +kernel)⟩
theorem lw_p39 : lw_okq (⟨"NarrowingPackerModel", "tellFar", "(IIII)V"⟩, 34) := ⟨⟨by decide +kernel, by decide +kernel⟩, List.mem_of_getElem? (i := 759) (by decide +kernel), List.mem_of_getElem? (i := 958) (by decide +kernel), List.mem_of_getElem? (i := 959) (by decide +kernel)⟩
theorem lw_p40 : lw_okq (⟨"NarrowingPackerModel", "echo", "(I)I"⟩, 34) := ⟨⟨by decide +kernel, by decide +kernel⟩, List.mem_of_getElem? (i := 759) (by decide +kernel), List.mem_of_getElem? (i := 962) (by decide +kernel), List.mem_of_getElem? (i := 963) (by decide +kernel)⟩
def lw_privs_3 : List (MethodName × Nat) := [(⟨"NarrowingPackerModel", "tree", "(III)I"⟩, 34), (⟨"NarrowingPackerModel", "tellLiteral", "(I)V"⟩, 34), (⟨"NarrowingPackerModel", "note", "(III)V"⟩, 34), (⟨"NarrowingPackerModel", "tell", "(I)V"⟩, 34), (⟨"NarrowingPackerModel", "length", "(II)I"⟩, 34), (⟨"NarrowingPackerModel", "distance", "(II)I"⟩, 34), (⟨"NarrowingPackerModel", "row", "(III)I"⟩, 34), (⟨"NarrowingPackerModel", "tellFar", "(IIII)V"⟩, 34), (⟨"NarrowingPackerModel", "echo", "(I)I"⟩, 34)]
theorem lw_r3 : ∀ q ∈ lw_privs_3, lw_okq q := List.forall_mem_cons.mpr ⟨lw_p32, List.forall_mem_cons.mpr ⟨lw_p33, List.forall_mem_cons.mpr ⟨lw_p34, List.forall_mem_cons.mpr ⟨lw_p35, List.forall_mem_cons.mpr ⟨lw_p36, List.forall_mem_cons.mpr ⟨lw_p37, List.forall_mem_cons.mpr ⟨lw_p38, List.forall_mem_cons.mpr ⟨lw_p39, List.forall_mem_cons.mpr ⟨lw_p40, fun _ h => absurd h List.not_mem_nil⟩⟩⟩⟩⟩⟩⟩⟩⟩
def lw_privs : List (MethodName × Nat) := lw_privs_1 ++ (lw_privs_2 ++ (lw_privs_3))
def lw_tbl : List Cond := k2_sels lw_privs ++ tables_1
theorem lw_privs_ok : ∀ q ∈ lw_privs, lw_okq q := by
  show ∀ q ∈ lw_privs_1 ++ (lw_privs_2 ++ (lw_privs_3)), lw_okq q
  exact List.forall_mem_append.mpr ⟨lw_r1, List.forall_mem_append.mpr ⟨lw_r2, lw_r3⟩⟩
end
section
/-! names: classes, methods (by program, out of the listing and the tables) -/
def F_By : u_T := fun k => match k with
  | 0 => ("NarrowingPacker$Bytes", "row", "[I", true)
  | _ => ("NarrowingPacker$Bytes", "count", "I", false)
def t_By : Nat → FieldType := fun k => match k with
  | 0 => .array .int
  | _ => .int
def F_Ch : u_T := fun k => match k with
  | _ => ("NarrowingPacker$Chances", "row", "[I", true)
def t_Ch : Nat → FieldType := fun k => match k with
  | _ => .array .int
def F_Co : u_T := fun k => match k with
  | 0 => ("NarrowingPacker$Chooser", "limit", "I", true)
  | 1 => ("NarrowingPacker$Chooser", "matchLength", "I", false)
  | 2 => ("NarrowingPacker$Chooser", "matchDistance", "I", false)
  | 3 => ("NarrowingPacker$Chooser", "echoLength", "I", false)
  | _ => ("NarrowingPacker$Chooser", "echo", "I", false)
def t_Co : Nat → FieldType := fun k => match k with
  | 0 => .int
  | 1 => .int
  | 2 => .int
  | 3 => .int
  | _ => .int
def F_Fo : u_T := fun k => match k with
  | 0 => ("NarrowingPacker$Follower", "chances", "LNarrowingPacker$Chances;", true)
  | 1 => ("NarrowingPacker$Follower", "packed", "LNarrowingPacker$Bytes;", true)
  | 2 => ("NarrowingPacker$Follower", "next", "I", false)
  | 3 => ("NarrowingPacker$Follower", "code", "J", false)
  | _ => ("NarrowingPacker$Follower", "range", "J", false)
def t_Fo : Nat → FieldType := fun k => match k with
  | 0 => .object "NarrowingPacker$Chances"
  | 1 => .object "NarrowingPacker$Bytes"
  | 2 => .int
  | 3 => .long
  | _ => .long
def F_Hi : u_T := fun k => match k with
  | 0 => ("NarrowingPacker$History", "bytes", "LNarrowingPacker$Bytes;", true)
  | 1 => ("NarrowingPacker$History", "lastDistances", "[I", true)
  | _ => ("NarrowingPacker$History", "state", "I", false)
def t_Hi : Nat → FieldType := fun k => match k with
  | 0 => .object "NarrowingPacker$Bytes"
  | 1 => .array .int
  | _ => .int
def F_Na : u_T := fun k => match k with
  | 0 => ("NarrowingPacker$Narrower", "chances", "LNarrowingPacker$Chances;", true)
  | 1 => ("NarrowingPacker$Narrower", "digits", "[I", true)
  | 2 => ("NarrowingPacker$Narrower", "length", "I", false)
  | _ => ("NarrowingPacker$Narrower", "range", "J", false)
def t_Na : Nat → FieldType := fun k => match k with
  | 0 => .object "NarrowingPacker$Chances"
  | 1 => .array .int
  | 2 => .int
  | _ => .long
def F_Pa : u_T := fun k => match k with
  | 0 => ("NarrowingPacker$Packet", "kind", "I", false)
  | 1 => ("NarrowingPacker$Packet", "length", "I", false)
  | 2 => ("NarrowingPacker$Packet", "distance", "I", false)
  | 3 => ("NarrowingPacker$Packet", "echo", "I", false)
  | _ => ("NarrowingPacker$Packet", "literal", "I", false)
def t_Pa : Nat → FieldType := fun k => match k with
  | 0 => .int
  | 1 => .int
  | 2 => .int
  | 3 => .int
  | _ => .int
def F_Pl : u_T := fun k => match k with
  | 0 => ("NarrowingPacker$PacketList", "kinds", "[I", true)
  | 1 => ("NarrowingPacker$PacketList", "lengths", "[I", true)
  | 2 => ("NarrowingPacker$PacketList", "values", "[I", true)
  | _ => ("NarrowingPacker$PacketList", "count", "I", false)
def t_Pl : Nat → FieldType := fun k => match k with
  | 0 => .array .int
  | 1 => .array .int
  | 2 => .array .int
  | _ => .int
def F_Re : u_T := fun k => match k with
  | _ => ("NarrowingPacker$PacketReader", "follower", "LNarrowingPacker$Follower;", true)
def t_Re : Nat → FieldType := fun k => match k with
  | _ => .object "NarrowingPacker$Follower"
def F_Wr : u_T := fun k => match k with
  | _ => ("NarrowingPacker$PacketWriter", "narrower", "LNarrowingPacker$Narrower;", true)
def t_Wr : Nat → FieldType := fun k => match k with
  | _ => .object "NarrowingPacker$Narrower"
def F_Np : u_T := fun k => match k with
  | 0 => ("NarrowingPacker", "source", "LNarrowingPacker$Bytes;", true)
  | 1 => ("NarrowingPacker", "packed", "LNarrowingPacker$Bytes;", true)
  | 2 => ("NarrowingPacker", "result", "LNarrowingPacker$Bytes;", true)
  | 3 => ("NarrowingPacker", "keptChances", "[I", true)
  | 4 => ("NarrowingPacker", "keptPackets", "LNarrowingPacker$PacketList;", false)
  | 5 => ("NarrowingPacker", "somethingWasPacked", "Z", false)
  | 6 => ("NarrowingPacker", "newPackets", "LNarrowingPacker$PacketList;", false)
  | 7 => ("NarrowingPacker", "current", "LNarrowingPacker$Packet;", true)
  | 8 => ("NarrowingPacker", "history", "LNarrowingPacker$History;", true)
  | 9 => ("NarrowingPacker", "chooser", "LNarrowingPacker$Chooser;", true)
  | 10 => ("NarrowingPacker", "writer", "LNarrowingPacker$PacketWriter;", true)
  | _ => ("NarrowingPacker", "reader", "LNarrowingPacker$PacketReader;", true)
def t_Np : Nat → FieldType := fun k => match k with
  | 0 => .object "NarrowingPacker$Bytes"
  | 1 => .object "NarrowingPacker$Bytes"
  | 2 => .object "NarrowingPacker$Bytes"
  | 3 => .array .int
  | 4 => .object "NarrowingPacker$PacketList"
  | 5 => .boolean
  | 6 => .object "NarrowingPacker$PacketList"
  | 7 => .object "NarrowingPacker$Packet"
  | 8 => .object "NarrowingPacker$History"
  | 9 => .object "NarrowingPacker$Chooser"
  | 10 => .object "NarrowingPacker$PacketWriter"
  | _ => .object "NarrowingPacker$PacketReader"
def F_Mo : u_T := fun k => match k with
  | 0 => ("NarrowingPackerModel", "fault", "I", false)
  | 1 => ("NarrowingPackerModel", "limit", "I", true)
  | 2 => ("NarrowingPackerModel", "typed", "I", false)
  | 3 => ("NarrowingPackerModel", "source", "[I", true)
  | 4 => ("NarrowingPackerModel", "size", "I", false)
  | 5 => ("NarrowingPackerModel", "packed", "[I", true)
  | 6 => ("NarrowingPackerModel", "told", "I", false)
  | 7 => ("NarrowingPackerModel", "result", "[I", true)
  | 8 => ("NarrowingPackerModel", "has", "Z", false)
  | 9 => ("NarrowingPackerModel", "packets", "I", false)
  | 10 => ("NarrowingPackerModel", "packetKind", "[I", true)
  | 11 => ("NarrowingPackerModel", "packetLength", "[I", true)
  | 12 => ("NarrowingPackerModel", "packetDistance", "[I", true)
  | 13 => ("NarrowingPackerModel", "kept", "[I", true)
  | 14 => ("NarrowingPackerModel", "packs", "Z", false)
  | 15 => ("NarrowingPackerModel", "bad", "I", false)
  | 16 => ("NarrowingPackerModel", "chances", "[I", true)
  | 17 => ("NarrowingPackerModel", "range", "J", false)
  | 18 => ("NarrowingPackerModel", "places", "I", false)
  | 19 => ("NarrowingPackerModel", "digits", "[I", true)
  | 20 => ("NarrowingPackerModel", "code", "J", false)
  | 21 => ("NarrowingPackerModel", "next", "I", false)
  | 22 => ("NarrowingPackerModel", "n", "I", false)
  | 23 => ("NarrowingPackerModel", "state", "I", false)
  | 24 => ("NarrowingPackerModel", "bytes", "[I", true)
  | 25 => ("NarrowingPackerModel", "back", "[I", true)
  | 26 => ("NarrowingPackerModel", "count", "I", false)
  | 27 => ("NarrowingPackerModel", "kindOf", "[I", true)
  | 28 => ("NarrowingPackerModel", "lengthOf", "[I", true)
  | 29 => ("NarrowingPackerModel", "distanceOf", "[I", true)
  | 30 => ("NarrowingPackerModel", "chosen", "I", false)
  | 31 => ("NarrowingPackerModel", "long0", "I", false)
  | 32 => ("NarrowingPackerModel", "far", "I", false)
  | _ => ("NarrowingPackerModel", "which", "I", false)
def t_Mo : Nat → FieldType := fun k => match k with
  | 0 => .int
  | 1 => .int
  | 2 => .int
  | 3 => .array .int
  | 4 => .int
  | 5 => .array .int
  | 6 => .int
  | 7 => .array .int
  | 8 => .boolean
  | 9 => .int
  | 10 => .array .int
  | 11 => .array .int
  | 12 => .array .int
  | 13 => .array .int
  | 14 => .boolean
  | 15 => .int
  | 16 => .array .int
  | 17 => .long
  | 18 => .int
  | 19 => .array .int
  | 20 => .long
  | 21 => .int
  | 22 => .int
  | 23 => .int
  | 24 => .array .int
  | 25 => .array .int
  | 26 => .int
  | 27 => .array .int
  | 28 => .array .int
  | 29 => .array .int
  | 30 => .int
  | 31 => .int
  | 32 => .int
  | _ => .int
abbrev vwCl : List vw_C := [("NarrowingPacker$Bytes", F_By, 2), ("NarrowingPacker$Chances", F_Ch, 1), ("NarrowingPacker$Chooser", F_Co, 5), ("NarrowingPacker$Follower", F_Fo, 5), ("NarrowingPacker$History", F_Hi, 3), ("NarrowingPacker$Narrower", F_Na, 4), ("NarrowingPacker$Packet", F_Pa, 5), ("NarrowingPacker$PacketList", F_Pl, 4), ("NarrowingPacker$PacketReader", F_Re, 1), ("NarrowingPacker$PacketWriter", F_Wr, 1), ("NarrowingPacker", F_Np, 12), ("NarrowingPackerModel", F_Mo, 34)]
abbrev y_Np_init : MethodName := ⟨"NarrowingPacker", "<init>", "(I)V"⟩
abbrev y_Np_type : MethodName := ⟨"NarrowingPacker", "type", "(I)Z"⟩
abbrev y_Np_wipe : MethodName := ⟨"NarrowingPacker", "wipe", "()I"⟩
abbrev y_Np_pack : MethodName := ⟨"NarrowingPacker", "pack", "()I"⟩
abbrev y_Np_packets : MethodName := ⟨"NarrowingPacker", "packets", "()I"⟩
abbrev y_Np_packet : MethodName := ⟨"NarrowingPacker", "packet", "(II)I"⟩
abbrev y_Np_chance : MethodName := ⟨"NarrowingPacker", "chance", "(II)I"⟩
abbrev y_Np_size : MethodName := ⟨"NarrowingPacker", "size", "()I"⟩
abbrev y_Np_at : MethodName := ⟨"NarrowingPacker", "at", "(I)I"⟩
abbrev y_Np_add : MethodName := ⟨"NarrowingPacker", "add", "(I)Z"⟩
abbrev y_Np_put : MethodName := ⟨"NarrowingPacker", "put", "(II)I"⟩
abbrev y_Np_cut : MethodName := ⟨"NarrowingPacker", "cut", "(I)I"⟩
abbrev y_Np_unpack : MethodName := ⟨"NarrowingPacker", "unpack", "()I"⟩
abbrev y_Np_told : MethodName := ⟨"NarrowingPacker", "told", "()I"⟩
abbrev y_Np_byteAt : MethodName := ⟨"NarrowingPacker", "byteAt", "(I)I"⟩
abbrev y_Np_isByte : MethodName := ⟨"NarrowingPacker", "isByte", "(I)Z"⟩
abbrev y_Np_writeSource : MethodName := ⟨"NarrowingPacker", "writeSource", "()V"⟩
abbrev y_Np_keepPacking : MethodName := ⟨"NarrowingPacker", "keepPacking", "(LNarrowingPacker$Narrower;)V"⟩
abbrev y_Np_refuseWhatCannotBeTold : MethodName := ⟨"NarrowingPacker", "refuseWhatCannotBeTold", "()V"⟩
abbrev y_Mo_init : MethodName := ⟨"NarrowingPackerModel", "<init>", "(I)V"⟩
abbrev y_Mo_thrown : MethodName := ⟨"NarrowingPackerModel", "thrown", "()I"⟩
abbrev y_Mo_isByte : MethodName := ⟨"NarrowingPackerModel", "isByte", "(I)Z"⟩
abbrev y_Mo_type : MethodName := ⟨"NarrowingPackerModel", "type", "(I)Z"⟩
abbrev y_Mo_wipe : MethodName := ⟨"NarrowingPackerModel", "wipe", "()I"⟩
abbrev y_Mo_begin : MethodName := ⟨"NarrowingPackerModel", "begin", "(Z)V"⟩
abbrev y_Mo_grow : MethodName := ⟨"NarrowingPackerModel", "grow", "(J)V"⟩
abbrev y_Mo_read : MethodName := ⟨"NarrowingPackerModel", "read", "()V"⟩
abbrev y_Mo_widen : MethodName := ⟨"NarrowingPackerModel", "widen", "()V"⟩
abbrev y_Mo_bit : MethodName := ⟨"NarrowingPackerModel", "bit", "(II)I"⟩
abbrev y_Mo_tree : MethodName := ⟨"NarrowingPackerModel", "tree", "(III)I"⟩
abbrev y_Mo_row : MethodName := ⟨"NarrowingPackerModel", "row", "(III)I"⟩
abbrev y_Mo_literal : MethodName := ⟨"NarrowingPackerModel", "literal", "(I)I"⟩
abbrev y_Mo_length : MethodName := ⟨"NarrowingPackerModel", "length", "(II)I"⟩
abbrev y_Mo_below : MethodName := ⟨"NarrowingPackerModel", "below", "(I)I"⟩
abbrev y_Mo_distance : MethodName := ⟨"NarrowingPackerModel", "distance", "(II)I"⟩
abbrev y_Mo_echo : MethodName := ⟨"NarrowingPackerModel", "echo", "(I)I"⟩
abbrev y_Mo_tell : MethodName := ⟨"NarrowingPackerModel", "tell", "(I)V"⟩
abbrev y_Mo_note : MethodName := ⟨"NarrowingPackerModel", "note", "(III)V"⟩
abbrev y_Mo_tellLiteral : MethodName := ⟨"NarrowingPackerModel", "tellLiteral", "(I)V"⟩
abbrev y_Mo_tellFar : MethodName := ⟨"NarrowingPackerModel", "tellFar", "(IIII)V"⟩
abbrev y_Mo_packet0 : MethodName := ⟨"NarrowingPackerModel", "packet", "()Z"⟩
abbrev y_Mo_agree : MethodName := ⟨"NarrowingPackerModel", "agree", "(II)I"⟩
abbrev y_Mo_choose : MethodName := ⟨"NarrowingPackerModel", "choose", "()V"⟩
abbrev y_Mo_pack : MethodName := ⟨"NarrowingPackerModel", "pack", "()I"⟩
abbrev y_Mo_unpack : MethodName := ⟨"NarrowingPackerModel", "unpack", "()I"⟩
abbrev y_Mo_packets : MethodName := ⟨"NarrowingPackerModel", "packets", "()I"⟩
abbrev y_Mo_packet2 : MethodName := ⟨"NarrowingPackerModel", "packet", "(II)I"⟩
abbrev y_Mo_chance : MethodName := ⟨"NarrowingPackerModel", "chance", "(II)I"⟩
abbrev y_Mo_size : MethodName := ⟨"NarrowingPackerModel", "size", "()I"⟩
abbrev y_Mo_at : MethodName := ⟨"NarrowingPackerModel", "at", "(I)I"⟩
abbrev y_Mo_add : MethodName := ⟨"NarrowingPackerModel", "add", "(I)Z"⟩
abbrev y_Mo_put : MethodName := ⟨"NarrowingPackerModel", "put", "(II)I"⟩
abbrev y_Mo_cut : MethodName := ⟨"NarrowingPackerModel", "cut", "(I)I"⟩
abbrev y_Mo_told : MethodName := ⟨"NarrowingPackerModel", "told", "()I"⟩
abbrev y_Mo_byteAt : MethodName := ⟨"NarrowingPackerModel", "byteAt", "(I)I"⟩
abbrev y_By_init : MethodName := ⟨"NarrowingPacker$Bytes", "<init>", "(I)V"⟩
abbrev y_By_has : MethodName := ⟨"NarrowingPacker$Bytes", "has", "(I)Z"⟩
abbrev y_By_get : MethodName := ⟨"NarrowingPacker$Bytes", "get", "(I)I"⟩
abbrev y_By_append : MethodName := ⟨"NarrowingPacker$Bytes", "append", "(I)Z"⟩
abbrev y_By_shorten : MethodName := ⟨"NarrowingPacker$Bytes", "shorten", "(I)I"⟩
abbrev y_By_copy : MethodName := ⟨"NarrowingPacker$Bytes", "copy", "([II)V"⟩
abbrev y_Ch_init : MethodName := ⟨"NarrowingPacker$Chances", "<init>", "()V"⟩
abbrev y_Ch_forget : MethodName := ⟨"NarrowingPacker$Chances", "forget", "()V"⟩
abbrev y_Ch_boundIn : MethodName := ⟨"NarrowingPacker$Chances", "boundIn", "(JI)J"⟩
abbrev y_Ch_learn : MethodName := ⟨"NarrowingPacker$Chances", "learn", "(II)V"⟩
abbrev y_Co_init : MethodName := ⟨"NarrowingPacker$Chooser", "<init>", "(I)V"⟩
abbrev y_Co_choose : MethodName := ⟨"NarrowingPacker$Chooser", "choose", "(LNarrowingPacker$Packet;LNarrowingPacker$Bytes;LNarrowingPacker$History;)V"⟩
abbrev y_Co_findMatch : MethodName := ⟨"NarrowingPacker$Chooser", "findMatch", "(LNarrowingPacker$Bytes;I)V"⟩
abbrev y_Co_findEcho : MethodName := ⟨"NarrowingPacker$Chooser", "findEcho", "(LNarrowingPacker$Bytes;I[I)V"⟩
abbrev y_Co_agreeing : MethodName := ⟨"NarrowingPacker$Chooser", "agreeing", "(LNarrowingPacker$Bytes;II)I"⟩
abbrev y_Fo_init : MethodName := ⟨"NarrowingPacker$Follower", "<init>", "()V"⟩
abbrev y_Fo_restart : MethodName := ⟨"NarrowingPacker$Follower", "restart", "(LNarrowingPacker$Bytes;)V"⟩
abbrev y_Fo_readBit : MethodName := ⟨"NarrowingPacker$Follower", "readBit", "(I)I"⟩
abbrev y_Fo_readTree : MethodName := ⟨"NarrowingPacker$Follower", "readTree", "(II)I"⟩
abbrev y_Fo_readRow : MethodName := ⟨"NarrowingPacker$Follower", "readRow", "(II)I"⟩
abbrev y_Fo_refuseWhatIsLeft : MethodName := ⟨"NarrowingPacker$Follower", "refuseWhatIsLeft", "()V"⟩
abbrev y_Fo_takeByte : MethodName := ⟨"NarrowingPacker$Follower", "takeByte", "()V"⟩
abbrev y_Hi_init : MethodName := ⟨"NarrowingPacker$History", "<init>", "()V"⟩
abbrev y_Hi_restart : MethodName := ⟨"NarrowingPacker$History", "restart", "()V"⟩
abbrev y_Hi_tell : MethodName := ⟨"NarrowingPacker$History", "tell", "(LNarrowingPacker$Packet;)V"⟩
abbrev y_Hi_byteBefore : MethodName := ⟨"NarrowingPacker$History", "byteBefore", "(I)I"⟩
abbrev y_Hi_isBehindACopy : MethodName := ⟨"NarrowingPacker$History", "isBehindACopy", "()Z"⟩
abbrev y_Hi_placeOfLiterals : MethodName := ⟨"NarrowingPacker$History", "placeOfLiterals", "()I"⟩
abbrev y_Hi_repeat : MethodName := ⟨"NarrowingPacker$History", "repeat", "(II)V"⟩
abbrev y_Hi_bringToFront : MethodName := ⟨"NarrowingPacker$History", "bringToFront", "(II)V"⟩
abbrev y_Hi_stateBehind : MethodName := ⟨"NarrowingPacker$History", "stateBehind", "(I)I"⟩
abbrev y_Hi_stateBehindLiteral : MethodName := ⟨"NarrowingPacker$History", "stateBehindLiteral", "()I"⟩
abbrev y_Na_init : MethodName := ⟨"NarrowingPacker$Narrower", "<init>", "()V"⟩
abbrev y_Na_restart : MethodName := ⟨"NarrowingPacker$Narrower", "restart", "()V"⟩
abbrev y_Na_fits : MethodName := ⟨"NarrowingPacker$Narrower", "fits", "()Z"⟩
abbrev y_Na_writeBit : MethodName := ⟨"NarrowingPacker$Narrower", "writeBit", "(II)V"⟩
abbrev y_Na_writeTree : MethodName := ⟨"NarrowingPacker$Narrower", "writeTree", "(III)V"⟩
abbrev y_Na_writeRow : MethodName := ⟨"NarrowingPacker$Narrower", "writeRow", "(III)V"⟩
abbrev y_Na_raiseLow : MethodName := ⟨"NarrowingPacker$Narrower", "raiseLow", "(J)V"⟩
abbrev y_Pa_init : MethodName := ⟨"NarrowingPacker$Packet", "<init>", "()V"⟩
abbrev y_Pa_becomeLiteral : MethodName := ⟨"NarrowingPacker$Packet", "becomeLiteral", "(I)V"⟩
abbrev y_Pa_becomeMatch : MethodName := ⟨"NarrowingPacker$Packet", "becomeMatch", "(II)V"⟩
abbrev y_Pa_becomeEcho : MethodName := ⟨"NarrowingPacker$Packet", "becomeEcho", "(III)V"⟩
abbrev y_Pa_becomeShort : MethodName := ⟨"NarrowingPacker$Packet", "becomeShort", "(I)V"⟩
abbrev y_Pa_becomeEnd : MethodName := ⟨"NarrowingPacker$Packet", "becomeEnd", "()V"⟩
abbrev y_Pa_become : MethodName := ⟨"NarrowingPacker$Packet", "become", "(III)V"⟩
abbrev y_Pl_init : MethodName := ⟨"NarrowingPacker$PacketList", "<init>", "()V"⟩
abbrev y_Pl_clear : MethodName := ⟨"NarrowingPacker$PacketList", "clear", "()V"⟩
abbrev y_Pl_append : MethodName := ⟨"NarrowingPacker$PacketList", "append", "(LNarrowingPacker$Packet;)V"⟩
abbrev y_Pl_tellOf : MethodName := ⟨"NarrowingPacker$PacketList", "tellOf", "(II)I"⟩
abbrev y_Re_init : MethodName := ⟨"NarrowingPacker$PacketReader", "<init>", "()V"⟩
abbrev y_Re_readPacket : MethodName := ⟨"NarrowingPacker$PacketReader", "readPacket", "(LNarrowingPacker$Packet;LNarrowingPacker$History;)V"⟩
abbrev y_Re_readLiteral : MethodName := ⟨"NarrowingPacker$PacketReader", "readLiteral", "(LNarrowingPacker$History;)I"⟩
abbrev y_Re_readMatchOrEnd : MethodName := ⟨"NarrowingPacker$PacketReader", "readMatchOrEnd", "(LNarrowingPacker$Packet;)V"⟩
abbrev y_Re_readDistance : MethodName := ⟨"NarrowingPacker$PacketReader", "readDistance", "(I)I"⟩
abbrev y_Re_readRepeat : MethodName := ⟨"NarrowingPacker$PacketReader", "readRepeat", "(LNarrowingPacker$Packet;I[I)V"⟩
abbrev y_Re_readLength : MethodName := ⟨"NarrowingPacker$PacketReader", "readLength", "(I)I"⟩
abbrev y_Wr_init : MethodName := ⟨"NarrowingPacker$PacketWriter", "<init>", "()V"⟩
abbrev y_Wr_writePacket : MethodName := ⟨"NarrowingPacker$PacketWriter", "writePacket", "(LNarrowingPacker$Packet;LNarrowingPacker$History;)V"⟩
abbrev y_Wr_writeLiteral : MethodName := ⟨"NarrowingPacker$PacketWriter", "writeLiteral", "(ILNarrowingPacker$History;)V"⟩
abbrev y_Wr_writeMatch : MethodName := ⟨"NarrowingPacker$PacketWriter", "writeMatch", "(LNarrowingPacker$Packet;)V"⟩
abbrev y_Wr_writeEnd : MethodName := ⟨"NarrowingPacker$PacketWriter", "writeEnd", "()V"⟩
abbrev y_Wr_writeRepeat : MethodName := ⟨"NarrowingPacker$PacketWriter", "writeRepeat", "(LNarrowingPacker$Packet;I)V"⟩
abbrev y_Wr_writeLength : MethodName := ⟨"NarrowingPacker$PacketWriter", "writeLength", "(II)V"⟩
abbrev y_Wr_bitsBelowHighest : MethodName := ⟨"NarrowingPacker$PacketWriter", "bitsBelowHighest", "(I)I"⟩
abbrev y_La_cell : MethodName := ⟨"NarrowingPackerLaw", "cell", "([II)I"⟩
abbrev y_La_pack : MethodName := ⟨"NarrowingPackerLaw", "pack", "(LNarrowingPacker;[J)I"⟩
abbrev y_La_put : MethodName := ⟨"NarrowingPackerLaw", "put", "(LNarrowingPacker;II[J)I"⟩
abbrev y_La_cut : MethodName := ⟨"NarrowingPackerLaw", "cut", "(LNarrowingPacker;I[J)I"⟩
abbrev y_La_unpack : MethodName := ⟨"NarrowingPackerLaw", "unpack", "(LNarrowingPacker;[J)I"⟩
abbrev y_La_law : MethodName := ⟨"NarrowingPackerLaw", "law", "([I)Z"⟩
abbrev y_Ar_fill : MethodName := ⟨"java/util/Arrays", "fill", "([II)V"⟩
def a_Z (a0 : Array Value) (s0 : State) : Prop := ∀ w ∈ lw_tbl, w.before a0 s0 = true
end
section
/-! numbers: ints and longs by the integer behind them -/
def zI (z : Int) : Int32 := Int32.ofInt z
def zL (z : Int) : Int64 := Int64.ofInt z
theorem zI_t {z : Int} (h1 : -2147483648 ≤ z) (h2 : z < 2147483648) : (zI z).toInt = z := by
  have e : (2 : Int) ^ 31 = 2147483648 := by decide
  exact Int32.toInt_ofInt_of_le (by omega) (by omega)
theorem zL_t {z : Int} (h1 : -9223372036854775808 ≤ z) (h2 : z < 9223372036854775808) : (zL z).toInt = z := by
  have e : (2 : Int) ^ 63 = 9223372036854775808 := by decide
  exact Int64.toInt_ofInt_of_le (by omega) (by omega)
theorem zI_of (x : Int32) : ∃ z : Int, (-2147483648 ≤ z ∧ z < 2147483648) ∧ x = zI z := by
  refine ⟨x.toInt, ⟨?_, ?_⟩, (Int32.ofInt_toInt x).symm⟩
  · have := Int32.le_toInt x; omega
  · have := Int32.toInt_lt x; omega
theorem zI_lt {a b : Int} (a1 : -2147483648 ≤ a) (a2 : a < 2147483648) (b1 : -2147483648 ≤ b) (b2 : b < 2147483648) : zI a < zI b ↔ a < b := by
  rw [Int32.lt_iff_toInt_lt, zI_t a1 a2, zI_t b1 b2]
theorem zI_le {a b : Int} (a1 : -2147483648 ≤ a) (a2 : a < 2147483648) (b1 : -2147483648 ≤ b) (b2 : b < 2147483648) : zI a ≤ zI b ↔ a ≤ b := by
  rw [Int32.le_iff_toInt_le, zI_t a1 a2, zI_t b1 b2]
theorem zI_eq {a b : Int} (a1 : -2147483648 ≤ a) (a2 : a < 2147483648) (b1 : -2147483648 ≤ b) (b2 : b < 2147483648) : zI a = zI b ↔ a = b := by
  rw [← Int32.toInt_inj, zI_t a1 a2, zI_t b1 b2]
theorem zL_lt {a b : Int} (a1 : -9223372036854775808 ≤ a) (a2 : a < 9223372036854775808) (b1 : -9223372036854775808 ≤ b) (b2 : b < 9223372036854775808) : zL a < zL b ↔ a < b := by
  rw [Int64.lt_iff_toInt_lt, zL_t a1 a2, zL_t b1 b2]
theorem zL_le {a b : Int} (a1 : -9223372036854775808 ≤ a) (a2 : a < 9223372036854775808) (b1 : -9223372036854775808 ≤ b) (b2 : b < 9223372036854775808) : zL a ≤ zL b ↔ a ≤ b := by
  rw [Int64.le_iff_toInt_le, zL_t a1 a2, zL_t b1 b2]
theorem zL_eq {a b : Int} (a1 : -9223372036854775808 ≤ a) (a2 : a < 9223372036854775808) (b1 : -9223372036854775808 ≤ b) (b2 : b < 9223372036854775808) : zL a = zL b ↔ a = b := by
  rw [← Int64.toInt_inj, zL_t a1 a2, zL_t b1 b2]
theorem zI_0 : zI 0 = 0 := rfl
theorem zI_add (a b : Int) : zI a + zI b = zI (a + b) := (Int32.ofInt_add a b).symm
theorem zI_sub (a b : Int) : zI a - zI b = zI (a - b) := (Int32.ofInt_sub a b).symm
theorem zI_mul (a b : Int) : zI a * zI b = zI (a * b) := (Int32.ofInt_mul a b).symm
theorem zL_add (a b : Int) : zL a + zL b = zL (a + b) := (Int64.ofInt_add a b).symm
theorem zL_sub (a b : Int) : zL a - zL b = zL (a - b) := (Int64.ofInt_sub a b).symm
theorem zL_mul (a b : Int) : zL a * zL b = zL (a * b) := (Int64.ofInt_mul a b).symm
theorem zI_cl {z : Int} (h1 : 0 ≤ z) (h2 : z < 2147483648) : (zI z).toNatClampNeg = z.toNat := by
  show (zI z).toInt.toNat = _
  rw [zI_t (by omega) h2]
theorem zI_in {z : Int} {n : Nat} (h1 : 0 ≤ z) (h2 : z < (n : Int)) (hn : (n : Int) < 2147483648) : vp_in (zI z) n := by
  rw [vp_in_iff, zI_t (by omega) (by omega)]
  exact ⟨h1, h2⟩
theorem zI_l {z : Int} (h1 : -2147483648 ≤ z) (h2 : z < 2147483648) : (zI z).toInt64 = zL z := by
  apply Int64.toInt_inj.mp
  rw [zL_t (by omega) (by omega), Int32.toInt_toInt64, zI_t h1 h2]
theorem zL_i (z : Int) : (zL z).toInt32 = zI z := Int64.toInt32_ofInt
theorem zI_sm : ∀ n : Fin 32, ((zI (n.val : Int) &&& 31).toBitVec.smod 32).toNat = n.val := by decide
theorem zL_sm : ∀ n : Fin 64, (((zI (n.val : Int)).toInt64 &&& 63).toBitVec.smod 64).toNat = n.val := by decide
theorem zI_shr {z : Int} (k : Nat) (hk : k < 32) (h1 : -2147483648 ≤ z) (h2 : z < 2147483648) : zI z >>> (zI (k : Int) &&& 31) = zI (z / 2 ^ k) := by
  apply Int32.toInt_inj.mp
  have hp : (0 : Int) < 2 ^ k := Int.pow_pos (by decide)
  have e1 : z / 2 ^ k < 2147483648 := by
    by_cases hz : 0 ≤ z
    · have := Int.ediv_le_self (2 ^ k) hz; omega
    · have := Int.ediv_neg_of_neg_of_pos (by omega : z < 0) hp; omega
  have e2 : -2147483648 ≤ z / 2 ^ k := by
    have : -2147483648 * 2 ^ k ≤ z := by
      have h5 : (1 : Int) ≤ 2 ^ k := by omega
      have : -2147483648 * (2 ^ k : Int) ≤ -2147483648 * 1 := by
        have := Int.mul_le_mul_of_nonneg_left h5 (by decide : (0 : Int) ≤ 2147483648)
        omega
      omega
    exact (Int.le_ediv_iff_mul_le hp).mpr this
  rw [pk_shr _ _ k (zI_sm ⟨k, hk⟩), zI_t h1 h2, zI_t e2 e1, Int.shiftRight_eq_div_pow]
  norm_cast
theorem zI_and1 (z : Int) : zI z &&& 1 = zI (z % 2) := by
  rw [pk_and (zI z) 1 (by decide)]
  apply Int32.toInt_inj.mp
  have e : ((zI z).toBitVec.toNat : Int) % 2 = z % 2 := by
    show ((BitVec.ofInt 32 z).toNat : Int) % 2 = _
    rw [BitVec.toNat_ofInt]
    omega
  rw [nI_toInt (by omega), zI_t (by omega) (by omega)]
  omega
theorem zL_and255 (z : Int) : zL z &&& 255 = zL (z % 256) := by
  apply Int64.toBitVec_inj.mp
  apply BitVec.eq_of_toNat_eq
  have hm : (255 : Int64).toBitVec.toNat = 2 ^ 8 - 1 := by decide
  rw [Int64.toBitVec_and, BitVec.toNat_and, hm, Nat.and_two_pow_sub_one_eq_mod]
  show (BitVec.ofInt 64 z).toNat % 2 ^ 8 = (BitVec.ofInt 64 (z % 256)).toNat
  rw [BitVec.toNat_ofInt, BitVec.toNat_ofInt]
  omega
theorem zL_shr {z : Int} (k : Nat) (hk : k < 64) (h1 : 0 ≤ z) (h2 : z < 9223372036854775808) : zL z >>> ((zI (k : Int)).toInt64 &&& 63) = zL (z / 2 ^ k) := by
  apply Int64.toInt_inj.mp
  have hp : (0 : Int) < 2 ^ k := Int.pow_pos (by decide)
  have e0 := Int.ediv_le_self (2 ^ k) h1
  have e1 := Int.ediv_nonneg h1 (Int.le_of_lt hp)
  have e : (zL z >>> ((zI (k : Int)).toInt64 &&& 63)).toInt = (zL z).toInt >>> k := by
    show ((zL z).toBitVec.sshiftRight (((zI (k : Int)).toInt64 &&& 63).toBitVec.smod 64).toNat).toInt = _
    rw [zL_sm ⟨k, hk⟩, BitVec.toInt_sshiftRight]
    rfl
  rw [e, zL_t (by omega) h2, zL_t (by omega) (by omega), Int.shiftRight_eq_div_pow]
  norm_cast
theorem zL_shl (z : Int) (k : Nat) (hk : k < 64) : zL z <<< ((zI (k : Int)).toInt64 &&& 63) = zL (z * 2 ^ k) := by
  apply Int64.toBitVec_inj.mp
  show (zL z).toBitVec <<< (((zI (k : Int)).toInt64 &&& 63).toBitVec.smod 64).toNat = BitVec.ofInt 64 (z * 2 ^ k)
  rw [zL_sm ⟨k, hk⟩]
  show BitVec.ofInt 64 z <<< k = _
  rw [BitVec.shiftLeft_eq_mul_twoPow]
  rw [BitVec.ofInt_mul]
  congr 1
  apply BitVec.eq_of_toNat_eq
  rw [BitVec.toNat_twoPow, BitVec.toNat_ofInt]
  have : ((2 : Int) ^ k) % (2 ^ 64 : Nat) = ((2 ^ k % 2 ^ 64 : Nat) : Int) := by norm_cast
  rw [this]
  rfl
theorem zI_shl (z : Int) (k : Nat) (hk : k < 32) : zI z <<< (zI (k : Int) &&& 31) = zI (z * 2 ^ k) := by
  apply Int32.toBitVec_inj.mp
  show (zI z).toBitVec <<< ((zI (k : Int) &&& 31).toBitVec.smod 32).toNat = BitVec.ofInt 32 (z * 2 ^ k)
  rw [zI_sm ⟨k, hk⟩]
  show BitVec.ofInt 32 z <<< k = _
  rw [BitVec.shiftLeft_eq_mul_twoPow]
  rw [BitVec.ofInt_mul]
  congr 1
  apply BitVec.eq_of_toNat_eq
  rw [BitVec.toNat_twoPow, BitVec.toNat_ofInt]
  have : ((2 : Int) ^ k) % (2 ^ 32 : Nat) = ((2 ^ k % 2 ^ 32 : Nat) : Int) := by norm_cast
  rw [this]
  rfl
theorem zI_div {a b : Int} (a1 : 0 ≤ a) (a2 : a < 2147483648) (b1 : 0 < b) (b2 : b < 2147483648) : zI a / zI b = zI (a / b) := by
  apply Int32.toInt_inj.mp
  have h1 := Int.ediv_le_self b a1
  have h2 := Int.ediv_nonneg a1 (Int.le_of_lt b1)
  rw [lg_idiv_nonneg (by rw [zI_t (by omega) a2]; exact a1) (by rw [zI_t (by omega) b2]; omega), zI_t (by omega) a2, zI_t (by omega) b2, zI_t (by omega) (by omega)]
theorem zL_div {a b : Int} (a1 : 0 ≤ a) (a2 : a < 9223372036854775808) (b1 : 0 < b) (b2 : b < 9223372036854775808) : zL a / zL b = zL (a / b) := by
  apply Int64.toInt_inj.mp
  have h1 := Int.ediv_le_self b a1
  have h2 := Int.ediv_nonneg a1 (Int.le_of_lt b1)
  rw [lg_ldiv_nonneg (by rw [zL_t (by omega) a2]; exact a1) (by rw [zL_t (by omega) b2]; omega), zL_t (by omega) a2, zL_t (by omega) b2, zL_t (by omega) (by omega)]
theorem zI_rem {a b : Int} (a1 : 0 ≤ a) (a2 : a < 2147483648) (b1 : 0 < b) (b2 : b < 2147483648) : zI a - zI a / zI b * zI b = zI (a % b) := by
  rw [zI_div a1 a2 b1 b2, zI_mul, zI_sub]
  congr 1
  have := Int.mul_ediv_add_emod a b
  rw [Int.mul_comm] at this
  omega
theorem zL_rem {a b : Int} (a1 : 0 ≤ a) (a2 : a < 9223372036854775808) (b1 : 0 < b) (b2 : b < 9223372036854775808) : zL a - zL a / zL b * zL b = zL (a % b) := by
  rw [zL_div a1 a2 b1 b2, zL_mul, zL_sub]
  congr 1
  have := Int.mul_ediv_add_emod a b
  rw [Int.mul_comm] at this
  omega
/-- a row of numbers, one of them changed -/
def zup (f : Int → Int) (i x : Int) : Int → Int := fun j => if j = i then x else f j
theorem zup_s (f : Int → Int) (i x : Int) : zup f i x i = x := if_pos rfl
theorem zup_n {f : Int → Int} {i x j : Int} (h : j ≠ i) : zup f i x j = f j := if_neg h
/-- n numbers from place p of f on, laid to place q of g on -/
def zcpy (f g : Int → Int) (p q n : Int) : Int → Int := fun j => if q ≤ j ∧ j < q + n then f (p + (j - q)) else g j
theorem upd_z (f : Int → Int) {i : Int} (x : Int) (h : 0 ≤ i) : upd (fun j => zI (f (j : Int))) i.toNat (zI x) = fun j : Nat => zI (zup f i x (j : Int)) := by
  funext j
  unfold upd zup
  by_cases e : j = i.toNat
  · rw [if_pos e, if_pos (by omega)]
  · rw [if_neg e, if_neg (by omega)]
theorem updL_z (f : Int → Int) {i : Int} (x : Int) (h : 0 ≤ i) : vp_updL (fun j => zL (f (j : Int))) i.toNat (zL x) = fun j : Nat => zL (zup f i x (j : Int)) := by
  funext j
  unfold vp_updL zup
  by_cases e : j = i.toNat
  · rw [if_pos e, if_pos (by omega)]
  · rw [if_neg e, if_neg (by omega)]
theorem cpy_z (f g : Int → Int) {p q n : Int} (h1 : 0 ≤ p) (h2 : 0 ≤ q) (h3 : 0 ≤ n) : va_cpy (fun j => zI (f (j : Int))) (fun j => zI (g (j : Int))) p.toNat q.toNat n.toNat = fun j : Nat => zI (zcpy f g p q n (j : Int)) := by
  funext j
  unfold va_cpy zcpy
  by_cases e : q.toNat ≤ j ∧ j < q.toNat + n.toNat
  · rw [if_pos e, if_pos (by omega)]
    have e2 : ((p.toNat + (j - q.toNat) : Nat) : Int) = p + ((j : Int) - q) := by omega
    show zI (f ((p.toNat + (j - q.toNat) : Nat) : Int)) = _
    rw [e2]
  · rw [if_neg e, if_neg (by omega)]
end
section
/-! the walk: a method's frame over a heap whose cells from the start's size on are known by their places -/
abbrev AH : Type := Nat → Option va_E
def a_up (h : AH) (k : Nat) (x : va_E) : AH := fun j => bif Nat.beq j k then some x else h j
theorem a_up_s (h : AH) (k : Nat) (x : va_E) : a_up h k x k = some x := by unfold a_up; rw [Nat.beq_refl]; rfl
theorem a_up_n {h : AH} {k j : Nat} {x : va_E} (e : j ≠ k) : a_up h k x j = h j := by
  unfold a_up
  cases hb : Nat.beq j k with
  | false => rfl
  | true => exact absurd (Nat.eq_of_beq_eq_true hb) e
theorem a_up_up (h : AH) (k : Nat) (x y : va_E) : a_up (a_up h k x) k y = a_up h k y := by
  funext j
  by_cases e : j = k
  · subst e; rw [a_up_s, a_up_s]
  · rw [a_up_n e, a_up_n e, a_up_n e]
theorem a_up_cm (h : AH) {k j : Nat} (x y : va_E) (e : k ≠ j) : a_up (a_up h k x) j y = a_up (a_up h j y) k x := by
  funext i
  by_cases e1 : i = k
  · subst e1; rw [a_up_s, a_up_n e, a_up_s]
  · by_cases e2 : i = j
    · subst e2; rw [a_up_s, a_up_n e1, a_up_s]
    · rw [a_up_n e2, a_up_n e1, a_up_n e1, a_up_n e2]
theorem a_up_id {h : AH} {k : Nat} {x : va_E} (e : h k = some x) : a_up h k x = h := by
  funext j
  by_cases e1 : j = k
  · subst e1; rw [a_up_s, e]
  · rw [a_up_n e1]
def iA (cI : ClassId) (n : Nat) (f : Int → Int) : va_E := .inl (cI, n, .inl (fun j => zI (f (j : Int))))
def lA (cL : ClassId) (n : Nat) (f : Int → Int) : va_E := .inl (cL, n, .inr (.inl (fun j => zL (f (j : Int)))))
/-- what is known of the locals -/
def a_lk : List (Nat × Value) → Nat → Option Value
  | [], _ => none
  | (j, v) :: r, i => bif Nat.beq j i then some v else a_lk r i
theorem a_lk_mem {lv : List (Nat × Value)} {i : Nat} {v : Value} (h : a_lk lv i = some v) : (i, v) ∈ lv := by
  induction lv with
  | nil => cases h
  | cons q r ih =>
    obtain ⟨j, w⟩ := q
    unfold a_lk at h
    cases e : Nat.beq j i with
    | true =>
      rw [e] at h
      have e1 : j = i := Nat.eq_of_beq_eq_true e
      have e2 : w = v := Option.some.inj h
      subst e1; subst e2
      exact List.mem_cons_self
    | false =>
      rw [e] at h
      exact List.mem_cons_of_mem _ (ih h)
abbrev a_s1 (lv : List (Nat × Value)) (i : Nat) (v : Value) : List (Nat × Value) := (i, v) :: lv.filter (fun q => !(q.1 == i) && !(q.1 + 1 == i && q.2.category == 2))
abbrev a_s2 (lv : List (Nat × Value)) (i : Nat) (v : Value) : List (Nat × Value) := (i, v) :: lv.filter (fun q => !(q.1 == i) && (!(q.1 == i + 1) && !(q.1 + 1 == i && q.2.category == 2)))
def a_sub (lv : List (Nat × Value)) : List (Nat × Value) → Prop
  | [] => True
  | (i, v) :: r => a_lk lv i = some v ∧ a_sub lv r
theorem a_sub_has {ls : Array Slot} {nL : Nat} {lv lv' : List (Nat × Value)} (h : lv_has ls nL lv) (hs : a_sub lv lv') : lv_has ls nL lv' := by
  refine ⟨h.1, h.2.1, ?_⟩
  induction lv' with
  | nil => intro q hq; cases hq
  | cons x r ih =>
    obtain ⟨i, v⟩ := x
    intro q hq
    rcases List.mem_cons.mp hq with e | e
    · subst e; exact h.2.2 _ (a_lk_mem hs.1)
    · exact ih hs.2 q e
/-- the state: locals, heap -/
def XP (s0 : State) (D : va_G) (nL : Nat) (lv : List (Nat × Value)) (h : AH) (K : Nat) (ls : Array Slot) (H : Heap) (locs : List Loc) : Prop :=
  lv_has ls nL lv ∧ H.size = s0.heap.size + K ∧ (∀ q : Nat, q < s0.heap.size → H[q]? = s0.heap[q]?) ∧ (∀ (k : Nat) (x : va_E), h k = some x → va_at D vwCl (s0.heap.size + k, x) H) ∧ ∀ q ∈ locs, s0.heap.size ≤ q.base
def XW (s0 : State) (D : va_G) (p : Program) (l : Launch) (e : Env) (R : Room) (s : State) (m : MethodId) (args : Array Value) (below : List Frame) (meth : Method) (c : Code) (Q : State → Prop) (pc : Nat) (lv : List (Nat × Value)) (st : List Value) (h : AH) (K cells slots : Nat) : Prop :=
  ∀ (ls : Array Slot) (H : Heap) (locs : List Loc), XP s0 D c.maxLocals lv h K ls H locs → W p l e R s m args below meth c H locs cells slots Q (F0 m pc ls st)
/-- what stays the same through a method -/
def XC (s0 : State) (D : va_G) (cI cL : ClassId) (p : Program) (s : State) (m : MethodId) (meth : Method) (c : Code) (own : String) (cc : ByteArray) (nL : Nat) (ret : Option FieldType) (tb : List ExceptionTableEntry) : Prop :=
  p.tables.exec = Jvm.exec ∧ c.code = cc ∧ c.maxLocals = nL ∧ s.vm.findClass own = some m.cls ∧ s0.WarmedH s.vm ∧ meth.locks = false ∧ va_K D vwCl [(cI, .int), (cL, .long)] s ∧ meth.sig.returnType = ret ∧ c.exceptionTable.toList = tb
section Walk
variable {a0 : Array Value} {s0 : State} {D : va_G} {cI cL : ClassId} {p : Program} {l : Launch} {e : Env} {R : Room} {s : State} {m : MethodId} {args : Array Value} {below : List Frame} {meth : Method} {c : Code} {Q : State → Prop} {tb : List ExceptionTableEntry}
variable {own : String} {cc : ByteArray} {nL : Nat} {ret : Option FieldType} {pc : Nat} {lv : List (Nat × Value)} {st : List Value} {h : AH} {K cells slots : Nat}
theorem x_w (C : XC s0 D cI cL p s m meth c own cc nL ret tb) {w : Cond} (hg : goodWord w = true) (hw : w.before a0 s0 = true) : w.before args s = true := word_at C.2.2.2.2.1 (good_of_word hg) hw
theorem XW.loc {lv' : List (Nat × Value)} (hs : a_sub lv lv') (k : XW s0 D p l e R s m args below meth c Q pc lv' st h K cells slots) : XW s0 D p l e R s m args below meth c Q pc lv st h K cells slots :=
  fun ls H locs P => k ls H locs ⟨a_sub_has P.1 hs, P.2⟩
theorem XW.heap {h' : AH} (hs : ∀ (k : Nat) (x : va_E), h' k = some x → h k = some x) (k : XW s0 D p l e R s m args below meth c Q pc lv st h' K cells slots) : XW s0 D p l e R s m args below meth c Q pc lv st h K cells slots :=
  fun ls H locs P => k ls H locs ⟨P.1, P.2.1, P.2.2.1, fun i x hx => P.2.2.2.1 i x (hs i x hx), P.2.2.2.2⟩
theorem XW.heq {h' : AH} (hs : h = h') (k : XW s0 D p l e R s m args below meth c Q pc lv st h' K cells slots) : XW s0 D p l e R s m args below meth c Q pc lv st h K cells slots := by subst hs; exact k
theorem XW.steq {st' : List Value} (hs : st = st') (k : XW s0 D p l e R s m args below meth c Q pc lv st' h K cells slots) : XW s0 D p l e R s m args below meth c Q pc lv st h K cells slots := by subst hs; exact k
theorem XW.widen {cells' slots' : Nat} (h1 : cells ≤ cells') (h2 : slots ≤ slots') (k : XW s0 D p l e R s m args below meth c Q pc lv st h K cells' slots') : XW s0 D p l e R s m args below meth c Q pc lv st h K cells slots :=
  fun ls H locs P => W.widen h1 h2 (k ls H locs P)
theorem x_iconst (C : XC s0 D cI cL p s m meth c own cc nL ret tb) {n : Int} (hd : decode cc pc = .ok (.iconst n, 1)) (k : XW s0 D p l e R s m args below meth c Q (pc + 1) lv (.int (zI n) :: st) h K cells slots) : XW s0 D p l e R s m args below meth c Q pc lv st h K cells slots :=
  fun ls H locs P => lv_iconst C.1 C.2.1 hd rfl (k ls H locs P)
theorem x_bipush (C : XC s0 D cI cL p s m meth c own cc nL ret tb) {n : Int} (hd : decode cc pc = .ok (.bipush n, 2)) (hv : (Int8.ofInt n).toInt32 = zI n) (k : XW s0 D p l e R s m args below meth c Q (pc + 2) lv (.int (zI n) :: st) h K cells slots) : XW s0 D p l e R s m args below meth c Q pc lv st h K cells slots :=
  fun ls H locs P => lv_bipush C.1 C.2.1 hd hv (k ls H locs P)
theorem x_sipush (C : XC s0 D cI cL p s m meth c own cc nL ret tb) {n : Int} (hd : decode cc pc = .ok (.sipush n, 3)) (hv : (Int16.ofInt n).toInt32 = zI n) (k : XW s0 D p l e R s m args below meth c Q (pc + 3) lv (.int (zI n) :: st) h K cells slots) : XW s0 D p l e R s m args below meth c Q pc lv st h K cells slots :=
  fun ls H locs P => lv_sipush C.1 C.2.1 hd hv (k ls H locs P)
theorem x_lconst (C : XC s0 D cI cL p s m meth c own cc nL ret tb) {n : Fin 2} (hd : decode cc pc = .ok (.lconst n, 1)) (hv : Int64.ofNat (n : Nat) = zL (n : Nat)) (k : XW s0 D p l e R s m args below meth c Q (pc + 1) lv (.long (zL (n : Nat)) :: st) h K cells slots) : XW s0 D p l e R s m args below meth c Q pc lv st h K cells slots :=
  fun ls H locs P => lv_lconst C.1 C.2.1 hd hv (k ls H locs P)
theorem x_ldc (C : XC s0 D cI cL p s m meth c own cc nL ret tb) {index : Nat} {v : Int} (hw : (Cond.constant own index (zI v)).before a0 s0 = true) (hd : decode cc pc = .ok (.ldc index, 2)) (k : XW s0 D p l e R s m args below meth c Q (pc + 2) lv (.int (zI v) :: st) h K cells slots) : XW s0 D p l e R s m args below meth c Q pc lv st h K cells slots :=
  fun ls H locs P => lv_ldc C.1 C.2.1 C.2.2.2.1 (x_w C rfl hw) hd (k ls H locs P)
theorem x_ldc2 (C : XC s0 D cI cL p s m meth c own cc nL ret tb) {index : Nat} {v : Int} (hw : (Cond.constantLong own index (zL v)).before a0 s0 = true) (hd : decode cc pc = .ok (.ldc2_w index, 3)) (k : XW s0 D p l e R s m args below meth c Q (pc + 3) lv (.long (zL v) :: st) h K cells slots) : XW s0 D p l e R s m args below meth c Q pc lv st h K cells slots :=
  fun ls H locs P => lv_ldc2 C.1 C.2.1 C.2.2.2.1 (x_w C rfl hw) hd (k ls H locs P)
theorem x_iload_n (C : XC s0 D cI cL p s m meth c own cc nL ret tb) {i : Fin 4} {x : Int32} (hd : decode cc pc = .ok (.iload_n i, 1)) (hl : a_lk lv i.val = some (.int x)) (k : XW s0 D p l e R s m args below meth c Q (pc + 1) lv (.int x :: st) h K cells slots) : XW s0 D p l e R s m args below meth c Q pc lv st h K cells slots :=
  fun ls H locs P => lv_iload_n C.1 C.2.1 hd rfl (P.1.2.2 _ (a_lk_mem hl)) (k ls H locs P)
theorem x_iload (C : XC s0 D cI cL p s m meth c own cc nL ret tb) {i : Nat} {x : Int32} (hd : decode cc pc = .ok (.iload i, 2)) (hl : a_lk lv i = some (.int x)) (k : XW s0 D p l e R s m args below meth c Q (pc + 2) lv (.int x :: st) h K cells slots) : XW s0 D p l e R s m args below meth c Q pc lv st h K cells slots :=
  fun ls H locs P => lv_iload C.1 C.2.1 hd (P.1.2.2 _ (a_lk_mem hl)) (k ls H locs P)
theorem x_lload_n (C : XC s0 D cI cL p s m meth c own cc nL ret tb) {i : Fin 4} {x : Int64} (hd : decode cc pc = .ok (.lload_n i, 1)) (hl : a_lk lv i.val = some (.long x)) (k : XW s0 D p l e R s m args below meth c Q (pc + 1) lv (.long x :: st) h K cells slots) : XW s0 D p l e R s m args below meth c Q pc lv st h K cells slots :=
  fun ls H locs P => lv_lload_n C.1 C.2.1 hd rfl (P.1.2.2 _ (a_lk_mem hl)) (k ls H locs P)
theorem x_lload (C : XC s0 D cI cL p s m meth c own cc nL ret tb) {i : Nat} {x : Int64} (hd : decode cc pc = .ok (.lload i, 2)) (hl : a_lk lv i = some (.long x)) (k : XW s0 D p l e R s m args below meth c Q (pc + 2) lv (.long x :: st) h K cells slots) : XW s0 D p l e R s m args below meth c Q pc lv st h K cells slots :=
  fun ls H locs P => lv_lload C.1 C.2.1 hd (P.1.2.2 _ (a_lk_mem hl)) (k ls H locs P)
theorem x_aload_n (C : XC s0 D cI cL p s m meth c own cc nL ret tb) {i : Fin 4} {x : Nat} (hd : decode cc pc = .ok (.aload_n i, 1)) (hl : a_lk lv i.val = some (.ref x)) (k : XW s0 D p l e R s m args below meth c Q (pc + 1) lv (.ref x :: st) h K cells slots) : XW s0 D p l e R s m args below meth c Q pc lv st h K cells slots :=
  fun ls H locs P => lv_aload_n C.1 C.2.1 hd rfl (P.1.2.2 _ (a_lk_mem hl)) (k ls H locs P)
theorem x_aload (C : XC s0 D cI cL p s m meth c own cc nL ret tb) {i : Nat} {x : Nat} (hd : decode cc pc = .ok (.aload i, 2)) (hl : a_lk lv i = some (.ref x)) (k : XW s0 D p l e R s m args below meth c Q (pc + 2) lv (.ref x :: st) h K cells slots) : XW s0 D p l e R s m args below meth c Q pc lv st h K cells slots :=
  fun ls H locs P => lv_aload C.1 C.2.1 hd (P.1.2.2 _ (a_lk_mem hl)) (k ls H locs P)
theorem x_istore_n (C : XC s0 D cI cL p s m meth c own cc nL ret tb) {i : Fin 4} {x : Int32} (hd : decode cc pc = .ok (.istore_n i, 1)) (hn : i.val < nL) (k : XW s0 D p l e R s m args below meth c Q (pc + 1) (a_s1 lv i.val (.int x)) st h K cells slots) : XW s0 D p l e R s m args below meth c Q pc lv (.int x :: st) h K cells slots :=
  fun _ H locs P => lv_istore_n C.1 C.2.1 hd rfl P.1 (by rw [C.2.2.1]; exact hn) rfl (fun ls' hl' => k ls' H locs ⟨hl', P.2⟩)
theorem x_istore (C : XC s0 D cI cL p s m meth c own cc nL ret tb) {i : Nat} {x : Int32} (hd : decode cc pc = .ok (.istore i, 2)) (hn : i < nL) (k : XW s0 D p l e R s m args below meth c Q (pc + 2) (a_s1 lv i (.int x)) st h K cells slots) : XW s0 D p l e R s m args below meth c Q pc lv (.int x :: st) h K cells slots :=
  fun _ H locs P => lv_istore C.1 C.2.1 hd P.1 (by rw [C.2.2.1]; exact hn) rfl (fun ls' hl' => k ls' H locs ⟨hl', P.2⟩)
theorem x_astore_n (C : XC s0 D cI cL p s m meth c own cc nL ret tb) {i : Fin 4} {x : Nat} (hd : decode cc pc = .ok (.astore_n i, 1)) (hn : i.val < nL) (k : XW s0 D p l e R s m args below meth c Q (pc + 1) (a_s1 lv i.val (.ref x)) st h K cells slots) : XW s0 D p l e R s m args below meth c Q pc lv (.ref x :: st) h K cells slots :=
  fun _ H locs P => lv_astore_n C.1 C.2.1 hd rfl P.1 (by rw [C.2.2.1]; exact hn) rfl (fun ls' hl' => k ls' H locs ⟨hl', P.2⟩)
theorem x_astore (C : XC s0 D cI cL p s m meth c own cc nL ret tb) {i : Nat} {x : Nat} (hd : decode cc pc = .ok (.astore i, 2)) (hn : i < nL) (k : XW s0 D p l e R s m args below meth c Q (pc + 2) (a_s1 lv i (.ref x)) st h K cells slots) : XW s0 D p l e R s m args below meth c Q pc lv (.ref x :: st) h K cells slots :=
  fun _ H locs P => lv_astore C.1 C.2.1 hd P.1 (by rw [C.2.2.1]; exact hn) rfl (fun ls' hl' => k ls' H locs ⟨hl', P.2⟩)
theorem x_lstore_n (C : XC s0 D cI cL p s m meth c own cc nL ret tb) {i : Fin 4} {x : Int64} (hd : decode cc pc = .ok (.lstore_n i, 1)) (hn : i.val + 1 < nL) (k : XW s0 D p l e R s m args below meth c Q (pc + 1) (a_s2 lv i.val (.long x)) st h K cells slots) : XW s0 D p l e R s m args below meth c Q pc lv (.long x :: st) h K cells slots :=
  fun _ H locs P => lv_lstore_n C.1 C.2.1 hd rfl P.1 (by rw [C.2.2.1]; exact hn) rfl (fun ls' hl' => k ls' H locs ⟨hl', P.2⟩)
theorem x_lstore (C : XC s0 D cI cL p s m meth c own cc nL ret tb) {i : Nat} {x : Int64} (hd : decode cc pc = .ok (.lstore i, 2)) (hn : i + 1 < nL) (k : XW s0 D p l e R s m args below meth c Q (pc + 2) (a_s2 lv i (.long x)) st h K cells slots) : XW s0 D p l e R s m args below meth c Q pc lv (.long x :: st) h K cells slots :=
  fun _ H locs P => lv_lstore C.1 C.2.1 hd P.1 (by rw [C.2.2.1]; exact hn) rfl (fun ls' hl' => k ls' H locs ⟨hl', P.2⟩)
theorem x_iinc (C : XC s0 D cI cL p s m meth c own cc nL ret tb) {i : Nat} {n z : Int} (hd : decode cc pc = .ok (.iinc i n, 3)) (hn : i < nL) (hl : a_lk lv i = some (.int (zI z))) (k : XW s0 D p l e R s m args below meth c Q (pc + 3) (a_s1 lv i (.int (zI (z + n)))) st h K cells slots) : XW s0 D p l e R s m args below meth c Q pc lv st h K cells slots := by
  intro ls H locs P
  obtain ⟨j, hj⟩ := List.getElem?_of_mem (a_lk_mem hl)
  exact lv_iinc C.1 C.2.1 hd P.1 hj (zI_add z n) (by rw [C.2.2.1]; exact hn) rfl (fun ls' hl' => k ls' H locs ⟨hl', P.2⟩)
theorem x_iadd (C : XC s0 D cI cL p s m meth c own cc nL ret tb) {x y : Int} (hd : decode cc pc = .ok (.iadd, 1)) (k : XW s0 D p l e R s m args below meth c Q (pc + 1) lv (.int (zI (x + y)) :: st) h K cells slots) : XW s0 D p l e R s m args below meth c Q pc lv (.int (zI y) :: .int (zI x) :: st) h K cells slots :=
  fun ls H locs P => lv_iadd C.1 C.2.1 hd (by rw [zI_add]; exact k ls H locs P)
theorem x_isub (C : XC s0 D cI cL p s m meth c own cc nL ret tb) {x y : Int} (hd : decode cc pc = .ok (.isub, 1)) (k : XW s0 D p l e R s m args below meth c Q (pc + 1) lv (.int (zI (x - y)) :: st) h K cells slots) : XW s0 D p l e R s m args below meth c Q pc lv (.int (zI y) :: .int (zI x) :: st) h K cells slots :=
  fun ls H locs P => lv_isub C.1 C.2.1 hd (by rw [zI_sub]; exact k ls H locs P)
theorem x_imul (C : XC s0 D cI cL p s m meth c own cc nL ret tb) {x y : Int} (hd : decode cc pc = .ok (.imul, 1)) (k : XW s0 D p l e R s m args below meth c Q (pc + 1) lv (.int (zI (x * y)) :: st) h K cells slots) : XW s0 D p l e R s m args below meth c Q pc lv (.int (zI y) :: .int (zI x) :: st) h K cells slots :=
  fun ls H locs P => lv_imul C.1 C.2.1 hd (by rw [zI_mul]; exact k ls H locs P)
theorem x_idiv (C : XC s0 D cI cL p s m meth c own cc nL ret tb) {x y : Int} (hd : decode cc pc = .ok (.idiv, 1)) (x1 : 0 ≤ x) (x2 : x < 2147483648) (y1 : 0 < y) (y2 : y < 2147483648) (k : XW s0 D p l e R s m args below meth c Q (pc + 1) lv (.int (zI (x / y)) :: st) h K cells slots) : XW s0 D p l e R s m args below meth c Q pc lv (.int (zI y) :: .int (zI x) :: st) h K cells slots :=
  fun ls H locs P => lv_idiv C.1 C.2.1 hd (fun q => by rw [← zI_0, zI_eq (by omega) y2 (by omega) (by omega)] at q; omega) (by rw [zI_div x1 x2 y1 y2]; exact k ls H locs P)
theorem x_irem (C : XC s0 D cI cL p s m meth c own cc nL ret tb) {x y : Int} (hd : decode cc pc = .ok (.irem, 1)) (x1 : 0 ≤ x) (x2 : x < 2147483648) (y1 : 0 < y) (y2 : y < 2147483648) (k : XW s0 D p l e R s m args below meth c Q (pc + 1) lv (.int (zI (x % y)) :: st) h K cells slots) : XW s0 D p l e R s m args below meth c Q pc lv (.int (zI y) :: .int (zI x) :: st) h K cells slots :=
  fun ls H locs P => lv_irem C.1 C.2.1 hd (fun q => by rw [← zI_0, zI_eq (by omega) y2 (by omega) (by omega)] at q; omega) (by rw [zI_rem x1 x2 y1 y2]; exact k ls H locs P)
theorem x_ishr (C : XC s0 D cI cL p s m meth c own cc nL ret tb) {x y q : Int} (n : Nat) (hd : decode cc pc = .ok (.ishr, 1)) (hy : y = (n : Int)) (hq : 2 ^ n = q) (hn : n < 32) (x1 : -2147483648 ≤ x) (x2 : x < 2147483648) (k : XW s0 D p l e R s m args below meth c Q (pc + 1) lv (.int (zI (x / q)) :: st) h K cells slots) : XW s0 D p l e R s m args below meth c Q pc lv (.int (zI y) :: .int (zI x) :: st) h K cells slots := by
  subst hy
  subst hq
  exact fun ls H locs P => lv_ishr C.1 C.2.1 hd (by rw [zI_shr n hn x1 x2]; exact k ls H locs P)
theorem x_ishl (C : XC s0 D cI cL p s m meth c own cc nL ret tb) {x y q : Int} (n : Nat) (hd : decode cc pc = .ok (.ishl, 1)) (hy : y = (n : Int)) (hq : 2 ^ n = q) (hn : n < 32) (k : XW s0 D p l e R s m args below meth c Q (pc + 1) lv (.int (zI (x * q)) :: st) h K cells slots) : XW s0 D p l e R s m args below meth c Q pc lv (.int (zI y) :: .int (zI x) :: st) h K cells slots := by
  subst hy
  subst hq
  exact fun ls H locs P => lv_ishl C.1 C.2.1 hd (by rw [zI_shl x n hn]; exact k ls H locs P)
theorem x_iand (C : XC s0 D cI cL p s m meth c own cc nL ret tb) {x y z : Int} (hd : decode cc pc = .ok (.iand, 1)) (he : zI x &&& zI y = zI z) (k : XW s0 D p l e R s m args below meth c Q (pc + 1) lv (.int (zI z) :: st) h K cells slots) : XW s0 D p l e R s m args below meth c Q pc lv (.int (zI y) :: .int (zI x) :: st) h K cells slots :=
  fun ls H locs P => lv_iand C.1 C.2.1 hd (by rw [he]; exact k ls H locs P)
theorem x_ladd (C : XC s0 D cI cL p s m meth c own cc nL ret tb) {x y : Int} (hd : decode cc pc = .ok (.ladd, 1)) (k : XW s0 D p l e R s m args below meth c Q (pc + 1) lv (.long (zL (x + y)) :: st) h K cells slots) : XW s0 D p l e R s m args below meth c Q pc lv (.long (zL y) :: .long (zL x) :: st) h K cells slots :=
  fun ls H locs P => lv_ladd C.1 C.2.1 hd (by rw [zL_add]; exact k ls H locs P)
theorem x_lsub (C : XC s0 D cI cL p s m meth c own cc nL ret tb) {x y : Int} (hd : decode cc pc = .ok (.lsub, 1)) (k : XW s0 D p l e R s m args below meth c Q (pc + 1) lv (.long (zL (x - y)) :: st) h K cells slots) : XW s0 D p l e R s m args below meth c Q pc lv (.long (zL y) :: .long (zL x) :: st) h K cells slots :=
  fun ls H locs P => lv_lsub C.1 C.2.1 hd (by rw [zL_sub]; exact k ls H locs P)
theorem x_lmul (C : XC s0 D cI cL p s m meth c own cc nL ret tb) {x y : Int} (hd : decode cc pc = .ok (.lmul, 1)) (k : XW s0 D p l e R s m args below meth c Q (pc + 1) lv (.long (zL (x * y)) :: st) h K cells slots) : XW s0 D p l e R s m args below meth c Q pc lv (.long (zL y) :: .long (zL x) :: st) h K cells slots :=
  fun ls H locs P => lv_lmul C.1 C.2.1 hd (by rw [zL_mul]; exact k ls H locs P)
theorem x_ldiv (C : XC s0 D cI cL p s m meth c own cc nL ret tb) {x y : Int} (hd : decode cc pc = .ok (.ldiv, 1)) (x1 : 0 ≤ x) (x2 : x < 9223372036854775808) (y1 : 0 < y) (y2 : y < 9223372036854775808) (k : XW s0 D p l e R s m args below meth c Q (pc + 1) lv (.long (zL (x / y)) :: st) h K cells slots) : XW s0 D p l e R s m args below meth c Q pc lv (.long (zL y) :: .long (zL x) :: st) h K cells slots :=
  fun ls H locs P => lv_ldiv C.1 C.2.1 hd (fun q => by rw [show (0 : Int64) = zL 0 from rfl, zL_eq (by omega) y2 (by omega) (by omega)] at q; omega) (by rw [zL_div x1 x2 y1 y2]; exact k ls H locs P)
theorem x_lrem (C : XC s0 D cI cL p s m meth c own cc nL ret tb) {x y : Int} (hd : decode cc pc = .ok (.lrem, 1)) (x1 : 0 ≤ x) (x2 : x < 9223372036854775808) (y1 : 0 < y) (y2 : y < 9223372036854775808) (k : XW s0 D p l e R s m args below meth c Q (pc + 1) lv (.long (zL (x % y)) :: st) h K cells slots) : XW s0 D p l e R s m args below meth c Q pc lv (.long (zL y) :: .long (zL x) :: st) h K cells slots :=
  fun ls H locs P => lv_lrem C.1 C.2.1 hd (fun q => by rw [show (0 : Int64) = zL 0 from rfl, zL_eq (by omega) y2 (by omega) (by omega)] at q; omega) (by rw [zL_rem x1 x2 y1 y2]; exact k ls H locs P)
theorem x_land255 (C : XC s0 D cI cL p s m meth c own cc nL ret tb) {x : Int} (hd : decode cc pc = .ok (.land, 1)) (k : XW s0 D p l e R s m args below meth c Q (pc + 1) lv (.long (zL (x % 256)) :: st) h K cells slots) : XW s0 D p l e R s m args below meth c Q pc lv (.long (zL 255) :: .long (zL x) :: st) h K cells slots :=
  fun ls H locs P => lv_land C.1 C.2.1 hd (by rw [show zL 255 = 255 from rfl, zL_and255]; exact k ls H locs P)
theorem x_lshr (C : XC s0 D cI cL p s m meth c own cc nL ret tb) {x y q : Int} (n : Nat) (hd : decode cc pc = .ok (.lshr, 1)) (hy : y = (n : Int)) (hq : 2 ^ n = q) (hn : n < 64) (x1 : 0 ≤ x) (x2 : x < 9223372036854775808) (k : XW s0 D p l e R s m args below meth c Q (pc + 1) lv (.long (zL (x / q)) :: st) h K cells slots) : XW s0 D p l e R s m args below meth c Q pc lv (.int (zI y) :: .long (zL x) :: st) h K cells slots := by
  subst hy
  subst hq
  exact fun ls H locs P => lv_lshr C.1 C.2.1 hd (zL_shr n hn x1 x2) (k ls H locs P)
theorem x_lshl (C : XC s0 D cI cL p s m meth c own cc nL ret tb) {x y q : Int} (n : Nat) (hd : decode cc pc = .ok (.lshl, 1)) (hy : y = (n : Int)) (hq : 2 ^ n = q) (hn : n < 64) (k : XW s0 D p l e R s m args below meth c Q (pc + 1) lv (.long (zL (x * q)) :: st) h K cells slots) : XW s0 D p l e R s m args below meth c Q pc lv (.int (zI y) :: .long (zL x) :: st) h K cells slots := by
  subst hy
  subst hq
  exact fun ls H locs P => lv_lshl C.1 C.2.1 hd (zL_shl x n hn) (k ls H locs P)
theorem x_i2l (C : XC s0 D cI cL p s m meth c own cc nL ret tb) {x : Int} (hd : decode cc pc = .ok (.i2l, 1)) (x1 : -2147483648 ≤ x) (x2 : x < 2147483648) (k : XW s0 D p l e R s m args below meth c Q (pc + 1) lv (.long (zL x) :: st) h K cells slots) : XW s0 D p l e R s m args below meth c Q pc lv (.int (zI x) :: st) h K cells slots :=
  fun ls H locs P => lv_i2l C.1 C.2.1 hd (zI_l x1 x2) (k ls H locs P)
theorem x_l2i (C : XC s0 D cI cL p s m meth c own cc nL ret tb) {x : Int} (hd : decode cc pc = .ok (.l2i, 1)) (k : XW s0 D p l e R s m args below meth c Q (pc + 1) lv (.int (zI x) :: st) h K cells slots) : XW s0 D p l e R s m args below meth c Q pc lv (.long (zL x) :: st) h K cells slots :=
  fun ls H locs P => lv_l2i C.1 C.2.1 hd (zL_i x) (k ls H locs P)
theorem x_dup (C : XC s0 D cI cL p s m meth c own cc nL ret tb) {v : Value} (hd : decode cc pc = .ok (.dup, 1)) (hv : v.category = 1) (k : XW s0 D p l e R s m args below meth c Q (pc + 1) lv (v :: v :: st) h K cells slots) : XW s0 D p l e R s m args below meth c Q pc lv (v :: st) h K cells slots :=
  fun ls H locs P => lv_dup C.1 C.2.1 hd hv (k ls H locs P)
theorem x_pop (C : XC s0 D cI cL p s m meth c own cc nL ret tb) {v : Value} (hd : decode cc pc = .ok (.pop, 1)) (hv : v.category = 1) (k : XW s0 D p l e R s m args below meth c Q (pc + 1) lv st h K cells slots) : XW s0 D p l e R s m args below meth c Q pc lv (v :: st) h K cells slots :=
  fun ls H locs P => lv_pop C.1 C.2.1 hd hv (k ls H locs P)
theorem x_dup_x1 (C : XC s0 D cI cL p s m meth c own cc nL ret tb) {v w : Value} (hd : decode cc pc = .ok (.dup_x1, 1)) (hv : v.category = 1) (hw : w.category = 1) (k : XW s0 D p l e R s m args below meth c Q (pc + 1) lv (v :: w :: v :: st) h K cells slots) : XW s0 D p l e R s m args below meth c Q pc lv (v :: w :: st) h K cells slots :=
  fun ls H locs P => lv_dup_x1 C.1 C.2.1 hd hv hw (k ls H locs P)
theorem x_dup2 (C : XC s0 D cI cL p s m meth c own cc nL ret tb) {v w : Value} (hd : decode cc pc = .ok (.dup2, 1)) (hv : v.category = 1) (hw : w.category = 1) (k : XW s0 D p l e R s m args below meth c Q (pc + 1) lv (v :: w :: v :: w :: st) h K cells slots) : XW s0 D p l e R s m args below meth c Q pc lv (v :: w :: st) h K cells slots :=
  fun ls H locs P => lv_dup2_11 C.1 C.2.1 hd hv hw (k ls H locs P)
theorem x_goto (C : XC s0 D cI cL p s m meth c own cc nL ret tb) {off : Int} {tgt : Nat} (hd : decode cc pc = .ok (.goto off, 3)) (ht : (pc : Int) + off = (tgt : Int)) (k : XW s0 D p l e R s m args below meth c Q tgt lv st h K cells slots) : XW s0 D p l e R s m args below meth c Q pc lv st h K cells slots :=
  fun ls H locs P => lv_goto C.1 C.2.1 hd ht (k ls H locs P)
end Walk
/-! two heaps are one: place by place -/
theorem a_eq1 {h1 h2 : AH} (i : Nat) (e1 : h1 i = h2 i) (o : ∀ q, q ≠ i → h1 q = h2 q) : h1 = h2 := by
  funext q
  by_cases a : q = i
  · subst a; exact e1
  · exact o q a
theorem a_eq2 {h1 h2 : AH} (i j : Nat) (e1 : h1 i = h2 i) (e2 : h1 j = h2 j) (o : ∀ q, q ≠ i → q ≠ j → h1 q = h2 q) : h1 = h2 := by
  funext q
  by_cases a : q = i
  · subst a; exact e1
  · by_cases b : q = j
    · subst b; exact e2
    · exact o q a b
theorem a_eq3 {h1 h2 : AH} (i j k : Nat) (e1 : h1 i = h2 i) (e2 : h1 j = h2 j) (e3 : h1 k = h2 k) (o : ∀ q, q ≠ i → q ≠ j → q ≠ k → h1 q = h2 q) : h1 = h2 := by
  funext q
  by_cases a : q = i
  · subst a; exact e1
  · by_cases b : q = j
    · subst b; exact e2
    · by_cases c : q = k
      · subst c; exact e3
      · exact o q a b c
end
section
/-! branches -/
section Branch
variable {a0 : Array Value} {s0 : State} {D : va_G} {cI cL : ClassId} {p : Program} {l : Launch} {e : Env} {R : Room} {s : State} {m : MethodId} {args : Array Value} {below : List Frame} {meth : Method} {c : Code} {Q : State → Prop} {tb : List ExceptionTableEntry}
variable {own : String} {cc : ByteArray} {nL : Nat} {ret : Option FieldType} {pc : Nat} {lv : List (Nat × Value)} {st : List Value} {h : AH} {K cells slots : Nat}
theorem x_if_eq (C : XC s0 D cI cL p s m meth c own cc nL ret tb) {x : Int} {off : Int} {tgt : Nat} (hd : decode cc pc = .ok (.ifCond .eq off, 3)) (ht : (pc : Int) + off = (tgt : Int)) (x1 : -2147483648 ≤ x) (x2 : x < 2147483648) (kt : x = 0 → XW s0 D p l e R s m args below meth c Q tgt lv st h K cells slots) (kf : x ≠ 0 → XW s0 D p l e R s m args below meth c Q (pc + 3) lv st h K cells slots) : XW s0 D p l e R s m args below meth c Q pc lv (.int (zI x) :: st) h K cells slots := by
  intro ls H locs P
  refine lv_if_eq C.1 C.2.1 hd ht (fun q => kt ?_ ls H locs P) (fun q => kf ?_ ls H locs P) <;> (rw [← zI_0, zI_eq x1 x2 (by omega) (by omega)] at q; omega)
theorem x_icmp_eq (C : XC s0 D cI cL p s m meth c own cc nL ret tb) {x y : Int} {off : Int} {tgt : Nat} (hd : decode cc pc = .ok (.if_icmp .eq off, 3)) (ht : (pc : Int) + off = (tgt : Int)) (x1 : -2147483648 ≤ x) (x2 : x < 2147483648) (y1 : -2147483648 ≤ y) (y2 : y < 2147483648) (kt : x = y → XW s0 D p l e R s m args below meth c Q tgt lv st h K cells slots) (kf : x ≠ y → XW s0 D p l e R s m args below meth c Q (pc + 3) lv st h K cells slots) : XW s0 D p l e R s m args below meth c Q pc lv (.int (zI y) :: .int (zI x) :: st) h K cells slots := by
  intro ls H locs P
  refine lv_icmp_eq C.1 C.2.1 hd ht (fun q => kt ?_ ls H locs P) (fun q => kf ?_ ls H locs P) <;> (rw [zI_eq x1 x2 y1 y2] at q; omega)
theorem x_if_ne (C : XC s0 D cI cL p s m meth c own cc nL ret tb) {x : Int} {off : Int} {tgt : Nat} (hd : decode cc pc = .ok (.ifCond .ne off, 3)) (ht : (pc : Int) + off = (tgt : Int)) (x1 : -2147483648 ≤ x) (x2 : x < 2147483648) (kt : x ≠ 0 → XW s0 D p l e R s m args below meth c Q tgt lv st h K cells slots) (kf : x = 0 → XW s0 D p l e R s m args below meth c Q (pc + 3) lv st h K cells slots) : XW s0 D p l e R s m args below meth c Q pc lv (.int (zI x) :: st) h K cells slots := by
  intro ls H locs P
  refine lv_if_ne C.1 C.2.1 hd ht (fun q => kt ?_ ls H locs P) (fun q => kf ?_ ls H locs P) <;> (rw [← zI_0, zI_eq x1 x2 (by omega) (by omega)] at q; omega)
theorem x_icmp_ne (C : XC s0 D cI cL p s m meth c own cc nL ret tb) {x y : Int} {off : Int} {tgt : Nat} (hd : decode cc pc = .ok (.if_icmp .ne off, 3)) (ht : (pc : Int) + off = (tgt : Int)) (x1 : -2147483648 ≤ x) (x2 : x < 2147483648) (y1 : -2147483648 ≤ y) (y2 : y < 2147483648) (kt : x ≠ y → XW s0 D p l e R s m args below meth c Q tgt lv st h K cells slots) (kf : x = y → XW s0 D p l e R s m args below meth c Q (pc + 3) lv st h K cells slots) : XW s0 D p l e R s m args below meth c Q pc lv (.int (zI y) :: .int (zI x) :: st) h K cells slots := by
  intro ls H locs P
  refine lv_icmp_ne C.1 C.2.1 hd ht (fun q => kt ?_ ls H locs P) (fun q => kf ?_ ls H locs P) <;> (rw [zI_eq x1 x2 y1 y2] at q; omega)
theorem x_if_lt (C : XC s0 D cI cL p s m meth c own cc nL ret tb) {x : Int} {off : Int} {tgt : Nat} (hd : decode cc pc = .ok (.ifCond .lt off, 3)) (ht : (pc : Int) + off = (tgt : Int)) (x1 : -2147483648 ≤ x) (x2 : x < 2147483648) (kt : x < 0 → XW s0 D p l e R s m args below meth c Q tgt lv st h K cells slots) (kf : 0 ≤ x → XW s0 D p l e R s m args below meth c Q (pc + 3) lv st h K cells slots) : XW s0 D p l e R s m args below meth c Q pc lv (.int (zI x) :: st) h K cells slots := by
  intro ls H locs P
  refine lv_if_lt C.1 C.2.1 hd ht (fun q => kt ?_ ls H locs P) (fun q => kf ?_ ls H locs P) <;> (rw [← zI_0, zI_lt x1 x2 (by omega) (by omega)] at q; omega)
theorem x_icmp_lt (C : XC s0 D cI cL p s m meth c own cc nL ret tb) {x y : Int} {off : Int} {tgt : Nat} (hd : decode cc pc = .ok (.if_icmp .lt off, 3)) (ht : (pc : Int) + off = (tgt : Int)) (x1 : -2147483648 ≤ x) (x2 : x < 2147483648) (y1 : -2147483648 ≤ y) (y2 : y < 2147483648) (kt : x < y → XW s0 D p l e R s m args below meth c Q tgt lv st h K cells slots) (kf : y ≤ x → XW s0 D p l e R s m args below meth c Q (pc + 3) lv st h K cells slots) : XW s0 D p l e R s m args below meth c Q pc lv (.int (zI y) :: .int (zI x) :: st) h K cells slots := by
  intro ls H locs P
  refine lv_icmp_lt C.1 C.2.1 hd ht (fun q => kt ?_ ls H locs P) (fun q => kf ?_ ls H locs P) <;> (rw [zI_lt x1 x2 y1 y2] at q; omega)
theorem x_if_ge (C : XC s0 D cI cL p s m meth c own cc nL ret tb) {x : Int} {off : Int} {tgt : Nat} (hd : decode cc pc = .ok (.ifCond .ge off, 3)) (ht : (pc : Int) + off = (tgt : Int)) (x1 : -2147483648 ≤ x) (x2 : x < 2147483648) (kt : 0 ≤ x → XW s0 D p l e R s m args below meth c Q tgt lv st h K cells slots) (kf : x < 0 → XW s0 D p l e R s m args below meth c Q (pc + 3) lv st h K cells slots) : XW s0 D p l e R s m args below meth c Q pc lv (.int (zI x) :: st) h K cells slots := by
  intro ls H locs P
  refine lv_if_ge C.1 C.2.1 hd ht (fun q => kt ?_ ls H locs P) (fun q => kf ?_ ls H locs P) <;> (rw [← zI_0, zI_le (by omega) (by omega) x1 x2] at q; omega)
theorem x_icmp_ge (C : XC s0 D cI cL p s m meth c own cc nL ret tb) {x y : Int} {off : Int} {tgt : Nat} (hd : decode cc pc = .ok (.if_icmp .ge off, 3)) (ht : (pc : Int) + off = (tgt : Int)) (x1 : -2147483648 ≤ x) (x2 : x < 2147483648) (y1 : -2147483648 ≤ y) (y2 : y < 2147483648) (kt : y ≤ x → XW s0 D p l e R s m args below meth c Q tgt lv st h K cells slots) (kf : x < y → XW s0 D p l e R s m args below meth c Q (pc + 3) lv st h K cells slots) : XW s0 D p l e R s m args below meth c Q pc lv (.int (zI y) :: .int (zI x) :: st) h K cells slots := by
  intro ls H locs P
  refine lv_icmp_ge C.1 C.2.1 hd ht (fun q => kt ?_ ls H locs P) (fun q => kf ?_ ls H locs P) <;> (rw [zI_le y1 y2 x1 x2] at q; omega)
theorem x_if_gt (C : XC s0 D cI cL p s m meth c own cc nL ret tb) {x : Int} {off : Int} {tgt : Nat} (hd : decode cc pc = .ok (.ifCond .gt off, 3)) (ht : (pc : Int) + off = (tgt : Int)) (x1 : -2147483648 ≤ x) (x2 : x < 2147483648) (kt : 0 < x → XW s0 D p l e R s m args below meth c Q tgt lv st h K cells slots) (kf : x ≤ 0 → XW s0 D p l e R s m args below meth c Q (pc + 3) lv st h K cells slots) : XW s0 D p l e R s m args below meth c Q pc lv (.int (zI x) :: st) h K cells slots := by
  intro ls H locs P
  refine lv_if_gt C.1 C.2.1 hd ht (fun q => kt ?_ ls H locs P) (fun q => kf ?_ ls H locs P) <;> (rw [← zI_0, zI_lt (by omega) (by omega) x1 x2] at q; omega)
theorem x_icmp_gt (C : XC s0 D cI cL p s m meth c own cc nL ret tb) {x y : Int} {off : Int} {tgt : Nat} (hd : decode cc pc = .ok (.if_icmp .gt off, 3)) (ht : (pc : Int) + off = (tgt : Int)) (x1 : -2147483648 ≤ x) (x2 : x < 2147483648) (y1 : -2147483648 ≤ y) (y2 : y < 2147483648) (kt : y < x → XW s0 D p l e R s m args below meth c Q tgt lv st h K cells slots) (kf : x ≤ y → XW s0 D p l e R s m args below meth c Q (pc + 3) lv st h K cells slots) : XW s0 D p l e R s m args below meth c Q pc lv (.int (zI y) :: .int (zI x) :: st) h K cells slots := by
  intro ls H locs P
  refine lv_icmp_gt C.1 C.2.1 hd ht (fun q => kt ?_ ls H locs P) (fun q => kf ?_ ls H locs P) <;> (rw [zI_lt y1 y2 x1 x2] at q; omega)
theorem x_if_le (C : XC s0 D cI cL p s m meth c own cc nL ret tb) {x : Int} {off : Int} {tgt : Nat} (hd : decode cc pc = .ok (.ifCond .le off, 3)) (ht : (pc : Int) + off = (tgt : Int)) (x1 : -2147483648 ≤ x) (x2 : x < 2147483648) (kt : x ≤ 0 → XW s0 D p l e R s m args below meth c Q tgt lv st h K cells slots) (kf : 0 < x → XW s0 D p l e R s m args below meth c Q (pc + 3) lv st h K cells slots) : XW s0 D p l e R s m args below meth c Q pc lv (.int (zI x) :: st) h K cells slots := by
  intro ls H locs P
  refine lv_if_le C.1 C.2.1 hd ht (fun q => kt ?_ ls H locs P) (fun q => kf ?_ ls H locs P) <;> (rw [← zI_0, zI_le x1 x2 (by omega) (by omega)] at q; omega)
theorem x_icmp_le (C : XC s0 D cI cL p s m meth c own cc nL ret tb) {x y : Int} {off : Int} {tgt : Nat} (hd : decode cc pc = .ok (.if_icmp .le off, 3)) (ht : (pc : Int) + off = (tgt : Int)) (x1 : -2147483648 ≤ x) (x2 : x < 2147483648) (y1 : -2147483648 ≤ y) (y2 : y < 2147483648) (kt : x ≤ y → XW s0 D p l e R s m args below meth c Q tgt lv st h K cells slots) (kf : y < x → XW s0 D p l e R s m args below meth c Q (pc + 3) lv st h K cells slots) : XW s0 D p l e R s m args below meth c Q pc lv (.int (zI y) :: .int (zI x) :: st) h K cells slots := by
  intro ls H locs P
  refine lv_icmp_le C.1 C.2.1 hd ht (fun q => kt ?_ ls H locs P) (fun q => kf ?_ ls H locs P) <;> (rw [zI_le x1 x2 y1 y2] at q; omega)
theorem x_lcmp (C : XC s0 D cI cL p s m meth c own cc nL ret tb) {x y : Int} (hd : decode cc pc = .ok (.lcmp, 1)) (k : XW s0 D p l e R s m args below meth c Q (pc + 1) lv (.int (lg_cmp (zL x) (zL y)) :: st) h K cells slots) : XW s0 D p l e R s m args below meth c Q pc lv (.long (zL y) :: .long (zL x) :: st) h K cells slots :=
  fun ls H locs P => W.lcmp C.1 C.2.1 hd (k ls H locs P)
theorem x_lif_eq (C : XC s0 D cI cL p s m meth c own cc nL ret tb) {x y : Int} {off : Int} {tgt : Nat} (hd : decode cc pc = .ok (.ifCond .eq off, 3)) (ht : (pc : Int) + off = (tgt : Int)) (x1 : -9223372036854775808 ≤ x) (x2 : x < 9223372036854775808) (y1 : -9223372036854775808 ≤ y) (y2 : y < 9223372036854775808) (kt : x = y → XW s0 D p l e R s m args below meth c Q tgt lv st h K cells slots) (kf : x ≠ y → XW s0 D p l e R s m args below meth c Q (pc + 3) lv st h K cells slots) : XW s0 D p l e R s m args below meth c Q pc lv (.int (lg_cmp (zL x) (zL y)) :: st) h K cells slots := by
  intro ls H locs P
  refine lv_if_eq C.1 C.2.1 hd ht (fun q => kt ?_ ls H locs P) (fun q => kf ?_ ls H locs P) <;> (rw [lg_cmp_eq, zL_eq x1 x2 y1 y2] at q; omega)
theorem x_lif_ne (C : XC s0 D cI cL p s m meth c own cc nL ret tb) {x y : Int} {off : Int} {tgt : Nat} (hd : decode cc pc = .ok (.ifCond .ne off, 3)) (ht : (pc : Int) + off = (tgt : Int)) (x1 : -9223372036854775808 ≤ x) (x2 : x < 9223372036854775808) (y1 : -9223372036854775808 ≤ y) (y2 : y < 9223372036854775808) (kt : x ≠ y → XW s0 D p l e R s m args below meth c Q tgt lv st h K cells slots) (kf : x = y → XW s0 D p l e R s m args below meth c Q (pc + 3) lv st h K cells slots) : XW s0 D p l e R s m args below meth c Q pc lv (.int (lg_cmp (zL x) (zL y)) :: st) h K cells slots := by
  intro ls H locs P
  refine lv_if_ne C.1 C.2.1 hd ht (fun q => kt ?_ ls H locs P) (fun q => kf ?_ ls H locs P) <;> (rw [lg_cmp_eq, zL_eq x1 x2 y1 y2] at q; omega)
theorem x_lif_lt (C : XC s0 D cI cL p s m meth c own cc nL ret tb) {x y : Int} {off : Int} {tgt : Nat} (hd : decode cc pc = .ok (.ifCond .lt off, 3)) (ht : (pc : Int) + off = (tgt : Int)) (x1 : -9223372036854775808 ≤ x) (x2 : x < 9223372036854775808) (y1 : -9223372036854775808 ≤ y) (y2 : y < 9223372036854775808) (kt : x < y → XW s0 D p l e R s m args below meth c Q tgt lv st h K cells slots) (kf : y ≤ x → XW s0 D p l e R s m args below meth c Q (pc + 3) lv st h K cells slots) : XW s0 D p l e R s m args below meth c Q pc lv (.int (lg_cmp (zL x) (zL y)) :: st) h K cells slots := by
  intro ls H locs P
  refine lv_if_lt C.1 C.2.1 hd ht (fun q => kt ?_ ls H locs P) (fun q => kf ?_ ls H locs P) <;> (rw [lg_cmp_lt, zL_lt x1 x2 y1 y2] at q; omega)
theorem x_lif_ge (C : XC s0 D cI cL p s m meth c own cc nL ret tb) {x y : Int} {off : Int} {tgt : Nat} (hd : decode cc pc = .ok (.ifCond .ge off, 3)) (ht : (pc : Int) + off = (tgt : Int)) (x1 : -9223372036854775808 ≤ x) (x2 : x < 9223372036854775808) (y1 : -9223372036854775808 ≤ y) (y2 : y < 9223372036854775808) (kt : y ≤ x → XW s0 D p l e R s m args below meth c Q tgt lv st h K cells slots) (kf : x < y → XW s0 D p l e R s m args below meth c Q (pc + 3) lv st h K cells slots) : XW s0 D p l e R s m args below meth c Q pc lv (.int (lg_cmp (zL x) (zL y)) :: st) h K cells slots := by
  intro ls H locs P
  refine lv_if_ge C.1 C.2.1 hd ht (fun q => kt ?_ ls H locs P) (fun q => kf ?_ ls H locs P) <;> (rw [lg_cmp_ge, zL_le y1 y2 x1 x2] at q; omega)
theorem x_lif_gt (C : XC s0 D cI cL p s m meth c own cc nL ret tb) {x y : Int} {off : Int} {tgt : Nat} (hd : decode cc pc = .ok (.ifCond .gt off, 3)) (ht : (pc : Int) + off = (tgt : Int)) (x1 : -9223372036854775808 ≤ x) (x2 : x < 9223372036854775808) (y1 : -9223372036854775808 ≤ y) (y2 : y < 9223372036854775808) (kt : y < x → XW s0 D p l e R s m args below meth c Q tgt lv st h K cells slots) (kf : x ≤ y → XW s0 D p l e R s m args below meth c Q (pc + 3) lv st h K cells slots) : XW s0 D p l e R s m args below meth c Q pc lv (.int (lg_cmp (zL x) (zL y)) :: st) h K cells slots := by
  intro ls H locs P
  refine lv_if_gt C.1 C.2.1 hd ht (fun q => kt ?_ ls H locs P) (fun q => kf ?_ ls H locs P) <;> (rw [lg_cmp_gt, zL_lt y1 y2 x1 x2] at q; omega)
theorem x_lif_le (C : XC s0 D cI cL p s m meth c own cc nL ret tb) {x y : Int} {off : Int} {tgt : Nat} (hd : decode cc pc = .ok (.ifCond .le off, 3)) (ht : (pc : Int) + off = (tgt : Int)) (x1 : -9223372036854775808 ≤ x) (x2 : x < 9223372036854775808) (y1 : -9223372036854775808 ≤ y) (y2 : y < 9223372036854775808) (kt : x ≤ y → XW s0 D p l e R s m args below meth c Q tgt lv st h K cells slots) (kf : y < x → XW s0 D p l e R s m args below meth c Q (pc + 3) lv st h K cells slots) : XW s0 D p l e R s m args below meth c Q pc lv (.int (lg_cmp (zL x) (zL y)) :: st) h K cells slots := by
  intro ls H locs P
  refine lv_if_le C.1 C.2.1 hd ht (fun q => kt ?_ ls H locs P) (fun q => kf ?_ ls H locs P) <;> (rw [lg_cmp_le, zL_le x1 x2 y1 y2] at q; omega)
end Branch
end
section
/-! fields, rows, new cells -/
def a_cl (a0 : Array Value) (s0 : State) (ci : Nat) (Cn : String) (T : u_T) (N : Nat) (ty : Nat → FieldType) : Prop :=
  vwCl[ci]? = some (Cn, T, N) ∧ (∀ w ∈ u_ws Cn T N, w.before a0 s0 = true) ∧ (∀ k, k < N → parseFieldDescriptor (T k).2.2.1 = some (ty k)) ∧ (∀ a, a < N → ∀ b, b < N → a ≠ b → (T a).2.1 ≠ (T b).2.1)
theorem u_ws_good {Cn : String} {T : u_T} {N : Nat} (w : Cond) (hw : w ∈ u_ws Cn T N) : goodWord w = true := by
  obtain ⟨k, -, e⟩ := List.mem_map.mp hw
  subst e
  unfold u_lay
  split <;> rfl
theorem XP.put {s0 : State} {D : va_G} {nL : Nat} {lv : List (Nat × Value)} {h : AH} {K : Nat} {ls : Array Slot} {H H' : Heap} {locs : List Loc} (P : XP s0 D nL lv h K ls H locs) {a k0 : Nat} {x : va_E} (z : H'.size = H.size) (oq : ∀ q : Nat, q ≠ s0.heap.size + a → H'[q]? = H[q]?) (hx : va_at D vwCl (s0.heap.size + a, x) H') : XP s0 D nL lv (a_up h a x) K ls H' (locs ++ [⟨s0.heap.size + a, k0⟩]) := by
  refine ⟨P.1, by rw [z]; exact P.2.1, fun q hq => ?_, fun k y hy => ?_, fun q hq => ?_⟩
  · rw [oq q (by omega)]; exact P.2.2.1 q hq
  · by_cases e : k = a
    · subst e
      rw [a_up_s] at hy
      cases hy
      exact hx
    · rw [a_up_n e] at hy
      exact (P.2.2.2.1 k y hy).kept (oq _ (by show s0.heap.size + k ≠ _; omega))
  · rcases List.mem_append.mp hq with h1 | h1
    · exact P.2.2.2.2 q h1
    · rw [List.mem_singleton.mp h1]; exact Nat.le_add_right _ _
theorem XP.push {s0 : State} {D : va_G} {nL : Nat} {lv : List (Nat × Value)} {h : AH} {K : Nat} {ls : Array Slot} {H H' : Heap} {locs : List Loc} (P : XP s0 D nL lv h K ls H locs) {x : va_E} (z : H'.size = H.size + 1) (oq : ∀ q : Nat, q < H.size → H'[q]? = H[q]?) (hx : va_at D vwCl (s0.heap.size + K, x) H') : XP s0 D nL lv (a_up h K x) (K + 1) ls H' locs := by
  have hz := P.2.1
  refine ⟨P.1, by omega, fun q hq => ?_, fun k y hy => ?_, P.2.2.2.2⟩
  · rw [oq q (by omega)]; exact P.2.2.1 q hq
  · by_cases e : k = K
    · subst e
      rw [a_up_s] at hy
      cases hy
      exact hx
    · rw [a_up_n e] at hy
      have h1 := P.2.2.2.1 k y hy
      exact h1.kept (oq _ h1.lt)
section HeapRows
variable {a0 : Array Value} {s0 : State} {D : va_G} {cI cL : ClassId} {p : Program} {l : Launch} {e : Env} {R : Room} {s : State} {m : MethodId} {args : Array Value} {below : List Frame} {meth : Method} {c : Code} {Q : State → Prop} {tb : List ExceptionTableEntry}
variable {own : String} {cc : ByteArray} {nL : Nat} {ret : Option FieldType} {pc : Nat} {lv : List (Nat × Value)} {st : List Value} {h : AH} {K cells slots : Nat}
variable {ci : Nat} {Cn : String} {T : u_T} {N : Nat} {ty : Nat → FieldType} {a : Nat} {fs : List Value} {index : Nat}
theorem x_get (C : XC s0 D cI cL p s m meth c own cc nL ret tb) (G : a_cl a0 s0 ci Cn T N ty) (k : Nat) (hw : (Cond.fieldLink own index (T k).1 (T k).2.1 (T k).2.2.1).before a0 s0 = true) (hd : decode cc pc = .ok (.getfield index, 3)) (hk : k < N) (hh : h a = some (.inr (ci, fs))) {v : Value} (hv : fs[k]? = some v)
    (kk : XW s0 D p l e R s m args below meth c Q (pc + 3) lv (v :: st) h K cells slots) : XW s0 D p l e R s m args below meth c Q pc lv (.ref (s0.heap.size + a) :: st) h K cells slots := by
  intro ls H locs P
  have hP : va_P D vwCl [(s0.heap.size + a, .inr (ci, fs))] H := by
    intro j q hj
    cases j with
    | zero => cases hj; exact P.2.2.2.1 a _ hh
    | succ j => cases hj
  exact va_get C.1 C.2.1 (fun w hw => x_w C (u_ws_good w hw) (G.2.1 w hw)) (fun _ h => h) C.2.2.2.1 C.2.2.2.2.2.2.1 hP 0 rfl G.1 k hk (x_w C rfl hw) (fun _ h => h) hv hd (kk ls H locs P)
theorem x_getN (C : XC s0 D cI cL p s m meth c own cc nL ret tb) (G : a_cl a0 s0 ci Cn T N ty) (k : Nat) {host : String} (hw : (Cond.fieldLinkNest own index (T k).1 (T k).2.1 (T k).2.2.1 host).before a0 s0 = true) (hd : decode cc pc = .ok (.getfield index, 3)) (hk : k < N) (hh : h a = some (.inr (ci, fs))) {v : Value} (hv : fs[k]? = some v)
    (kk : XW s0 D p l e R s m args below meth c Q (pc + 3) lv (v :: st) h K cells slots) : XW s0 D p l e R s m args below meth c Q pc lv (.ref (s0.heap.size + a) :: st) h K cells slots := by
  intro ls H locs P
  have hP : va_P D vwCl [(s0.heap.size + a, .inr (ci, fs))] H := by
    intro j q hj
    cases j with
    | zero => cases hj; exact P.2.2.2.1 a _ hh
    | succ j => cases hj
  exact va_getN C.1 C.2.1 (fun w hw => x_w C (u_ws_good w hw) (G.2.1 w hw)) (fun _ h => h) C.2.2.2.1 C.2.2.2.2.2.2.1 hP 0 rfl G.1 k hk (va_Nw.use rfl (va_Nw.warmF C.2.2.2.2.1 (va_Nw.of rfl hw))) (fun _ h => h) hv hd (kk ls H locs P)
theorem x_put (C : XC s0 D cI cL p s m meth c own cc nL ret tb) (G : a_cl a0 s0 ci Cn T N ty) (k : Nat) (hw : (Cond.fieldLink own index (T k).1 (T k).2.1 (T k).2.2.1).before a0 s0 = true) (hd : decode cc pc = .ok (.putfield index, 3)) (hk : k < N) (hfin : (T k).2.2.2 = false) (hh : h a = some (.inr (ci, fs))) {v : Value} (hn : narrow (ty k) v = v) (hfit : fits (ty k) v = true) (hl : k < fs.length)
    (kk : XW s0 D p l e R s m args below meth c Q (pc + 3) lv st (a_up h a (.inr (ci, fs.set k v))) K cells slots) : XW s0 D p l e R s m args below meth c Q pc lv (v :: .ref (s0.heap.size + a) :: st) h K cells slots := by
  intro ls H locs P
  have hts : ∀ w ∈ u_ws Cn T N, w.before args s = true := fun w hw => x_w C (u_ws_good w hw) (G.2.1 w hw)
  have hin : ∀ w ∈ u_ws Cn T N, w ∈ u_ws Cn T N := fun _ h => h
  have hK := C.2.2.2.2.2.2.1
  have hap := va_apart (own := own) hts hin ty G.2.2.1 G.2.2.2 hK G.1
  obtain ⟨r, h1, cell, q1, q2, q3, q4⟩ := P.2.2.2.1 a _ hh
  have hr : r = (Cn, T, N) := Option.some.inj (h1.symm.trans G.1)
  subst hr
  obtain ⟨hS, hfc, kC, hkC, hkind⟩ := hK.1 ci _ G.1
  obtain ⟨cf, kf, fi, f, hi, hsl⟩ := hS k hk
  have hlay := hts _ (hin _ (u_in_lay hk))
  unfold u_lay at hlay
  rw [if_neg (by rw [hfin]; decide)] at hlay
  have hst := (u_facts hfc hkC (u_lays hts hin hk) hi).1
  have h6 := u_store hfc hkC hkind hlay hi (G.2.2.1 k hk) hn hfit
  refine W.putK C.1 C.2.1 (f := f) ⟨C.2.2.2.1, x_w C rfl hw, ⟨_, _, _, hi⟩, hst⟩ (by rw [q2]; exact h6) q1 q3 (by rw [hsl]; exact k2_hasslot (q4 k hk)) rfl rfl hd fun H' e1 e2 e3 => ?_
  rw [hsl] at e1 ⊢
  exact kk ls H' _ (P.put e2 e3 ⟨_, G.1, t_OB.to (V := updV (vp_V fs) k v) ⟨_, e1, q2, q3, t_set q4 hap hk v⟩ (fun j _ => vp_updV_set hl v j)⟩)
theorem x_putN (C : XC s0 D cI cL p s m meth c own cc nL ret tb) (G : a_cl a0 s0 ci Cn T N ty) (k : Nat) {host : String} (hw : (Cond.fieldLinkNest own index (T k).1 (T k).2.1 (T k).2.2.1 host).before a0 s0 = true) (hd : decode cc pc = .ok (.putfield index, 3)) (hk : k < N) (hfin : (T k).2.2.2 = false) (hh : h a = some (.inr (ci, fs))) {v : Value} (hn : narrow (ty k) v = v) (hfit : fits (ty k) v = true) (hl : k < fs.length)
    (kk : XW s0 D p l e R s m args below meth c Q (pc + 3) lv st (a_up h a (.inr (ci, fs.set k v))) K cells slots) : XW s0 D p l e R s m args below meth c Q pc lv (v :: .ref (s0.heap.size + a) :: st) h K cells slots := by
  intro ls H locs P
  have hts : ∀ w ∈ u_ws Cn T N, w.before args s = true := fun w hw => x_w C (u_ws_good w hw) (G.2.1 w hw)
  have hin : ∀ w ∈ u_ws Cn T N, w ∈ u_ws Cn T N := fun _ h => h
  have hK := C.2.2.2.2.2.2.1
  have hap := va_apart (own := own) hts hin ty G.2.2.1 G.2.2.2 hK G.1
  obtain ⟨r, h1, cell, q1, q2, q3, q4⟩ := P.2.2.2.1 a _ hh
  have hr : r = (Cn, T, N) := Option.some.inj (h1.symm.trans G.1)
  subst hr
  obtain ⟨hS, hfc, kC, hkC, hkind⟩ := hK.1 ci _ G.1
  obtain ⟨cf, kf, fi, f, hi, hsl⟩ := hS k hk
  have hlay := hts _ (hin _ (u_in_lay hk))
  unfold u_lay at hlay
  rw [if_neg (by rw [hfin]; decide)] at hlay
  have hst := (u_facts hfc hkC (u_lays hts hin hk) hi).1
  have h6 := u_store hfc hkC hkind hlay hi (G.2.2.1 k hk) hn hfit
  refine va_WputK C.1 C.2.1 (f := f) C.2.2.2.1 (va_Nw.use rfl (va_Nw.warmF C.2.2.2.2.1 (va_Nw.of rfl hw))) hi hst (by rw [q2]; exact h6) q1 q3 (by rw [hsl]; exact k2_hasslot (q4 k hk)) rfl rfl hd fun H' e1 e2 e3 => ?_
  rw [hsl] at e1 ⊢
  exact kk ls H' _ (P.put e2 e3 ⟨_, G.1, t_OB.to (V := updV (vp_V fs) k v) ⟨_, e1, q2, q3, t_set q4 hap hk v⟩ (fun j _ => vp_updV_set hl v j)⟩)
theorem x_putF (C : XC s0 D cI cL p s m meth c own cc nL ret tb) (hin2 : meth.name = "<init>") (G : a_cl a0 s0 ci Cn T N ty) (k : Nat) (hw : (Cond.fieldLink own index (T k).1 (T k).2.1 (T k).2.2.1).before a0 s0 = true) (hd : decode cc pc = .ok (.putfield index, 3)) (hk : k < N) (hfin : (T k).2.2.2 = true) (hdecl : (T k).1 = own) (hh : h a = some (.inr (ci, fs))) {v : Value} (hn : narrow (ty k) v = v) (hfit : fits (ty k) v = true) (hl : k < fs.length)
    (kk : XW s0 D p l e R s m args below meth c Q (pc + 3) lv st (a_up h a (.inr (ci, fs.set k v))) K cells slots) : XW s0 D p l e R s m args below meth c Q pc lv (v :: .ref (s0.heap.size + a) :: st) h K cells slots := by
  intro ls H locs P
  have hts : ∀ w ∈ u_ws Cn T N, w.before args s = true := fun w hw => x_w C (u_ws_good w hw) (G.2.1 w hw)
  have hin : ∀ w ∈ u_ws Cn T N, w ∈ u_ws Cn T N := fun _ h => h
  have hK := C.2.2.2.2.2.2.1
  have hap := va_apart (own := own) hts hin ty G.2.2.1 G.2.2.2 hK G.1
  obtain ⟨r, h1, cell, q1, q2, q3, q4⟩ := P.2.2.2.1 a _ hh
  have hr : r = (Cn, T, N) := Option.some.inj (h1.symm.trans G.1)
  subst hr
  obtain ⟨hS, hfc, kC, hkC, hkind⟩ := hK.1 ci _ G.1
  obtain ⟨cf, kf, fi, f, hi, hsl⟩ := hS k hk
  have hlay := hts _ (hin _ (u_in_lay hk))
  unfold u_lay at hlay
  rw [if_pos hfin] at hlay
  have hst := (u_facts hfc hkC (u_lays hts hin hk) hi).1
  have hcf : m.cls = cf := by
    obtain ⟨_, _, c', _, _, _, -, -, hf', -, -, -, hown2, -⟩ := Cond.laysFinal_spec hlay
    have e1 : c' = cf := by have := hi.symm.trans hf'; simp at this; exact this.1.symm
    rw [hdecl] at hown2
    rw [← e1]; exact Option.some.inj (C.2.2.2.1.symm.trans hown2)
  have h6 := u_fits hfc hkC hkind (Or.inr hlay) hi (G.2.2.1 k hk) hn hfit
  refine W.putFinK C.1 C.2.1 C.2.2.2.1 (x_w C rfl hw) hi hst hcf hin2 (by rw [q2]; exact h6) q1 q3 (by rw [hsl]; exact k2_hasslot (q4 k hk)) rfl rfl hd fun H' e1 e2 e3 => ?_
  rw [hsl] at e1 ⊢
  exact kk ls H' _ (P.put e2 e3 ⟨_, G.1, t_OB.to (V := updV (vp_V fs) k v) ⟨_, e1, q2, q3, t_set q4 hap hk v⟩ (fun j _ => vp_updV_set hl v j)⟩)
theorem x_iald (C : XC s0 D cI cL p s m meth c own cc nL ret tb) {n : Nat} {f : Int → Int} {i : Int} (hd : decode cc pc = .ok (.iaload, 1)) (hh : h a = some (iA cI n f)) (i1 : 0 ≤ i) (i2 : i < (n : Int)) (hn : (n : Int) < 2147483648)
    (kk : XW s0 D p l e R s m args below meth c Q (pc + 1) lv (.int (zI (f i)) :: st) h K cells slots) : XW s0 D p l e R s m args below meth c Q pc lv (.int (zI i) :: .ref (s0.heap.size + a) :: st) h K cells slots := by
  intro ls H locs P
  have hP : va_P D vwCl [(s0.heap.size + a, .inl (cI, n, .inl (fun j => zI (f (j : Int)))))] H := by
    intro j q hj
    cases j with
    | zero => cases hj; exact P.2.2.2.1 a _ hh
    | succ j => cases hj
  refine va_iald C.1 C.2.1 C.2.2.2.2.2.2.1 hP 0 0 rfl rfl (zI_in i1 i2 hn) hd ?_
  rw [zI_cl i1 (by omega), show ((i.toNat : Nat) : Int) = i by omega]
  exact kk ls H locs P
theorem x_lald (C : XC s0 D cI cL p s m meth c own cc nL ret tb) {n : Nat} {f : Int → Int} {i : Int} (hd : decode cc pc = .ok (.laload, 1)) (hh : h a = some (lA cL n f)) (i1 : 0 ≤ i) (i2 : i < (n : Int)) (hn : (n : Int) < 2147483648)
    (kk : XW s0 D p l e R s m args below meth c Q (pc + 1) lv (.long (zL (f i)) :: st) h K cells slots) : XW s0 D p l e R s m args below meth c Q pc lv (.int (zI i) :: .ref (s0.heap.size + a) :: st) h K cells slots := by
  intro ls H locs P
  have hP : va_P D vwCl [(s0.heap.size + a, .inl (cL, n, .inr (.inl (fun j => zL (f (j : Int))))))] H := by
    intro j q hj
    cases j with
    | zero => cases hj; exact P.2.2.2.1 a _ hh
    | succ j => cases hj
  refine va_lald C.1 C.2.1 C.2.2.2.2.2.2.1 hP 0 1 rfl rfl (zI_in i1 i2 hn) hd ?_
  rw [zI_cl i1 (by omega), show ((i.toNat : Nat) : Int) = i by omega]
  exact kk ls H locs P
theorem x_alen (C : XC s0 D cI cL p s m meth c own cc nL ret tb) {n : Nat} {f : Int → Int} (hd : decode cc pc = .ok (.arraylength, 1)) (hh : h a = some (iA cI n f))
    (kk : XW s0 D p l e R s m args below meth c Q (pc + 1) lv (.int (zI (n : Int)) :: st) h K cells slots) : XW s0 D p l e R s m args below meth c Q pc lv (.ref (s0.heap.size + a) :: st) h K cells slots := by
  intro ls H locs P
  have hP : va_P D vwCl [(s0.heap.size + a, .inl (cI, n, .inl (fun j => zI (f (j : Int)))))] H := by
    intro j q hj
    cases j with
    | zero => cases hj; exact P.2.2.2.1 a _ hh
    | succ j => cases hj
  exact va_alen C.1 C.2.1 C.2.2.2.2.2.2.1 hP 0 0 rfl rfl (Int32.ofInt_eq_ofNat (n := n)).symm hd (kk ls H locs P)
theorem x_iast (C : XC s0 D cI cL p s m meth c own cc nL ret tb) {n : Nat} {f : Int → Int} {i x : Int} (hd : decode cc pc = .ok (.iastore, 1)) (hh : h a = some (iA cI n f)) (i1 : 0 ≤ i) (i2 : i < (n : Int)) (hn : (n : Int) < 2147483648)
    (kk : XW s0 D p l e R s m args below meth c Q (pc + 1) lv st (a_up h a (iA cI n (zup f i x))) K cells slots) : XW s0 D p l e R s m args below meth c Q pc lv (.int (zI x) :: .int (zI i) :: .ref (s0.heap.size + a) :: st) h K cells slots := by
  intro ls H locs P
  have hc : H[s0.heap.size + a]? = some (vp_cell cI (n, .inl (fun j => zI (f (j : Int))))) := P.2.2.2.1 a _ hh
  refine W.iast C.1 C.2.1 hc ((C.2.2.2.2.2.2.1.2 0 _ rfl).1 n (fun j => .int (zI (f (j : Int))))) (fun q => by cases q) (by show ¬ (_ < 0 ∨ (arrV _ _ _).slots.size ≤ _); rw [arrV_size]; exact zI_in i1 i2 hn) rfl rfl hd fun H1 e1 z oq => ?_
  refine kk ls H1 _ (P.put z oq ?_)
  show H1[s0.heap.size + a]? = some (vp_cell cI (n, .inl (fun j => zI (zup f i x (j : Int)))))
  rw [e1, ← upd_z f x i1, zI_cl i1 (by omega)]
  rw [vp_cell_i, vp_cell_i, arrV_store]
  congr 2
  funext q
  by_cases hq : q = i.toNat
  · subst hq
    simp [updV, upd]
  · simp [updV, upd, hq]
theorem x_last (C : XC s0 D cI cL p s m meth c own cc nL ret tb) {n : Nat} {f : Int → Int} {i x : Int} (hd : decode cc pc = .ok (.lastore, 1)) (hh : h a = some (lA cL n f)) (i1 : 0 ≤ i) (i2 : i < (n : Int)) (hn : (n : Int) < 2147483648)
    (kk : XW s0 D p l e R s m args below meth c Q (pc + 1) lv st (a_up h a (lA cL n (zup f i x))) K cells slots) : XW s0 D p l e R s m args below meth c Q pc lv (.long (zL x) :: .int (zI i) :: .ref (s0.heap.size + a) :: st) h K cells slots := by
  intro ls H locs P
  have hc : H[s0.heap.size + a]? = some (vp_cell cL (n, .inr (.inl (fun j => zL (f (j : Int)))))) := P.2.2.2.1 a _ hh
  refine W.last C.1 C.2.1 hc ((C.2.2.2.2.2.2.1.2 1 _ rfl).1 n (fun j => .long (zL (f (j : Int))))) (fun q => by cases q) (by show ¬ (_ < 0 ∨ (arrV _ _ _).slots.size ≤ _); rw [arrV_size]; exact zI_in i1 i2 hn) rfl rfl hd fun H1 e1 z oq => ?_
  refine kk ls H1 _ (P.put z oq ?_)
  show H1[s0.heap.size + a]? = some (vp_cell cL (n, .inr (.inl (fun j => zL (zup f i x (j : Int))))))
  rw [e1, ← updL_z f x i1, zI_cl i1 (by omega)]
  rw [vp_cell_l, vp_cell_l, arrV_store]
  congr 2
  funext q
  by_cases hq : q = i.toNat
  · subst hq
    simp [updV, vp_updL]
  · simp [updV, vp_updL, hq]
theorem x_new (C : XC s0 D cI cL p s m meth c own cc nL ret tb) (G : a_cl a0 s0 ci Cn T N ty) (w1 : (Cond.classLink own index Cn).before a0 s0 = true) (w2 : (Cond.instantiable Cn N).before a0 s0 = true) (w3 : (Cond.initialized Cn).before a0 s0 = true) (hd : decode cc pc = .ok (.new index, 3)) (hfs : ∀ j, j < N → defaultValue (ty j) = vp_V fs j) (h1 : cells + 1 ≤ R.cells) (h2 : slots + N ≤ R.slots)
    (kk : XW s0 D p l e R s m args below meth c Q (pc + 3) lv (.ref (s0.heap.size + K) :: st) (a_up h K (.inr (ci, fs))) (K + 1) (cells + 1) (slots + N)) : XW s0 D p l e R s m args below meth c Q pc lv st h K cells slots := by
  intro ls H locs P
  have hts : ∀ w ∈ u_ws Cn T N, w.before args s = true := fun w hw => x_w C (u_ws_good w hw) (G.2.1 w hw)
  have hKn := C.2.2.2.2.2.2.1.1 ci _ G.1
  refine W.newcK C.1 C.2.1 C.2.2.2.1 (x_w C rfl w1) (x_w C rfl w2) (x_w C rfl w3) rfl hd h1 h2 hKn.2.1 P.2.1 fun H1 kC hkC e1 z1 o1 => ?_
  refine kk ls H1 locs (P.push (by rw [z1, P.2.1]) (fun q hq => o1 q (by rw [← P.2.1]; exact hq)) ?_)
  exact ⟨_, G.1, (u_born ty hts (fun _ h => h) hKn hkC e1 G.2.2.1).to hfs⟩
theorem x_newa (C : XC s0 D cI cL p s m meth c own cc nL ret tb) (w1 : (Cond.arrayClass .int).before a0 s0 = true) {n : Int} (N : Nat) (hd : decode cc pc = .ok (.newarray .int, 2)) (hn : n = (N : Int)) (hN : N < 100000) (h1 : cells + 1 ≤ R.cells) (h2 : slots + N ≤ R.slots)
    (kk : XW s0 D p l e R s m args below meth c Q (pc + 2) lv (.ref (s0.heap.size + K) :: st) (a_up h K (iA cI N (fun _ => 0))) (K + 1) (cells + 1) (slots + N)) : XW s0 D p l e R s m args below meth c Q pc lv (.int (zI n) :: st) h K cells slots := by
  subst hn
  intro ls H locs P
  have w1' : (Cond.arrayClass (newarray.typeOf .int)).before args s = true := x_w C rfl w1
  have hneg : ¬ zI (N : Int) < 0 := fun q => by
    rw [← zI_0, zI_lt (by omega) (by omega) (by omega) (by omega)] at q
    omega
  have hcl : (zI (N : Int)).toNatClampNeg = N := by
    rw [zI_cl (by omega) (by omega)]
    exact Int.toNat_natCast N
  have hby : N * componentBytes (newarray.typeOf .int) ≤ 536870912 := by
    have e4 : componentBytes (newarray.typeOf .int) = 4 := rfl
    rw [e4]
    omega
  refine va_newaK C.1 C.2.1 w1' rfl hd rfl hneg hcl hby h1 h2 P.2.1 fun H1 cA e1 z1 o1 hAr hNm => ?_
  have hcA : cA = cI := by
    have h5 := (C.2.2.2.2.2.2.1.2 0 _ rfl).2
    exact Option.some.inj (hNm.symm.trans h5)
  subst hcA
  refine kk ls H1 locs (P.push (by rw [z1, P.2.1]) (fun q hq => o1 q (by rw [← P.2.1]; exact hq)) ?_)
  show H1[s0.heap.size + K]? = some (vp_cell cA (N, .inl (fun j => zI 0)))
  rw [e1, vp_cell_i]
  simp only [zI_0]
  rfl
theorem x_newaL (C : XC s0 D cI cL p s m meth c own cc nL ret tb) (w1 : (Cond.arrayClass .long).before a0 s0 = true) {n : Int} (N : Nat) (hd : decode cc pc = .ok (.newarray .long, 2)) (hn : n = (N : Int)) (hN : N < 100000) (h1 : cells + 1 ≤ R.cells) (h2 : slots + N ≤ R.slots)
    (kk : XW s0 D p l e R s m args below meth c Q (pc + 2) lv (.ref (s0.heap.size + K) :: st) (a_up h K (lA cL N (fun _ => 0))) (K + 1) (cells + 1) (slots + N)) : XW s0 D p l e R s m args below meth c Q pc lv (.int (zI n) :: st) h K cells slots := by
  subst hn
  intro ls H locs P
  have w1' : (Cond.arrayClass (newarray.typeOf .long)).before args s = true := x_w C rfl w1
  have hneg : ¬ zI (N : Int) < 0 := fun q => by
    rw [← zI_0, zI_lt (by omega) (by omega) (by omega) (by omega)] at q
    omega
  have hcl : (zI (N : Int)).toNatClampNeg = N := by
    rw [zI_cl (by omega) (by omega)]
    exact Int.toNat_natCast N
  have hby : N * componentBytes (newarray.typeOf .long) ≤ 536870912 := by
    have e4 : componentBytes (newarray.typeOf .long) = 8 := rfl
    rw [e4]
    omega
  refine va_newaK C.1 C.2.1 w1' rfl hd rfl hneg hcl hby h1 h2 P.2.1 fun H1 cA e1 z1 o1 hAr hNm => ?_
  have hcA : cA = cL := by
    have h5 := (C.2.2.2.2.2.2.1.2 1 _ rfl).2
    exact Option.some.inj (hNm.symm.trans h5)
  subst hcA
  refine kk ls H1 locs (P.push (by rw [z1, P.2.1]) (fun q hq => o1 q (by rw [← P.2.1]; exact hq)) ?_)
  show H1[s0.heap.size + K]? = some (vp_cell cA (N, .inr (.inl (fun j => zL 0))))
  rw [e1, vp_cell_l]
  simp only [show zL 0 = 0 from rfl]
  rfl
theorem x_objInit (C : XC s0 D cI cL p s m meth c own cc nL ret tb) (w1 : (Cond.methodLink own index Lib.objectInit).before a0 s0 = true) (w2 : (Cond.instanceMethod Lib.objectInit).before a0 s0 = true) (w3 : (Cond.code Lib.objectInit ⟨#[0xb1]⟩ 1 none).before a0 s0 = true) (hd : decode cc pc = .ok (.invokespecial index, 3)) (h1 : 1 ≤ R.frames) (h2 : (st.map fun v => v.category).sum + 12 ≤ R.locals)
    (kk : XW s0 D p l e R s m args below meth c Q (pc + 3) lv st h K cells slots) : XW s0 D p l e R s m args below meth c Q pc lv (.ref a :: st) h K cells slots := by
  intro ls H locs P
  exact W.objInit C.1 C.2.1 C.2.2.2.1 (x_w C rfl w1) (x_w C rfl w2) (x_w C rfl w3) rfl P.1.1 rfl hd h1 (by show 2 * 0 + _ + 12 ≤ _; omega) (kk ls H locs P)
theorem x_max (C : XC s0 D cI cL p s m meth c own cc nL ret tb) (w1 : (Cond.methodLink own index Lib.Math.max.name).before a0 s0 = true) (w2 : (Cond.static Lib.Math.max.name).before a0 s0 = true) (w3 : (Cond.initialized "java/lang/Math").before a0 s0 = true) (w4 : (Cond.code Lib.Math.max.name Lib.Math.max.code 2 (some .int)).before a0 s0 = true) {x y : Int} (hd : decode cc pc = .ok (.invokestatic index, 3)) (h1 : 1 ≤ R.frames) (h2 : (st.map fun v => v.category).sum + 13 ≤ R.locals) (h3 : cells ≤ R.cells) (h4 : slots ≤ R.slots) (x1 : -2147483648 ≤ x) (x2 : x < 2147483648) (y1 : -2147483648 ≤ y) (y2 : y < 2147483648)
    (kk : XW s0 D p l e R s m args below meth c Q (pc + 3) lv (.int (zI (max x y)) :: st) h K cells slots) : XW s0 D p l e R s m args below meth c Q pc lv (.int (zI y) :: .int (zI x) :: st) h K cells slots := by
  intro ls H locs P
  refine va_mmax C.1 C.2.1 P.1.1.symm C.2.2.2.1 (x_w C rfl w1) (x_w C rfl w2) (x_w C rfl w3) (x_w C rfl w4) h1 h2 h3 h4 hd ?_
  have e1 : (if zI x < zI y then zI y else zI x) = zI (max x y) := by
    by_cases q : x < y
    · rw [if_pos ((zI_lt x1 x2 y1 y2).mpr q), show max x y = y by omega]
    · rw [if_neg (fun z => q ((zI_lt x1 x2 y1 y2).mp z)), show max x y = x by omega]
  rw [e1]
  exact kk ls H locs P
theorem x_min (C : XC s0 D cI cL p s m meth c own cc nL ret tb) (w1 : (Cond.methodLink own index Lib.Math.min.name).before a0 s0 = true) (w2 : (Cond.static Lib.Math.min.name).before a0 s0 = true) (w3 : (Cond.initialized "java/lang/Math").before a0 s0 = true) (w4 : (Cond.code Lib.Math.min.name Lib.Math.min.code 2 (some .int)).before a0 s0 = true) {x y : Int} (hd : decode cc pc = .ok (.invokestatic index, 3)) (h1 : 1 ≤ R.frames) (h2 : (st.map fun v => v.category).sum + 13 ≤ R.locals) (h3 : cells ≤ R.cells) (h4 : slots ≤ R.slots) (x1 : -2147483648 ≤ x) (x2 : x < 2147483648) (y1 : -2147483648 ≤ y) (y2 : y < 2147483648)
    (kk : XW s0 D p l e R s m args below meth c Q (pc + 3) lv (.int (zI (min x y)) :: st) h K cells slots) : XW s0 D p l e R s m args below meth c Q pc lv (.int (zI y) :: .int (zI x) :: st) h K cells slots := by
  intro ls H locs P
  refine va_mmin C.1 C.2.1 P.1.1.symm C.2.2.2.1 (x_w C rfl w1) (x_w C rfl w2) (x_w C rfl w3) (x_w C rfl w4) h1 h2 h3 h4 hd ?_
  have e1 : (if zI y < zI x then zI y else zI x) = zI (min x y) := by
    by_cases q : y < x
    · rw [if_pos ((zI_lt y1 y2 x1 x2).mpr q), show min x y = y by omega]
    · rw [if_neg (fun z => q ((zI_lt y1 y2 x1 x2).mp z)), show min x y = x by omega]
  rw [e1]
  exact kk ls H locs P
end HeapRows
end
section
/-! contracts over places: a method's start and end, returned or thrown; calls -/
abbrev AO : Type := Option Value ⊕ String
/-- the heap's cells from the start's size on are h (K of them), the others are the start's -/
def a_W (s0 : State) (D : va_G) (h : AH) (K : Nat) (U : State) : Prop :=
  s0.WarmedH U.vm ∧ U.heap.size = s0.heap.size + K ∧ (∀ q : Nat, q < s0.heap.size → U.heap[q]? = s0.heap[q]?) ∧ ∀ (k : Nat) (x : va_E), h k = some x → va_at D vwCl (s0.heap.size + k, x) U.heap
/-- the thrown object is one of the class Cn -/
def a_thr (Cn : String) (a : Nat) (t : State) : Prop := ∃ (cell : Cell) (k : Class), t.heap[a]? = some cell ∧ cell.vm = .none ∧ t.vm.findClass Cn = some cell.cls ∧ t.vm.classes[cell.cls]? = some k
def XO (s0 : State) (D : va_G) (mc ms : Nat) (Post : AO → AH → Nat → Prop) (s : State) (o : Outcome) (t : State) : Prop :=
  ∃ (h' : AH) (K' : Nat), a_W s0 D h' K' t ∧ (match o with | .returned v => Post (.inl v) h' K' | .threw a => ∃ Cn, Post (.inr Cn) h' K' ∧ a_thr Cn a t) ∧
    ∃ L : List Loc, s.WarmedH t.vm ∧ s.sameButNew ({ t with vm := s.vm } : State) L mc ms ∧ ∀ q ∈ L, s0.heap.size ≤ q.base
def XQ (s0 : State) (D : va_G) (mc ms : Nat) (Post : AO → AH → Nat → Prop) (below : List Frame) (s : State) : State → Prop := fun t => ∃ o, t.status = .running ∧ Ended t below o ∧ XO s0 D mc ms Post s o t
def a_rm (d mc ms : Nat) : Room := { frames := d, cells := mc, slots := ms, locals := 38 * d }
def XM (l : Launch) (s0 : State) (D : va_G) (y : MethodName) (cc : ByteArray) (nL : Nat) (ret : Option FieldType) (d mc ms : Nat) (av : List Value) (h : AH) (K : Nat) (Post : AO → AH → Nat → Prop) : Prop :=
  MetFree l y (headSpec [.code y cc nL ret] (a_rm d mc ms)) (fun a U => a = av.toArray ∧ a_W s0 D h K U) (fun _ _ _ _ _ => True) (fun _ st o t => XO s0 D mc ms Post st o t)
theorem W_mono {p : Program} {l : Launch} {e : Env} {R : Room} {s : State} {m : MethodId} {args : Array Value} {below : List Frame} {meth : Method} {c : Code} {H : Heap} {locs : List Loc} {cells slots : Nat} {Q Q' : State → Prop} {g : JFrame} (h : ∀ t, Q t → Q' t) (k : W p l e R s m args below meth c H locs cells slots Q g) : W p l e R s m args below meth c H locs cells slots Q' g := by
  intro T hT X
  obtain ⟨t, a, b⟩ := k T hT X
  exact ⟨t, a, h t b⟩
theorem x_notab {p : Program} {l : Launch} {y : MethodName} {cc : ByteArray} {nL : Nat} {ret : Option FieldType} {rm : Room} {e : Env} {s : State} {m : MethodId} {args : Array Value} {below : List Frame} {meth : Method} {c : Code} {s₁ : State} (B : BodyLoose p l y (headSpec [.code y cc nL ret] rm) cc nL ret e s m args below meth c s₁) : c.exceptionTable.toList = [] := by
  have h1 := B.noHandlers (atoms_spec (ws := [.code y cc nL ret]) B.pre _ List.mem_cons_self)
  have h2 : c.exceptionTable = #[] := Array.isEmpty_iff.mp h1
  rw [h2]
theorem XM.of {l : Launch} {s0 : State} {D : va_G} {cI cL : ClassId} {y : MethodName} {cc : ByteArray} {nL : Nat} {ret : Option FieldType} {d mc ms : Nat} {av : List Value} {h : AH} {K : Nat} {Post : AO → AH → Nat → Prop} {own : String}
    (hy : plainName y.cls = true) (ho : y.cls = own) (hK : va_K D vwCl [(cI, .int), (cL, .long)] s0) (hav : (lg_sl av).length ≤ nL)
    (body : ∀ (p : Program) (e : Env) (s : State) (m : MethodId) (below : List Frame) (meth : Method) (c : Code), XC s0 D cI cL p s m meth c own cc nL ret [] → meth.name = y.name → XW s0 D p l e (a_rm d mc ms) s m av.toArray below meth c (XQ s0 D mc ms Post below s) 0 (lv_args 0 av) [] h K 0 0) :
    XM l s0 D y cc nL ret d mc ms av h K Post := by
  refine MetFree.of_bodyS (code := cc) (maxLocals := nL) (ret := ret) hy ?_ ?_
  · intro args s m h hn
    obtain ⟨meth, c, h1, h2, h3, h4, h5, h6, -, -⟩ := Cond.code_spec hn (atoms_spec (ws := [.code y cc nL ret]) h _ List.mem_cons_self)
    exact ⟨meth, c, h1, h2, h3, h4, h5, h6⟩
  · intro p e s m args below meth c s₁ B hml hP _
    obtain ⟨ha, hw⟩ := hP
    subst ha
    have hh0 : s₁.heap = s.heap := by rw [B.state]; rfl
    have X := body p e s m below meth c ⟨B.exec, B.bytes, hml, by rw [← ho]; exact findClass_of_methodNamed B.named, hw.1, B.notSynchronized, va_K.moved hw.1.alike hK, B.returns, x_notab B⟩ (name_of_methodNamed B.named B.method).1
    have hl := lv_entry av (n := nL) hav
    have hw2 := X _ s.heap [] ⟨by rw [hml]; exact hl, hw.2.1, hw.2.2.1, hw.2.2.2, fun q hq => by cases hq⟩
    rw [lg_entry_eq]
    obtain ⟨t, a1, o, b1, b2, b3⟩ := hw2 s₁ hh0 (Stand.of_body B)
    exact ⟨t, o, a1, b1, b2, b3⟩
section Rets
variable {a0 : Array Value} {s0 : State} {D : va_G} {cI cL : ClassId} {p : Program} {l : Launch} {e : Env} {R : Room} {s : State} {m : MethodId} {args : Array Value} {below : List Frame} {meth : Method} {c : Code} {tb : List ExceptionTableEntry}
variable {own : String} {cc : ByteArray} {nL : Nat} {ret : Option FieldType} {pc : Nat} {lv : List (Nat × Value)} {h : AH} {K cells slots mc ms : Nat} {Post : AO → AH → Nat → Prop}
theorem x_end {v : Option Value} {H : Heap} {locs : List Loc} {ls : Array Slot} {g : JFrame} (P : XP s0 D c.maxLocals lv h K ls H locs) (hW : s0.WarmedH s.vm) (h1 : cells ≤ mc) (h2 : slots ≤ ms) (hp : Post (.inl v) h K)
    (k : W p l e R s m args below meth c H locs mc ms (MQ below (fun _ _ o t => o = .returned v ∧ t.heap = H ∧ s.WarmedH t.vm) args s mc ms (fun q => s0.heap.size ≤ q)) g) : W p l e R s m args below meth c H locs cells slots (XQ s0 D mc ms Post below s) g := by
  refine W.widen h1 h2 (W_mono ?_ k)
  rintro t ⟨o, r1, r2, ⟨rfl, r3, r4⟩, L, ⟨-, r5, r6⟩, r7⟩
  refine ⟨_, r1, r2, h, K, ⟨State.WarmedH.trans hW r4, by rw [r3]; exact P.2.1, fun q hq => by rw [r3]; exact P.2.2.1 q hq, fun k x hx => by rw [r3]; exact P.2.2.2.1 k x hx⟩, hp, L, r5, r6, r7⟩
theorem x_iret (C : XC s0 D cI cL p s m meth c own cc nL (some .int) tb) {v : Int32} (hd : decode cc pc = .ok (.ireturn, 1)) (h1 : cells ≤ mc) (h2 : slots ≤ ms) (hp : Post (.inl (some (.int v))) h K) : XW s0 D p l e R s m args below meth c (XQ s0 D mc ms Post below s) pc lv [.int v] h K cells slots :=
  fun _ _ _ P => x_end P C.2.2.2.2.1 h1 h2 hp (W.iret C.1 C.2.1 C.2.2.2.2.2.2.2.1 (fun _ ht hw => ⟨rfl, ht, hw⟩) P.2.2.2.2 hd (hlocks := C.2.2.2.2.2.1))
theorem x_zret (C : XC s0 D cI cL p s m meth c own cc nL (some .boolean) tb) {v : Int} (hd : decode cc pc = .ok (.ireturn, 1)) (hv : v = 0 ∨ v = 1) (h1 : cells ≤ mc) (h2 : slots ≤ ms) (hp : Post (.inl (some (.int (zI v)))) h K) : XW s0 D p l e R s m args below meth c (XQ s0 D mc ms Post below s) pc lv [.int (zI v)] h K cells slots :=
  fun _ _ _ P => x_end P C.2.2.2.2.1 h1 h2 hp (W.zret C.1 C.2.1 C.2.2.2.2.2.2.2.1 (by rcases hv with e | e <;> subst e <;> rfl) (fun _ ht hw => ⟨rfl, ht, hw⟩) P.2.2.2.2 hd (hlocks := C.2.2.2.2.2.1))
theorem x_lret (C : XC s0 D cI cL p s m meth c own cc nL (some .long) tb) {v : Int64} (hd : decode cc pc = .ok (.lreturn, 1)) (h1 : cells ≤ mc) (h2 : slots ≤ ms) (hp : Post (.inl (some (.long v))) h K) : XW s0 D p l e R s m args below meth c (XQ s0 D mc ms Post below s) pc lv [.long v] h K cells slots :=
  fun _ _ _ P => x_end P C.2.2.2.2.1 h1 h2 hp (W.lret C.1 C.2.1 C.2.2.2.2.2.2.2.1 (fun _ ht hw => ⟨rfl, ht, hw⟩) P.2.2.2.2 hd (hlocks := C.2.2.2.2.2.1))
theorem x_vret (C : XC s0 D cI cL p s m meth c own cc nL none tb) (hd : decode cc pc = .ok (.return_, 1)) (h1 : cells ≤ mc) (h2 : slots ≤ ms) (hp : Post (.inl none) h K) : XW s0 D p l e R s m args below meth c (XQ s0 D mc ms Post below s) pc lv [] h K cells slots :=
  fun _ _ _ P => x_end P C.2.2.2.2.1 h1 h2 hp (W.vret C.1 C.2.1 C.2.2.2.2.2.2.2.1 (fun _ ht hw => ⟨rfl, ht, hw⟩) P.2.2.2.2 hd (hlocks := C.2.2.2.2.2.1))
end Rets
/-- an instruction that invokes y -/
def XI (p : Program) (l : Launch) (e : Env) (R : Room) (s : State) (m : MethodId) (args : Array Value) (below : List Frame) (meth : Method) (c : Code) (H : Heap) (locs : List Loc) (cells slots : Nat) (y : MethodName) (g : JFrame) (rest : List Value) (a : Array Value) : Prop :=
  ∀ T : State, T.heap = H → Stand p l e R s m args below meth c T locs cells slots → ∃ (vm₁ : Vm) (mk : MethodId), s.WarmedH vm₁ ∧ Stand p l e R s m args below meth c (T.setVm vm₁) locs cells slots ∧ (T.setVm vm₁).methodNamed? y = some mk ∧
    ∀ target, Steps p.tables e below (doInvoke e ((T.setVm vm₁).setTop { g with stack := rest }) [] mk a).1 target → Steps p.tables e below (T.setTop g) target
section Inv
variable {p : Program} {l : Launch} {e : Env} {R : Room} {s : State} {m : MethodId} {args : Array Value} {below : List Frame} {meth : Method} {c : Code} {H : Heap} {locs : List Loc} {cells slots : Nat}
variable {own : String} {index : Nat} {y : MethodName} {bytes : ByteArray} {maxL : Nat} {ret : Option FieldType} {g : JFrame} {argsL rest : List Value}
theorem i_V {Cn : String} (hexec : p.tables.exec = Jvm.exec) (hown : s.vm.findClass own = some m.cls) (hlink : (Cond.methodLink own index y).before args s = true) (hinst : (Cond.instanceMethod y).before args s = true) (hsel : (Cond.selects Cn y y).before args s = true)
    (hcode : (Cond.code y bytes maxL ret).before args s = true) (hy : y.cls ≠ "java/lang/invoke/MethodHandle" ∧ y.cls ≠ "java/lang/invoke/VarHandle") {b : Addr} {cellB : Cell} (hcell : H[b]? = some cellB) (hobj : cellB.vm.isStatics = false) (hcls : s.vm.findClass Cn = some cellB.cls)
    (hg : g.method = m) (hlen : (parseMethodDescriptor y.desc).map (fun d => d.parameters.length) = some argsL.length) (hstack : g.stack = argsL.reverse ++ .ref b :: rest) (hdg : decode c.code g.pc = .ok (.invokevirtual index, 3)) :
    XI p l e R s m args below meth c H locs cells slots y g rest (Value.ref b :: argsL).toArray := by
  intro T hT X
  obtain ⟨mk, methM, hnamed, hmethM, hstM, habM⟩ := Cond.instanceMethod_spec hinst
  obtain ⟨methM', cM, hmethM', -, -, -, -, -, -, hsigM⟩ := Cond.code_spec hnamed hcode
  cases hmethM.symm.trans hmethM'
  obtain ⟨c2, r2, m2, q1, q2, q3, q4, kP, hkP, hkPi⟩ := Cond.selects_spec hsel
  cases hcls.symm.trans q1
  cases (State.methodFound?_of_named hnamed hy).symm.trans q2
  cases hnamed.symm.trans q3
  have hselP : selectMethod e.platform s.vm cellB.cls mk = .method mk := by rw [Launch.admits_selectMethod X.admits]; exact q4
  obtain ⟨vm₁, X₁, hstep₁⟩ := X.invokevirtual hexec hown hlink hnamed hmethM hstM hkP hkPi hy (a := b) (cell := cellB) (by rw [hT]; exact hcell)
    (fun z h => by rw [h] at hobj; cases hobj) hselP hmethM habM hkP hkPi (g := g) hg (argsL := argsL) (rest := rest) (by rw [hsigM] at hlen; exact (Option.some.inj hlen).symm) hstack hdg
  exact ⟨vm₁, mk, X₁.warmed, X₁, X₁.named hnamed, fun target h => hstep₁ _ fun acts => by rw [doInvoke_state]; exact h⟩
theorem i_VN {Cn host : String} (hexec : p.tables.exec = Jvm.exec) (hown : s.vm.findClass own = some m.cls) (hlink : (Cond.methodLinkNest own index y host).before args s = true) (hinst : (Cond.instanceMethod y).before args s = true) (hsel : (Cond.selects Cn y y).before args s = true)
    (hcode : (Cond.code y bytes maxL ret).before args s = true) (hy : y.cls ≠ "java/lang/invoke/MethodHandle" ∧ y.cls ≠ "java/lang/invoke/VarHandle") {b : Addr} {cellB : Cell} (hcell : H[b]? = some cellB) (hobj : cellB.vm.isStatics = false) (hcls : s.vm.findClass Cn = some cellB.cls)
    (hg : g.method = m) (hlen : (parseMethodDescriptor y.desc).map (fun d => d.parameters.length) = some argsL.length) (hstack : g.stack = argsL.reverse ++ .ref b :: rest) (hdg : decode c.code g.pc = .ok (.invokevirtual index, 3)) :
    XI p l e R s m args below meth c H locs cells slots y g rest (Value.ref b :: argsL).toArray := by
  intro T hT X
  obtain ⟨mk, methM, hnamed, hmethM, hstM, habM⟩ := Cond.instanceMethod_spec hinst
  obtain ⟨methM', cM, hmethM', -, -, -, -, -, -, hsigM⟩ := Cond.code_spec hnamed hcode
  cases hmethM.symm.trans hmethM'
  obtain ⟨c2, r2, m2, q1, q2, q3, q4, kP, hkP, hkPi⟩ := Cond.selects_spec hsel
  cases hcls.symm.trans q1
  cases (State.methodFound?_of_named hnamed hy).symm.trans q2
  cases hnamed.symm.trans q3
  have hselP : selectMethod e.platform s.vm cellB.cls mk = .method mk := by rw [Launch.admits_selectMethod X.admits]; exact q4
  obtain ⟨vm₁, X₁, hstep₁⟩ := X.invokevirtualNest hexec hown hlink hnamed hmethM hstM hkP hkPi hy (a := b) (cell := cellB) (by rw [hT]; exact hcell)
    (fun z h => by rw [h] at hobj; cases hobj) hselP hmethM habM hkP hkPi (g := g) hg (argsL := argsL) (rest := rest) (by rw [hsigM] at hlen; exact (Option.some.inj hlen).symm) hstack hdg
  exact ⟨vm₁, mk, X₁.warmed, X₁, X₁.named hnamed, fun target h => hstep₁ _ fun acts => by rw [doInvoke_state]; exact h⟩
theorem i_S (hexec : p.tables.exec = Jvm.exec) (hown : s.vm.findClass own = some m.cls) (hlink : (Cond.methodLink own index y).before args s = true) (hstat : (Cond.static y).before args s = true) (hinit : (Cond.initialized y.cls).before args s = true)
    (hcode : (Cond.code y bytes maxL ret).before args s = true) (hy : y.cls ≠ "java/lang/invoke/MethodHandle" ∧ y.cls ≠ "java/lang/invoke/VarHandle")
    (hg : g.method = m) (hlen : (parseMethodDescriptor y.desc).map (fun d => d.parameters.length) = some argsL.length) (hstack : g.stack = argsL.reverse ++ rest) (hdg : decode c.code g.pc = .ok (.invokestatic index, 3)) :
    XI p l e R s m args below meth c H locs cells slots y g rest argsL.toArray := by
  intro T hT X
  obtain ⟨mk, hnamed⟩ := Cond.code_named hcode
  obtain ⟨methM, cM, hmethM, -, -, -, -, -, -, hsigM⟩ := Cond.code_spec hnamed hcode
  have hstatic : methM.isStatic = true := Cond.static_spec hnamed hmethM hstat
  obtain ⟨kP, hkP, -⟩ := className_of_methodNamed hnamed
  have hinitP : kP.init = .initialized := Cond.initialized_spec (findClass_of_methodNamed hnamed) hkP hinit
  obtain ⟨vm₁, X₁, hstep₁⟩ := X.invokestatic hexec hown hlink hnamed hmethM hstatic hkP hinitP hy (g := g) hg (argsL := argsL) (rest := rest) (by rw [hsigM] at hlen; exact (Option.some.inj hlen).symm) hstack hdg
  exact ⟨vm₁, mk, X₁.warmed, X₁, X₁.named hnamed, fun target h => hstep₁ _ fun acts => by rw [doInvoke_state]; exact h⟩
theorem i_SN {host : String} (hexec : p.tables.exec = Jvm.exec) (hown : s.vm.findClass own = some m.cls) (hlink : (Cond.methodLinkNest own index y host).before args s = true) (hstat : (Cond.static y).before args s = true) (hinit : (Cond.initialized y.cls).before args s = true)
    (hcode : (Cond.code y bytes maxL ret).before args s = true) (hy : y.cls ≠ "java/lang/invoke/MethodHandle" ∧ y.cls ≠ "java/lang/invoke/VarHandle")
    (hg : g.method = m) (hlen : (parseMethodDescriptor y.desc).map (fun d => d.parameters.length) = some argsL.length) (hstack : g.stack = argsL.reverse ++ rest) (hdg : decode c.code g.pc = .ok (.invokestatic index, 3)) :
    XI p l e R s m args below meth c H locs cells slots y g rest argsL.toArray := by
  intro T hT X
  obtain ⟨mk, hnamed⟩ := Cond.code_named hcode
  obtain ⟨methM, cM, hmethM, -, -, -, -, -, -, hsigM⟩ := Cond.code_spec hnamed hcode
  have hstatic : methM.isStatic = true := Cond.static_spec hnamed hmethM hstat
  obtain ⟨kP, hkP, -⟩ := className_of_methodNamed hnamed
  have hinitP : kP.init = .initialized := Cond.initialized_spec (findClass_of_methodNamed hnamed) hkP hinit
  obtain ⟨vm₁, X₁, hstep₁⟩ := X.invokestaticNest hexec hown hlink hnamed hmethM hstatic hkP hinitP hy (g := g) hg (argsL := argsL) (rest := rest) (by rw [hsigM] at hlen; exact (Option.some.inj hlen).symm) hstack hdg
  exact ⟨vm₁, mk, X₁.warmed, X₁, X₁.named hnamed, fun target h => hstep₁ _ fun acts => by rw [doInvoke_state]; exact h⟩
theorem i_I (hexec : p.tables.exec = Jvm.exec) (hown : s.vm.findClass own = some m.cls) (hy1 : y.name = "<init>") (hlink : (Cond.methodLink own index y).before args s = true) (hinst : (Cond.instanceMethod y).before args s = true)
    (hcode : (Cond.code y bytes maxL none).before args s = true) (hy : y.cls ≠ "java/lang/invoke/MethodHandle" ∧ y.cls ≠ "java/lang/invoke/VarHandle") {a : Addr}
    (hg : g.method = m) (hlen : (parseMethodDescriptor y.desc).map (fun d => d.parameters.length) = some argsL.length) (hstack : g.stack = argsL.reverse ++ .ref a :: rest) (hdg : decode c.code g.pc = .ok (.invokespecial index, 3)) :
    XI p l e R s m args below meth c H locs cells slots y g rest (Value.ref a :: argsL).toArray := by
  intro T hT X
  subst hg
  have hpl : e.platform.magicAccessors = ({} : Platform).magicAccessors := by rw [X.admits.platform]
  obtain ⟨mk, methM, cM, kP, vm₁, hnamed, hmethM, hcodeM, -, hlocalsM, -, hkP, -, hW₁, hstep₁⟩ := Steps.initColdArgs (e := e) X.here hexec X.warmed hpl hown hy1 hy hlink hinst hcode (f := g) rfl (argsL := argsL) (fun sig h => by rw [h] at hlen; exact (Option.some.inj hlen).symm) hstack hdg
  have X₁ := X.noted hW₁
  exact ⟨vm₁, mk, X₁.warmed, X₁, X₁.named hnamed, fun target h => hstep₁ _ fun acts => by rw [doInvoke_state]; exact h⟩
theorem i_IN {host : String} (hexec : p.tables.exec = Jvm.exec) (hown : s.vm.findClass own = some m.cls) (hy1 : y.name = "<init>") (hlink : (Cond.methodLinkNest own index y host).before args s = true) (hinst : (Cond.instanceMethod y).before args s = true)
    (hcode : (Cond.code y bytes maxL none).before args s = true) (hy : y.cls ≠ "java/lang/invoke/MethodHandle" ∧ y.cls ≠ "java/lang/invoke/VarHandle") {a : Addr}
    (hg : g.method = m) (hlen : (parseMethodDescriptor y.desc).map (fun d => d.parameters.length) = some argsL.length) (hstack : g.stack = argsL.reverse ++ .ref a :: rest) (hdg : decode c.code g.pc = .ok (.invokespecial index, 3)) :
    XI p l e R s m args below meth c H locs cells slots y g rest (Value.ref a :: argsL).toArray := by
  intro T hT X
  subst hg
  have hpl : e.platform.magicAccessors = ({} : Platform).magicAccessors := by rw [X.admits.platform]
  obtain ⟨mk, methM, cM, kP, vm₁, hnamed, hmethM, hcodeM, -, hlocalsM, -, hkP, -, hW₁, hstep₁⟩ := Steps.initColdArgsNest (e := e) X.here hexec X.warmed hpl hown hy1 hy hlink hinst hcode (f := g) rfl (argsL := argsL) (fun sig h => by rw [h] at hlen; exact (Option.some.inj hlen).symm) hstack hdg
  have X₁ := X.noted hW₁
  exact ⟨vm₁, mk, X₁.warmed, X₁, X₁.named hnamed, fun target h => hstep₁ _ fun acts => by rw [doInvoke_state]; exact h⟩
end Inv
section Back2
variable {a0 : Array Value} {s0 : State} {D : va_G} {p : Program} {l : Launch} {e : Env} {R : Room} {s : State} {m : MethodId} {args : Array Value} {below : List Frame} {meth : Method} {c : Code} {T : State} {locs : List Loc} {cells slots : Nat}
variable {y : MethodName} {cc' : ByteArray} {nL' : Nat} {ret' : Option FieldType} {d mc ms : Nat} {av : List Value} {h : AH} {K : Nat} {Post : AO → AH → Nat → Prop}
/-- the callee comes back, or throws -/
theorem x_back (hM : XM l s0 D y cc' nL' ret' d mc ms av h K Post) (X : Stand p l e R s m args below meth c T locs cells slots) {g : JFrame} (hg : g.method = m) (hsize : g.locals.size = c.maxLocals) {ig : Instr} (hdg : decode c.code g.pc = .ok (ig, 3)) (hW : 2 * g.monitorRoom + (g.stack.map fun v => v.category).sum ≤ 8)
    {mk : MethodId} (hn : T.methodNamed? y = some mk) (hw : a_W s0 D h K T) (hcode : (Cond.code y cc' nL' ret').before av.toArray T = true) (hini : (Cond.initialized y.cls).before av.toArray T = true)
    (hfr : d + 1 ≤ R.frames) (hlo : 8 + (nL' + 11) + 38 * d ≤ R.locals) (hc : cells + mc ≤ R.cells) (hs : slots + ms ≤ R.slots) :
    ∃ (h' : AH) (K' : Nat) (T' : State) (L : List Loc), a_W s0 D h' K' T' ∧ Stand p l e R s m args below meth c T' (locs ++ L) (cells + mc) (slots + ms) ∧ (∀ q ∈ L, s0.heap.size ≤ q.base) ∧
      ((∃ v, Post (.inl v) h' K' ∧ Steps p.tables e below (doInvoke e (T.setTop g) [] mk av.toArray).1 (T'.setTop { g with pc := g.pc + 3, stack := v.toList ++ g.stack })) ∨
       (∃ Cn x, Post (.inr Cn) h' K' ∧ a_thr Cn x T' ∧ Steps p.tables e below (doInvoke e (T.setTop g) [] mk av.toArray).1 ((T'.setTop g).pushFrame (.throwing x)))) := by
  obtain ⟨methY, cY, hmY, hcY, -, hlY, -, -, -, -⟩ := Cond.code_spec hn hcode
  obtain ⟨kY, hkY, -⟩ := className_of_methodNamed hn
  have hinitY : kY.init = .initialized := Cond.initialized_spec (findClass_of_methodNamed hn) hkY hini
  have hA : At T g.method c below := by rw [hg]; exact X.here
  have happ : (headSpec [.code y cc' nL' ret'] (a_rm d mc ms)).appliesLoose y e.platform (T.calling g mk av.toArray) = true :=
    Spec.appliesLoose_calling (g := g) hA hdg hn hkY hinitY
      (X.room_calling (g := g) (R' := a_rm d mc ms) hsize hmY hcY (by show d + 1 ≤ _; exact hfr) (by rw [hlY]; show _ + 38 * d ≤ _; omega) hc hs) (atoms_intro (fun w hw => by rw [List.mem_singleton.mp hw]; exact hcode))
  obtain ⟨mid, hmid⟩ := hA.above
  have hfr2 : (T.setTop g).frames = (.java g :: mid) ++ below := by rw [State.frames_setTop' g hA.top, hmid]; rfl
  obtain ⟨o, s₂, hsteps, hrun, hend, hq⟩ := Steps.callFree hM p X.admits X.cas X.clock (acts := []) hfr2 happ ⟨rfl, hw.1, hw.2.1, hw.2.2.1, hw.2.2.2⟩ trivial
  have hq' : XO s0 D mc ms Post (T.calling g mk av.toArray) o s₂ := hq
  rw [State.frames_setTop' g hA.top] at hend
  obtain ⟨h', K', hw', hpo, L, hW₂, hsame, hL⟩ := hq'
  cases o with
  | threw x =>
    have htl : T.frames.tail = below := X.tail
    rw [htl] at hend
    obtain ⟨T', X', r1, r2, r3⟩ := X.outOfThrown hg hend hW₂ hsame
    obtain ⟨Cn, hp1, hp2⟩ := hpo
    subst r3
    have eh : ((T'.setTop g).pushFrame (.throwing x)).heap = T'.heap := Stand.throwing_heap T' g x
    have ev : ((T'.setTop g).pushFrame (.throwing x)).vm = T'.vm := Stand.throwing_vm T' g x
    refine ⟨h', K', T', L, ?_, X', hL, Or.inr ⟨Cn, x, hp1, ?_, hsteps⟩⟩
    · unfold a_W at hw' ⊢
      rw [eh, ev] at hw'
      exact hw'
    · unfold a_thr at hp2 ⊢
      rw [eh, ev] at hp2
      exact hp2
  | returned v =>
    obtain ⟨e2, q2, q3, q4, q5, q6⟩ := hsame
    have e3 : s₂ = ({ (T.calling g mk av.toArray).setFrames s₂.frames with heap := s₂.heap, slotsUsed := s₂.slotsUsed } : State).setVm s₂.vm := by
      have : s₂ = ({ s₂ with vm := (T.calling g mk av.toArray).vm } : State).setVm s₂.vm := rfl
      rw [e2] at this
      exact this
    obtain ⟨c₂, i₂, len₂, hc₂, hd₂, hf₂⟩ := hend
    have hW' : T.WarmedH s₂.vm := hW₂
    have hcc : c₂ = c := by
      have h1 : s₂.code? g.method = T.code? g.method := by
        rw [State.code?_eq, State.code?_eq, hW'.alike.method?]
      exact Option.some.inj (hc₂.symm.trans (h1.trans hA.code))
    subst hcc
    have hlen : len₂ = 3 := by rw [hdg] at hd₂; cases hd₂; rfl
    subst hlen
    obtain ⟨g₀, hg0⟩ := Option.isSome_iff_exists.mp hA.top
    obtain ⟨r, hr⟩ := State.topJava?_eq_some.mp hg0
    have hs₂ : s₂ = (({ T with heap := s₂.heap, slotsUsed := s₂.slotsUsed } : State).setVm s₂.vm).setTop { g with pc := g.pc + 3, stack := v.toList ++ g.stack } := by
      have hr' : (({ T with heap := s₂.heap, slotsUsed := s₂.slotsUsed } : State).setVm s₂.vm).frames = .java g₀ :: r := hr
      refine e3.trans ?_
      rw [hf₂, State.calling_eq hA.top, State.setFrames_setFrames, State.setTop_of_frames _ hr', hr]
      rfl
    have hsame2 : T.sameButNew ({ T with heap := s₂.heap, slotsUsed := s₂.slotsUsed } : State) L mc ms := by
      refine ⟨?_, q2, q3, q4, q5, q6⟩
      obtain ⟨t, ht, -⟩ := State.frames_cons hr
      show ({ T with heap := s₂.heap, slotsUsed := s₂.slotsUsed } : State) = { T.setFrames T.frames with heap := s₂.heap, slotsUsed := s₂.slotsUsed }
      rw [State.setFrames_self ht]
    subst hg
    refine ⟨h', K', (({ T with heap := s₂.heap, slotsUsed := s₂.slotsUsed } : State).setVm s₂.vm), L, hw',
      ⟨X.admits, X.cas, X.clock, X.frames, X.room, X.hears, X.method, X.code, (X.here.setHeapUsed s₂.heap s₂.slotsUsed).setVm hW'.alike, X.tail, State.WarmedH.trans X.warmed hW', X.limits, X.bytes, X.same.trans (hsame2.setVm s.vm)⟩, hL, Or.inl ⟨v, hpo, ?_⟩⟩
    rw [← hs₂]
    exact hsteps
end Back2
end
section
/-! calls in the walk -/
abbrev PR (v : Option Value) (h1 : AH) (K1 : Nat) : AO → AH → Nat → Prop := fun o h' K' => o = .inl v ∧ h' = h1 ∧ K' = K1
section CallRows
variable {a0 : Array Value} {s0 : State} {D : va_G} {cI cL : ClassId} {p : Program} {l : Launch} {e : Env} {R : Room} {s : State} {m : MethodId} {args : Array Value} {below : List Frame} {meth : Method} {c : Code} {Q : State → Prop} {tb : List ExceptionTableEntry}
variable {own : String} {cc : ByteArray} {nL : Nat} {ret : Option FieldType} {pc : Nat} {lv : List (Nat × Value)} {st rest : List Value} {h : AH} {K cells slots : Nat}
variable {y : MethodName} {cc' : ByteArray} {nL' : Nat} {ret' : Option FieldType} {d mc ms : Nat} {av : List Value} {Post : AO → AH → Nat → Prop}
theorem x_go (C : XC s0 D cI cL p s m meth c own cc nL ret tb) (hI : ∀ (ls : Array Slot) (H : Heap) (locs : List Loc), XP s0 D c.maxLocals lv h K ls H locs → XI p l e R s m args below meth c H locs cells slots y (F0 m pc ls st) rest av.toArray) {ig : Instr} (hd : decode cc pc = .ok (ig, 3)) (hM : XM l s0 D y cc' nL' ret' d mc ms av h K Post) (wc : (Cond.code y cc' nL' ret').before a0 s0 = true) (wi : (Cond.initialized y.cls).before a0 s0 = true) (hr : (rest.map fun v => v.category).sum ≤ 8) (hf : d + 1 ≤ R.frames) (hl : 8 + (nL' + 11) + 38 * d ≤ R.locals) (hc : cells + mc ≤ R.cells) (hs : slots + ms ≤ R.slots)
    (kk : ∀ (v : Option Value) (h' : AH) (K' : Nat), Post (.inl v) h' K' → XW s0 D p l e R s m args below meth c Q (pc + 3) lv (v.toList ++ rest) h' K' (cells + mc) (slots + ms))
    (kt : ∀ (Cn : String) (h' : AH) (K' : Nat), Post (.inr Cn) h' K' → ∀ (ls : Array Slot) (locs : List Loc) (x : Nat) (T' : State), ls.size = c.maxLocals → a_W s0 D h' K' T' → a_thr Cn x T' → Stand p l e R s m args below meth c T' locs (cells + mc) (slots + ms) → lv_has ls c.maxLocals lv → (∀ q ∈ locs, s0.heap.size ≤ q.base) → ∃ t, Steps p.tables e below ((T'.setTop (F0 m pc ls rest)).pushFrame (.throwing x)) t ∧ Q t) : XW s0 D p l e R s m args below meth c Q pc lv st h K cells slots := by
  intro ls H locs P T hT X
  obtain ⟨vm₁, mk, hW₁, X₁, hn, hst⟩ := hI ls H locs P T hT X
  have hwarm : s0.WarmedH vm₁ := State.WarmedH.trans C.2.2.2.2.1 hW₁
  have hw : a_W s0 D h K (T.setVm vm₁) := ⟨hwarm, by show T.heap.size = _; rw [hT]; exact P.2.1, fun q hq => by show T.heap[q]? = _; rw [hT]; exact P.2.2.1 q hq, fun k x hx => by show va_at D vwCl _ T.heap; rw [hT]; exact P.2.2.2.1 k x hx⟩
  obtain ⟨h', K', T', L, w', X', hL, r⟩ := x_back hM X₁ (g := F0 m pc ls rest) rfl P.1.1 (by rw [C.2.1]; exact hd) (by show 2 * 0 + (rest.map fun v => v.category).sum ≤ 8; omega) hn hw (word_at (U := T.setVm vm₁) hwarm (good_of_word rfl) wc) (word_at (U := T.setVm vm₁) hwarm (good_of_word rfl) wi) hf hl hc hs
  have hL2 : ∀ q ∈ locs ++ L, s0.heap.size ≤ q.base := fun q hq => by
    rcases List.mem_append.mp hq with h1 | h1
    · exact P.2.2.2.2 q h1
    · exact hL q h1
  rcases r with ⟨v, hp, hs2⟩ | ⟨Cn, x, hp, hthr, hs2⟩
  · obtain ⟨t, a1, b1⟩ := kk v h' K' hp ls T'.heap (locs ++ L) ⟨P.1, w'.2.1, w'.2.2.1, w'.2.2.2, hL2⟩ T' rfl X'
    exact ⟨t, hst t (hs2.trans a1), b1⟩
  · obtain ⟨t, a1, b1⟩ := kt Cn h' K' hp ls (locs ++ L) x T' P.1.1 w' hthr X' P.1 hL2
    exact ⟨t, hst t (hs2.trans a1), b1⟩
theorem x_goR {v : Option Value} {h1 : AH} {K1 : Nat} (C : XC s0 D cI cL p s m meth c own cc nL ret tb) (hI : ∀ (ls : Array Slot) (H : Heap) (locs : List Loc), XP s0 D c.maxLocals lv h K ls H locs → XI p l e R s m args below meth c H locs cells slots y (F0 m pc ls st) rest av.toArray) {ig : Instr} (hd : decode cc pc = .ok (ig, 3)) (hM : XM l s0 D y cc' nL' ret' d mc ms av h K (PR v h1 K1)) (wc : (Cond.code y cc' nL' ret').before a0 s0 = true) (wi : (Cond.initialized y.cls).before a0 s0 = true) (hr : (rest.map fun v => v.category).sum ≤ 8) (hf : d + 1 ≤ R.frames) (hl : 8 + (nL' + 11) + 38 * d ≤ R.locals) (hc : cells + mc ≤ R.cells) (hs : slots + ms ≤ R.slots)
    (kk : XW s0 D p l e R s m args below meth c Q (pc + 3) lv (v.toList ++ rest) h1 K1 (cells + mc) (slots + ms)) : XW s0 D p l e R s m args below meth c Q pc lv st h K cells slots := by
  refine x_go C hI hd hM wc wi hr hf hl hc hs (fun v' h' K' q => ?_) (fun Cn h' K' q => ?_)
  · obtain ⟨q1, q2, q3⟩ := q
    cases q1
    subst q2
    subst q3
    exact kk
  · obtain ⟨q1, -⟩ := q
    cases q1
theorem x_goT {mc' ms' : Nat} {Post' : AO → AH → Nat → Prop} (C : XC s0 D cI cL p s m meth c own cc nL ret []) (hI : ∀ (ls : Array Slot) (H : Heap) (locs : List Loc), XP s0 D c.maxLocals lv h K ls H locs → XI p l e R s m args below meth c H locs cells slots y (F0 m pc ls st) rest av.toArray) {ig : Instr} (hd : decode cc pc = .ok (ig, 3)) (hM : XM l s0 D y cc' nL' ret' d mc ms av h K Post) (wc : (Cond.code y cc' nL' ret').before a0 s0 = true) (wi : (Cond.initialized y.cls).before a0 s0 = true) (hr : (rest.map fun v => v.category).sum ≤ 8) (hf : d + 1 ≤ R.frames) (hl : 8 + (nL' + 11) + 38 * d ≤ R.locals) (hc : cells + mc ≤ R.cells) (hs : slots + ms ≤ R.slots) (hc2 : cells + mc ≤ mc') (hs2 : slots + ms ≤ ms')
    (kk : ∀ (v : Option Value) (h' : AH) (K' : Nat), Post (.inl v) h' K' → XW s0 D p l e R s m args below meth c (XQ s0 D mc' ms' Post' below s) (pc + 3) lv (v.toList ++ rest) h' K' (cells + mc) (slots + ms))
    (kt : ∀ (Cn : String) (h' : AH) (K' : Nat), Post (.inr Cn) h' K' → Post' (.inr Cn) h' K') : XW s0 D p l e R s m args below meth c (XQ s0 D mc' ms' Post' below s) pc lv st h K cells slots := by
  refine x_go C hI hd hM wc wi hr hf hl hc hs kk (fun Cn h' K' q ls locs x T' hz w' ht X' hlv hL => ?_)
  obtain ⟨q1, q2, q3, q4, q5⟩ := (stand_widen X' hc2 hs2).leaveThrown x (g := F0 m pc ls rest) rfl rfl rfl (fun z hz => by rw [C.2.2.2.2.2.2.2.2] at hz; cases hz) (hlocks := C.2.2.2.2.2.1)
  exact ⟨_, q1, .threw x, q2, q3, h', K', w', ⟨Cn, kt Cn h' K' q, ht⟩, locs, q4, q5, hL⟩
variable {ci : Nat} {T : u_T} {N : Nat} {ty : Nat → FieldType} {a : Nat} {fs argsL : List Value} {index : Nat}
theorem x_callVR {v : Option Value} {h1 : AH} {K1 : Nat} (C : XC s0 D cI cL p s m meth c own cc nL ret tb) (G : a_cl a0 s0 ci y.cls T N ty) (w1 : (Cond.methodLink own index y).before a0 s0 = true) (w2 : (Cond.instanceMethod y).before a0 s0 = true) (w3 : (Cond.selects y.cls y y).before a0 s0 = true) (wc : (Cond.code y cc' nL' ret').before a0 s0 = true) (wi : (Cond.initialized y.cls).before a0 s0 = true) (hd : decode cc pc = .ok (.invokevirtual index, 3)) (hM : XM l s0 D y cc' nL' ret' d mc ms (.ref (s0.heap.size + a) :: argsL) h K (PR v h1 K1)) (hy : y.cls ≠ "java/lang/invoke/MethodHandle" ∧ y.cls ≠ "java/lang/invoke/VarHandle") (hlen : (parseMethodDescriptor y.desc).map (fun d => d.parameters.length) = some argsL.length) (hst : st = argsL.reverse ++ .ref (s0.heap.size + a) :: rest) (hh : h a = some (.inr (ci, fs))) (hr : (rest.map fun v => v.category).sum ≤ 8) (hf : d + 1 ≤ R.frames) (hl : 8 + (nL' + 11) + 38 * d ≤ R.locals) (hc : cells + mc ≤ R.cells) (hs : slots + ms ≤ R.slots) (kk : XW s0 D p l e R s m args below meth c Q (pc + 3) lv (v.toList ++ rest) h1 K1 (cells + mc) (slots + ms)) : XW s0 D p l e R s m args below meth c Q pc lv st h K cells slots := by
  refine x_goR C (fun ls H locs P => ?_) hd hM wc wi hr hf hl hc hs kk
  have hP : va_P D vwCl [(s0.heap.size + a, .inr (ci, fs))] H := by
    intro j q hj
    cases j with
    | zero => cases hj; exact P.2.2.2.1 a _ hh
    | succ j => cases hj
  obtain ⟨cell, g1, g2, g3⟩ := va_recv C.2.2.2.2.2.2.1 hP G.1 (q0 := 0) rfl
  exact i_V C.1 C.2.2.2.1 (x_w C rfl w1) (x_w C rfl w2) (x_w C rfl w3) (x_w C rfl wc) hy g1 g2 g3 rfl hlen hst (by rw [C.2.1]; exact hd)
theorem x_callVT {mc' ms' : Nat} {Post' : AO → AH → Nat → Prop} (C : XC s0 D cI cL p s m meth c own cc nL ret []) (G : a_cl a0 s0 ci y.cls T N ty) (w1 : (Cond.methodLink own index y).before a0 s0 = true) (w2 : (Cond.instanceMethod y).before a0 s0 = true) (w3 : (Cond.selects y.cls y y).before a0 s0 = true) (wc : (Cond.code y cc' nL' ret').before a0 s0 = true) (wi : (Cond.initialized y.cls).before a0 s0 = true) (hd : decode cc pc = .ok (.invokevirtual index, 3)) (hM : XM l s0 D y cc' nL' ret' d mc ms (.ref (s0.heap.size + a) :: argsL) h K Post) (hy : y.cls ≠ "java/lang/invoke/MethodHandle" ∧ y.cls ≠ "java/lang/invoke/VarHandle") (hlen : (parseMethodDescriptor y.desc).map (fun d => d.parameters.length) = some argsL.length) (hst : st = argsL.reverse ++ .ref (s0.heap.size + a) :: rest) (hh : h a = some (.inr (ci, fs))) (hr : (rest.map fun v => v.category).sum ≤ 8) (hf : d + 1 ≤ R.frames) (hl : 8 + (nL' + 11) + 38 * d ≤ R.locals) (hc : cells + mc ≤ R.cells) (hs : slots + ms ≤ R.slots) (hc2 : cells + mc ≤ mc') (hs2 : slots + ms ≤ ms') (kk : ∀ (v : Option Value) (h' : AH) (K' : Nat), Post (.inl v) h' K' → XW s0 D p l e R s m args below meth c (XQ s0 D mc' ms' Post' below s) (pc + 3) lv (v.toList ++ rest) h' K' (cells + mc) (slots + ms)) (kt : ∀ (Cn : String) (h' : AH) (K' : Nat), Post (.inr Cn) h' K' → Post' (.inr Cn) h' K') : XW s0 D p l e R s m args below meth c (XQ s0 D mc' ms' Post' below s) pc lv st h K cells slots := by
  refine x_goT C (fun ls H locs P => ?_) hd hM wc wi hr hf hl hc hs hc2 hs2 kk kt
  have hP : va_P D vwCl [(s0.heap.size + a, .inr (ci, fs))] H := by
    intro j q hj
    cases j with
    | zero => cases hj; exact P.2.2.2.1 a _ hh
    | succ j => cases hj
  obtain ⟨cell, g1, g2, g3⟩ := va_recv C.2.2.2.2.2.2.1 hP G.1 (q0 := 0) rfl
  exact i_V C.1 C.2.2.2.1 (x_w C rfl w1) (x_w C rfl w2) (x_w C rfl w3) (x_w C rfl wc) hy g1 g2 g3 rfl hlen hst (by rw [C.2.1]; exact hd)
theorem x_callVNR {v : Option Value} {h1 : AH} {K1 : Nat} (C : XC s0 D cI cL p s m meth c own cc nL ret tb) (G : a_cl a0 s0 ci y.cls T N ty) {host : String} (w1 : (Cond.methodLinkNest own index y host).before a0 s0 = true) (w2 : (Cond.instanceMethod y).before a0 s0 = true) (w3 : (Cond.selects y.cls y y).before a0 s0 = true) (wc : (Cond.code y cc' nL' ret').before a0 s0 = true) (wi : (Cond.initialized y.cls).before a0 s0 = true) (hd : decode cc pc = .ok (.invokevirtual index, 3)) (hM : XM l s0 D y cc' nL' ret' d mc ms (.ref (s0.heap.size + a) :: argsL) h K (PR v h1 K1)) (hy : y.cls ≠ "java/lang/invoke/MethodHandle" ∧ y.cls ≠ "java/lang/invoke/VarHandle") (hlen : (parseMethodDescriptor y.desc).map (fun d => d.parameters.length) = some argsL.length) (hst : st = argsL.reverse ++ .ref (s0.heap.size + a) :: rest) (hh : h a = some (.inr (ci, fs))) (hr : (rest.map fun v => v.category).sum ≤ 8) (hf : d + 1 ≤ R.frames) (hl : 8 + (nL' + 11) + 38 * d ≤ R.locals) (hc : cells + mc ≤ R.cells) (hs : slots + ms ≤ R.slots) (kk : XW s0 D p l e R s m args below meth c Q (pc + 3) lv (v.toList ++ rest) h1 K1 (cells + mc) (slots + ms)) : XW s0 D p l e R s m args below meth c Q pc lv st h K cells slots := by
  refine x_goR C (fun ls H locs P => ?_) hd hM wc wi hr hf hl hc hs kk
  have hP : va_P D vwCl [(s0.heap.size + a, .inr (ci, fs))] H := by
    intro j q hj
    cases j with
    | zero => cases hj; exact P.2.2.2.1 a _ hh
    | succ j => cases hj
  obtain ⟨cell, g1, g2, g3⟩ := va_recv C.2.2.2.2.2.2.1 hP G.1 (q0 := 0) rfl
  exact i_VN C.1 C.2.2.2.1 (va_Nw.use rfl (va_Nw.warmM C.2.2.2.2.1 (va_Nw.of rfl w1))) (x_w C rfl w2) (x_w C rfl w3) (x_w C rfl wc) hy g1 g2 g3 rfl hlen hst (by rw [C.2.1]; exact hd)
theorem x_callVNT {mc' ms' : Nat} {Post' : AO → AH → Nat → Prop} (C : XC s0 D cI cL p s m meth c own cc nL ret []) (G : a_cl a0 s0 ci y.cls T N ty) {host : String} (w1 : (Cond.methodLinkNest own index y host).before a0 s0 = true) (w2 : (Cond.instanceMethod y).before a0 s0 = true) (w3 : (Cond.selects y.cls y y).before a0 s0 = true) (wc : (Cond.code y cc' nL' ret').before a0 s0 = true) (wi : (Cond.initialized y.cls).before a0 s0 = true) (hd : decode cc pc = .ok (.invokevirtual index, 3)) (hM : XM l s0 D y cc' nL' ret' d mc ms (.ref (s0.heap.size + a) :: argsL) h K Post) (hy : y.cls ≠ "java/lang/invoke/MethodHandle" ∧ y.cls ≠ "java/lang/invoke/VarHandle") (hlen : (parseMethodDescriptor y.desc).map (fun d => d.parameters.length) = some argsL.length) (hst : st = argsL.reverse ++ .ref (s0.heap.size + a) :: rest) (hh : h a = some (.inr (ci, fs))) (hr : (rest.map fun v => v.category).sum ≤ 8) (hf : d + 1 ≤ R.frames) (hl : 8 + (nL' + 11) + 38 * d ≤ R.locals) (hc : cells + mc ≤ R.cells) (hs : slots + ms ≤ R.slots) (hc2 : cells + mc ≤ mc') (hs2 : slots + ms ≤ ms') (kk : ∀ (v : Option Value) (h' : AH) (K' : Nat), Post (.inl v) h' K' → XW s0 D p l e R s m args below meth c (XQ s0 D mc' ms' Post' below s) (pc + 3) lv (v.toList ++ rest) h' K' (cells + mc) (slots + ms)) (kt : ∀ (Cn : String) (h' : AH) (K' : Nat), Post (.inr Cn) h' K' → Post' (.inr Cn) h' K') : XW s0 D p l e R s m args below meth c (XQ s0 D mc' ms' Post' below s) pc lv st h K cells slots := by
  refine x_goT C (fun ls H locs P => ?_) hd hM wc wi hr hf hl hc hs hc2 hs2 kk kt
  have hP : va_P D vwCl [(s0.heap.size + a, .inr (ci, fs))] H := by
    intro j q hj
    cases j with
    | zero => cases hj; exact P.2.2.2.1 a _ hh
    | succ j => cases hj
  obtain ⟨cell, g1, g2, g3⟩ := va_recv C.2.2.2.2.2.2.1 hP G.1 (q0 := 0) rfl
  exact i_VN C.1 C.2.2.2.1 (va_Nw.use rfl (va_Nw.warmM C.2.2.2.2.1 (va_Nw.of rfl w1))) (x_w C rfl w2) (x_w C rfl w3) (x_w C rfl wc) hy g1 g2 g3 rfl hlen hst (by rw [C.2.1]; exact hd)
theorem x_callSR {v : Option Value} {h1 : AH} {K1 : Nat} (C : XC s0 D cI cL p s m meth c own cc nL ret tb)  (w1 : (Cond.methodLink own index y).before a0 s0 = true) (w2 : (Cond.static y).before a0 s0 = true) (wc : (Cond.code y cc' nL' ret').before a0 s0 = true) (wi : (Cond.initialized y.cls).before a0 s0 = true) (hd : decode cc pc = .ok (.invokestatic index, 3)) (hM : XM l s0 D y cc' nL' ret' d mc ms argsL h K (PR v h1 K1)) (hy : y.cls ≠ "java/lang/invoke/MethodHandle" ∧ y.cls ≠ "java/lang/invoke/VarHandle") (hlen : (parseMethodDescriptor y.desc).map (fun d => d.parameters.length) = some argsL.length) (hst : st = argsL.reverse ++ rest)  (hr : (rest.map fun v => v.category).sum ≤ 8) (hf : d + 1 ≤ R.frames) (hl : 8 + (nL' + 11) + 38 * d ≤ R.locals) (hc : cells + mc ≤ R.cells) (hs : slots + ms ≤ R.slots) (kk : XW s0 D p l e R s m args below meth c Q (pc + 3) lv (v.toList ++ rest) h1 K1 (cells + mc) (slots + ms)) : XW s0 D p l e R s m args below meth c Q pc lv st h K cells slots := by
  refine x_goR C (fun ls H locs P => ?_) hd hM wc wi hr hf hl hc hs kk
  exact i_S C.1 C.2.2.2.1 (x_w C rfl w1) (x_w C rfl w2) (x_w C rfl wi) (x_w C rfl wc) hy rfl hlen hst (by rw [C.2.1]; exact hd)
theorem x_callST {mc' ms' : Nat} {Post' : AO → AH → Nat → Prop} (C : XC s0 D cI cL p s m meth c own cc nL ret [])  (w1 : (Cond.methodLink own index y).before a0 s0 = true) (w2 : (Cond.static y).before a0 s0 = true) (wc : (Cond.code y cc' nL' ret').before a0 s0 = true) (wi : (Cond.initialized y.cls).before a0 s0 = true) (hd : decode cc pc = .ok (.invokestatic index, 3)) (hM : XM l s0 D y cc' nL' ret' d mc ms argsL h K Post) (hy : y.cls ≠ "java/lang/invoke/MethodHandle" ∧ y.cls ≠ "java/lang/invoke/VarHandle") (hlen : (parseMethodDescriptor y.desc).map (fun d => d.parameters.length) = some argsL.length) (hst : st = argsL.reverse ++ rest)  (hr : (rest.map fun v => v.category).sum ≤ 8) (hf : d + 1 ≤ R.frames) (hl : 8 + (nL' + 11) + 38 * d ≤ R.locals) (hc : cells + mc ≤ R.cells) (hs : slots + ms ≤ R.slots) (hc2 : cells + mc ≤ mc') (hs2 : slots + ms ≤ ms') (kk : ∀ (v : Option Value) (h' : AH) (K' : Nat), Post (.inl v) h' K' → XW s0 D p l e R s m args below meth c (XQ s0 D mc' ms' Post' below s) (pc + 3) lv (v.toList ++ rest) h' K' (cells + mc) (slots + ms)) (kt : ∀ (Cn : String) (h' : AH) (K' : Nat), Post (.inr Cn) h' K' → Post' (.inr Cn) h' K') : XW s0 D p l e R s m args below meth c (XQ s0 D mc' ms' Post' below s) pc lv st h K cells slots := by
  refine x_goT C (fun ls H locs P => ?_) hd hM wc wi hr hf hl hc hs hc2 hs2 kk kt
  exact i_S C.1 C.2.2.2.1 (x_w C rfl w1) (x_w C rfl w2) (x_w C rfl wi) (x_w C rfl wc) hy rfl hlen hst (by rw [C.2.1]; exact hd)
theorem x_callSNR {v : Option Value} {h1 : AH} {K1 : Nat} (C : XC s0 D cI cL p s m meth c own cc nL ret tb)  {host : String} (w1 : (Cond.methodLinkNest own index y host).before a0 s0 = true) (w2 : (Cond.static y).before a0 s0 = true) (wc : (Cond.code y cc' nL' ret').before a0 s0 = true) (wi : (Cond.initialized y.cls).before a0 s0 = true) (hd : decode cc pc = .ok (.invokestatic index, 3)) (hM : XM l s0 D y cc' nL' ret' d mc ms argsL h K (PR v h1 K1)) (hy : y.cls ≠ "java/lang/invoke/MethodHandle" ∧ y.cls ≠ "java/lang/invoke/VarHandle") (hlen : (parseMethodDescriptor y.desc).map (fun d => d.parameters.length) = some argsL.length) (hst : st = argsL.reverse ++ rest)  (hr : (rest.map fun v => v.category).sum ≤ 8) (hf : d + 1 ≤ R.frames) (hl : 8 + (nL' + 11) + 38 * d ≤ R.locals) (hc : cells + mc ≤ R.cells) (hs : slots + ms ≤ R.slots) (kk : XW s0 D p l e R s m args below meth c Q (pc + 3) lv (v.toList ++ rest) h1 K1 (cells + mc) (slots + ms)) : XW s0 D p l e R s m args below meth c Q pc lv st h K cells slots := by
  refine x_goR C (fun ls H locs P => ?_) hd hM wc wi hr hf hl hc hs kk
  exact i_SN C.1 C.2.2.2.1 (va_Nw.use rfl (va_Nw.warmM C.2.2.2.2.1 (va_Nw.of rfl w1))) (x_w C rfl w2) (x_w C rfl wi) (x_w C rfl wc) hy rfl hlen hst (by rw [C.2.1]; exact hd)
theorem x_callSNT {mc' ms' : Nat} {Post' : AO → AH → Nat → Prop} (C : XC s0 D cI cL p s m meth c own cc nL ret [])  {host : String} (w1 : (Cond.methodLinkNest own index y host).before a0 s0 = true) (w2 : (Cond.static y).before a0 s0 = true) (wc : (Cond.code y cc' nL' ret').before a0 s0 = true) (wi : (Cond.initialized y.cls).before a0 s0 = true) (hd : decode cc pc = .ok (.invokestatic index, 3)) (hM : XM l s0 D y cc' nL' ret' d mc ms argsL h K Post) (hy : y.cls ≠ "java/lang/invoke/MethodHandle" ∧ y.cls ≠ "java/lang/invoke/VarHandle") (hlen : (parseMethodDescriptor y.desc).map (fun d => d.parameters.length) = some argsL.length) (hst : st = argsL.reverse ++ rest)  (hr : (rest.map fun v => v.category).sum ≤ 8) (hf : d + 1 ≤ R.frames) (hl : 8 + (nL' + 11) + 38 * d ≤ R.locals) (hc : cells + mc ≤ R.cells) (hs : slots + ms ≤ R.slots) (hc2 : cells + mc ≤ mc') (hs2 : slots + ms ≤ ms') (kk : ∀ (v : Option Value) (h' : AH) (K' : Nat), Post (.inl v) h' K' → XW s0 D p l e R s m args below meth c (XQ s0 D mc' ms' Post' below s) (pc + 3) lv (v.toList ++ rest) h' K' (cells + mc) (slots + ms)) (kt : ∀ (Cn : String) (h' : AH) (K' : Nat), Post (.inr Cn) h' K' → Post' (.inr Cn) h' K') : XW s0 D p l e R s m args below meth c (XQ s0 D mc' ms' Post' below s) pc lv st h K cells slots := by
  refine x_goT C (fun ls H locs P => ?_) hd hM wc wi hr hf hl hc hs hc2 hs2 kk kt
  exact i_SN C.1 C.2.2.2.1 (va_Nw.use rfl (va_Nw.warmM C.2.2.2.2.1 (va_Nw.of rfl w1))) (x_w C rfl w2) (x_w C rfl wi) (x_w C rfl wc) hy rfl hlen hst (by rw [C.2.1]; exact hd)
theorem x_callIR {v : Option Value} {h1 : AH} {K1 : Nat} (C : XC s0 D cI cL p s m meth c own cc nL ret tb)  (hy1 : y.name = "<init>") (w1 : (Cond.methodLink own index y).before a0 s0 = true) (w2 : (Cond.instanceMethod y).before a0 s0 = true) (wc : (Cond.code y cc' nL' none).before a0 s0 = true) (wi : (Cond.initialized y.cls).before a0 s0 = true) (hd : decode cc pc = .ok (.invokespecial index, 3)) (hM : XM l s0 D y cc' nL' none d mc ms (.ref (s0.heap.size + a) :: argsL) h K (PR v h1 K1)) (hy : y.cls ≠ "java/lang/invoke/MethodHandle" ∧ y.cls ≠ "java/lang/invoke/VarHandle") (hlen : (parseMethodDescriptor y.desc).map (fun d => d.parameters.length) = some argsL.length) (hst : st = argsL.reverse ++ .ref (s0.heap.size + a) :: rest)  (hr : (rest.map fun v => v.category).sum ≤ 8) (hf : d + 1 ≤ R.frames) (hl : 8 + (nL' + 11) + 38 * d ≤ R.locals) (hc : cells + mc ≤ R.cells) (hs : slots + ms ≤ R.slots) (kk : XW s0 D p l e R s m args below meth c Q (pc + 3) lv (v.toList ++ rest) h1 K1 (cells + mc) (slots + ms)) : XW s0 D p l e R s m args below meth c Q pc lv st h K cells slots := by
  refine x_goR C (fun ls H locs P => ?_) hd hM wc wi hr hf hl hc hs kk
  exact i_I C.1 C.2.2.2.1 hy1 (x_w C rfl w1) (x_w C rfl w2) (x_w C rfl wc) hy rfl hlen hst (by rw [C.2.1]; exact hd)
theorem x_callINR {v : Option Value} {h1 : AH} {K1 : Nat} (C : XC s0 D cI cL p s m meth c own cc nL ret tb)  {host : String} (hy1 : y.name = "<init>") (w1 : (Cond.methodLinkNest own index y host).before a0 s0 = true) (w2 : (Cond.instanceMethod y).before a0 s0 = true) (wc : (Cond.code y cc' nL' none).before a0 s0 = true) (wi : (Cond.initialized y.cls).before a0 s0 = true) (hd : decode cc pc = .ok (.invokespecial index, 3)) (hM : XM l s0 D y cc' nL' none d mc ms (.ref (s0.heap.size + a) :: argsL) h K (PR v h1 K1)) (hy : y.cls ≠ "java/lang/invoke/MethodHandle" ∧ y.cls ≠ "java/lang/invoke/VarHandle") (hlen : (parseMethodDescriptor y.desc).map (fun d => d.parameters.length) = some argsL.length) (hst : st = argsL.reverse ++ .ref (s0.heap.size + a) :: rest)  (hr : (rest.map fun v => v.category).sum ≤ 8) (hf : d + 1 ≤ R.frames) (hl : 8 + (nL' + 11) + 38 * d ≤ R.locals) (hc : cells + mc ≤ R.cells) (hs : slots + ms ≤ R.slots) (kk : XW s0 D p l e R s m args below meth c Q (pc + 3) lv (v.toList ++ rest) h1 K1 (cells + mc) (slots + ms)) : XW s0 D p l e R s m args below meth c Q pc lv st h K cells slots := by
  refine x_goR C (fun ls H locs P => ?_) hd hM wc wi hr hf hl hc hs kk
  exact i_IN C.1 C.2.2.2.1 hy1 (va_Nw.use rfl (va_Nw.warmM C.2.2.2.2.1 (va_Nw.of rfl w1))) (x_w C rfl w2) (x_w C rfl wc) hy rfl hlen hst (by rw [C.2.1]; exact hd)
end CallRows
end
section
/-! System.arraycopy between two rows of ints -/
section CopyRow
variable {a0 : Array Value} {s0 : State} {D : va_G} {cI cL : ClassId} {p : Program} {l : Launch} {e : Env} {R : Room} {s : State} {m : MethodId} {args : Array Value} {below : List Frame} {meth : Method} {c : Code} {Q : State → Prop} {tb : List ExceptionTableEntry}
variable {own : String} {cc : ByteArray} {nL : Nat} {ret : Option FieldType} {pc : Nat} {lv : List (Nat × Value)} {st : List Value} {h : AH} {K cells slots : Nat} {index : Nat}
theorem x_copy (C : XC s0 D cI cL p s m meth c own cc nL ret tb) (w1 : (Cond.methodLink own index arraycopyName).before a0 s0 = true) (w2 : (Cond.native arraycopyName).before a0 s0 = true) (w3 : (Cond.static arraycopyName).before a0 s0 = true) (w4 : (Cond.initialized "java/lang/System").before a0 s0 = true)
    {a0 a1 n0 n1 : Nat} {f g : Int → Int} {sp dp n : Int} (hd : decode cc pc = .ok (.invokestatic index, 3)) (ha0 : h a0 = some (iA cI n0 f)) (ha1 : h a1 = some (iA cI n1 g)) (h1 : 0 ≤ sp) (h2 : 0 ≤ dp) (h3 : 0 ≤ n) (h4 : sp + n ≤ (n0 : Int)) (h5 : dp + n ≤ (n1 : Int)) (hn0 : (n0 : Int) < 2147483648) (hn1 : (n1 : Int) < 2147483648)
    (hf : 1 ≤ R.frames) (hl : (st.map fun v => v.category).sum + (nativeFrameWords "java/lang/System" "arraycopy" 5 + 11) ≤ R.locals)
    (kk : XW s0 D p l e R s m args below meth c Q (pc + 3) lv st (a_up h a1 (iA cI n1 (zcpy f g sp dp n))) K cells slots) : XW s0 D p l e R s m args below meth c Q pc lv (.int (zI n) :: .int (zI dp) :: .ref (s0.heap.size + a1) :: .int (zI sp) :: .ref (s0.heap.size + a0) :: st) h K cells slots := by
  intro ls H locs P T hT X
  have hc0 : H[s0.heap.size + a0]? = some (vp_cell cI (n0, .inl (fun j => zI (f (j : Int))))) := P.2.2.2.1 a0 _ ha0
  have hc1 : H[s0.heap.size + a1]? = some (vp_cell cI (n1, .inl (fun j => zI (g (j : Int))))) := P.2.2.2.1 a1 _ ha1
  obtain ⟨-, k0, hk0, cm0, hkk0⟩ := (C.2.2.2.2.2.2.1.2 0 _ rfl).1 n0 (fun j => .int (zI (f (j : Int))))
  have hnn : ∀ z : Int, 0 ≤ z → z < 2147483648 → ¬ zI z < 0 := fun z z1 z2 q => by rw [← zI_0, zI_lt (by omega) z2 (by omega) (by omega)] at q; omega
  have es : (zI sp).toNatClampNeg = sp.toNat := zI_cl h1 (by omega)
  have ed : (zI dp).toNatClampNeg = dp.toNat := zI_cl h2 (by omega)
  have en : (zI n).toNatClampNeg = n.toNat := zI_cl h3 (by omega)
  obtain ⟨vm', X', step⟩ := X.arraycopy C.1 C.2.2.2.1 (x_w C rfl w1) (x_w C rfl w2) (x_w C rfl w3) (x_w C rfl w4) (src := s0.heap.size + a0) (dst := s0.heap.size + a1) (cs := vp_cell cI (n0, .inl (fun j => zI (f (j : Int))))) (cd := vp_cell cI (n1, .inl (fun j => zI (g (j : Int))))) (srcPos := zI sp) (destPos := zI dp) (n := zI n) (by rw [hT]; exact hc0) (by rw [hT]; exact hc1)
    (fun _ h => by cases h) (fun _ h => by cases h) (fun h => by cases h) (fun h => by cases h) hk0 hk0 hkk0 hkk0 (by simp [refKind]) (hnn sp h1 (by omega)) (hnn dp h2 (by omega)) (hnn n h3 (by omega))
    (by rw [zI_t (by omega) (by omega), zI_t (by omega) (by omega)]; show ¬ _ > ((arrV cI n0 (fun j => .int (zI (f (j : Int))))).slots.size : Int); rw [arrV_size]; omega)
    (by rw [zI_t (by omega) (by omega), zI_t (by omega) (by omega)]; show ¬ _ > ((arrV cI n1 (fun j => .int (zI (g (j : Int))))).slots.size : Int); rw [arrV_size]; omega)
    (fun vm₁ _ i hi => by
      have e : (vp_cell cI (n0, .inl (fun j => zI (f (j : Int))))).slots.getD ((zI sp).toNatClampNeg + i) .null = .int (zI (f (((zI sp).toNatClampNeg + i : Nat) : Int))) := by
        show (arrV cI n0 (fun j => .int (zI (f (j : Int))))).slots.getD _ _ = _
        rw [Array.getD_eq_getD_getElem?, arrV_read _ _ (by rw [es]; rw [en] at hi; omega)]
        rfl
      refine ⟨?_, ?_⟩
      · rw [e]
        rfl
      · rw [e]
        exact trivial)
    (g := F0 m pc ls (.int (zI n) :: .int (zI dp) :: .ref (s0.heap.size + a1) :: .int (zI sp) :: .ref (s0.heap.size + a0) :: st)) rfl P.1.1 (rest := st) rfl (by rw [C.2.1]; exact hd) hf (by show 2 * 0 + _ + _ ≤ _; omega)
  have e1 : copied (vp_cell cI (n0, .inl (fun j => zI (f (j : Int))))) (vp_cell cI (n1, .inl (fun j => zI (g (j : Int))))) (zI sp) (zI dp) (zI n) = vp_cell cI (n1, .inl (fun j => zI (zcpy f g sp dp n (j : Int)))) := by
    have h9 := va_copied (fun z => Value.int z) cI cI (n0 := n0) (n1 := n1) (sp := (zI sp).toNatClampNeg) (dp := (zI dp).toNatClampNeg) (n := (zI n).toNatClampNeg) (fun j => zI (f (j : Int))) (fun j => zI (g (j : Int))) (by rw [es, en]; omega)
    rw [es, ed, en, cpy_z f g h1 h2 h3] at h9
    rw [← es, ← ed, ← en] at h9
    exact h9
  rw [e1] at X' step
  have hlt : s0.heap.size + a1 < H.size := (Array.getElem?_eq_some_iff.mp hc1).1
  have hheap : ((T.setVm vm').setCell (s0.heap.size + a1) (vp_cell cI (n1, .inl (fun j => zI (zcpy f g sp dp n (j : Int)))))).heap = H.setIfInBounds (s0.heap.size + a1) (vp_cell cI (n1, .inl (fun j => zI (zcpy f g sp dp n (j : Int))))) := by rw [← hT]; rfl
  have P2 := P.put (a := a1) (k0 := 0) (x := iA cI n1 (zcpy f g sp dp n)) (H' := H.setIfInBounds (s0.heap.size + a1) (vp_cell cI (n1, .inl (fun j => zI (zcpy f g sp dp n (j : Int)))))) (by simp) (fun q hq => by simp [Array.getElem?_setIfInBounds, Ne.symm hq]) (show (H.setIfInBounds (s0.heap.size + a1) _)[s0.heap.size + a1]? = some _ by simp [Array.getElem?_setIfInBounds, hlt])
  obtain ⟨t, a1', b1⟩ := kk ls _ _ ⟨P2.1, P2.2.1, P2.2.2.1, P2.2.2.2.1, fun q hq => by
      rcases List.mem_append.mp hq with h | h
      · exact P.2.2.2.2 q h
      · obtain ⟨z, -, hz⟩ := List.mem_map.mp h
        rw [← hz]
        exact Nat.le_add_right _ _⟩ _ hheap X'
  exact ⟨t, step t a1', b1⟩
end CopyRow
end
section
/-! the classes' tables at the start; descriptors; new objects -/
theorem nle {a b : Nat} (h : Nat.ble a b = true) : a ≤ b := Nat.le_of_ble_eq_true h
def a_E (a0 : Array Value) (s0 : State) (D : va_G) (cI cL : ClassId) : Prop := a_Z a0 s0 ∧ va_K D vwCl [(cI, .int), (cL, .long)] s0
theorem uw_By : ∀ w ∈ u_ws "NarrowingPacker$Bytes" F_By 2, w ∈ tables_1 := by decide +kernel
theorem G_By {a0 : Array Value} {s0 : State} (Z : a_Z a0 s0) : a_cl a0 s0 0 "NarrowingPacker$Bytes" F_By 2 t_By := ⟨rfl, fun w hw => Z w (List.mem_append_right _ (uw_By w hw)), by decide +kernel, by decide +kernel⟩
theorem nf_By : ∀ j, j < 2 → defaultValue (t_By j) = vp_V [.null, .int (zI 0)] j := by
  intro j hj
  match j, hj with
  | 0, _ => rfl
  | 1, _ => rfl
  | i + 2, hh => exact absurd hh (by omega)
theorem uw_Ch : ∀ w ∈ u_ws "NarrowingPacker$Chances" F_Ch 1, w ∈ tables_1 := by decide +kernel
theorem G_Ch {a0 : Array Value} {s0 : State} (Z : a_Z a0 s0) : a_cl a0 s0 1 "NarrowingPacker$Chances" F_Ch 1 t_Ch := ⟨rfl, fun w hw => Z w (List.mem_append_right _ (uw_Ch w hw)), by decide +kernel, by decide +kernel⟩
theorem nf_Ch : ∀ j, j < 1 → defaultValue (t_Ch j) = vp_V [.null] j := by
  intro j hj
  match j, hj with
  | 0, _ => rfl
  | i + 1, hh => exact absurd hh (by omega)
theorem uw_Co : ∀ w ∈ u_ws "NarrowingPacker$Chooser" F_Co 5, w ∈ tables_1 := by decide +kernel
theorem G_Co {a0 : Array Value} {s0 : State} (Z : a_Z a0 s0) : a_cl a0 s0 2 "NarrowingPacker$Chooser" F_Co 5 t_Co := ⟨rfl, fun w hw => Z w (List.mem_append_right _ (uw_Co w hw)), by decide +kernel, by decide +kernel⟩
theorem nf_Co : ∀ j, j < 5 → defaultValue (t_Co j) = vp_V [.int (zI 0), .int (zI 0), .int (zI 0), .int (zI 0), .int (zI 0)] j := by
  intro j hj
  match j, hj with
  | 0, _ => rfl
  | 1, _ => rfl
  | 2, _ => rfl
  | 3, _ => rfl
  | 4, _ => rfl
  | i + 5, hh => exact absurd hh (by omega)
theorem uw_Fo : ∀ w ∈ u_ws "NarrowingPacker$Follower" F_Fo 5, w ∈ tables_1 := by decide +kernel
theorem G_Fo {a0 : Array Value} {s0 : State} (Z : a_Z a0 s0) : a_cl a0 s0 3 "NarrowingPacker$Follower" F_Fo 5 t_Fo := ⟨rfl, fun w hw => Z w (List.mem_append_right _ (uw_Fo w hw)), by decide +kernel, by decide +kernel⟩
theorem nf_Fo : ∀ j, j < 5 → defaultValue (t_Fo j) = vp_V [.null, .null, .int (zI 0), .long (zL 0), .long (zL 0)] j := by
  intro j hj
  match j, hj with
  | 0, _ => rfl
  | 1, _ => rfl
  | 2, _ => rfl
  | 3, _ => rfl
  | 4, _ => rfl
  | i + 5, hh => exact absurd hh (by omega)
theorem uw_Hi : ∀ w ∈ u_ws "NarrowingPacker$History" F_Hi 3, w ∈ tables_1 := by decide +kernel
theorem G_Hi {a0 : Array Value} {s0 : State} (Z : a_Z a0 s0) : a_cl a0 s0 4 "NarrowingPacker$History" F_Hi 3 t_Hi := ⟨rfl, fun w hw => Z w (List.mem_append_right _ (uw_Hi w hw)), by decide +kernel, by decide +kernel⟩
theorem nf_Hi : ∀ j, j < 3 → defaultValue (t_Hi j) = vp_V [.null, .null, .int (zI 0)] j := by
  intro j hj
  match j, hj with
  | 0, _ => rfl
  | 1, _ => rfl
  | 2, _ => rfl
  | i + 3, hh => exact absurd hh (by omega)
theorem uw_Na : ∀ w ∈ u_ws "NarrowingPacker$Narrower" F_Na 4, w ∈ tables_1 := by decide +kernel
theorem G_Na {a0 : Array Value} {s0 : State} (Z : a_Z a0 s0) : a_cl a0 s0 5 "NarrowingPacker$Narrower" F_Na 4 t_Na := ⟨rfl, fun w hw => Z w (List.mem_append_right _ (uw_Na w hw)), by decide +kernel, by decide +kernel⟩
theorem nf_Na : ∀ j, j < 4 → defaultValue (t_Na j) = vp_V [.null, .null, .int (zI 0), .long (zL 0)] j := by
  intro j hj
  match j, hj with
  | 0, _ => rfl
  | 1, _ => rfl
  | 2, _ => rfl
  | 3, _ => rfl
  | i + 4, hh => exact absurd hh (by omega)
theorem uw_Pa : ∀ w ∈ u_ws "NarrowingPacker$Packet" F_Pa 5, w ∈ tables_1 := by decide +kernel
theorem G_Pa {a0 : Array Value} {s0 : State} (Z : a_Z a0 s0) : a_cl a0 s0 6 "NarrowingPacker$Packet" F_Pa 5 t_Pa := ⟨rfl, fun w hw => Z w (List.mem_append_right _ (uw_Pa w hw)), by decide +kernel, by decide +kernel⟩
theorem nf_Pa : ∀ j, j < 5 → defaultValue (t_Pa j) = vp_V [.int (zI 0), .int (zI 0), .int (zI 0), .int (zI 0), .int (zI 0)] j := by
  intro j hj
  match j, hj with
  | 0, _ => rfl
  | 1, _ => rfl
  | 2, _ => rfl
  | 3, _ => rfl
  | 4, _ => rfl
  | i + 5, hh => exact absurd hh (by omega)
theorem uw_Pl : ∀ w ∈ u_ws "NarrowingPacker$PacketList" F_Pl 4, w ∈ tables_1 := by decide +kernel
theorem G_Pl {a0 : Array Value} {s0 : State} (Z : a_Z a0 s0) : a_cl a0 s0 7 "NarrowingPacker$PacketList" F_Pl 4 t_Pl := ⟨rfl, fun w hw => Z w (List.mem_append_right _ (uw_Pl w hw)), by decide +kernel, by decide +kernel⟩
theorem nf_Pl : ∀ j, j < 4 → defaultValue (t_Pl j) = vp_V [.null, .null, .null, .int (zI 0)] j := by
  intro j hj
  match j, hj with
  | 0, _ => rfl
  | 1, _ => rfl
  | 2, _ => rfl
  | 3, _ => rfl
  | i + 4, hh => exact absurd hh (by omega)
theorem uw_Re : ∀ w ∈ u_ws "NarrowingPacker$PacketReader" F_Re 1, w ∈ tables_1 := by decide +kernel
theorem G_Re {a0 : Array Value} {s0 : State} (Z : a_Z a0 s0) : a_cl a0 s0 8 "NarrowingPacker$PacketReader" F_Re 1 t_Re := ⟨rfl, fun w hw => Z w (List.mem_append_right _ (uw_Re w hw)), by decide +kernel, by decide +kernel⟩
theorem nf_Re : ∀ j, j < 1 → defaultValue (t_Re j) = vp_V [.null] j := by
  intro j hj
  match j, hj with
  | 0, _ => rfl
  | i + 1, hh => exact absurd hh (by omega)
theorem uw_Wr : ∀ w ∈ u_ws "NarrowingPacker$PacketWriter" F_Wr 1, w ∈ tables_1 := by decide +kernel
theorem G_Wr {a0 : Array Value} {s0 : State} (Z : a_Z a0 s0) : a_cl a0 s0 9 "NarrowingPacker$PacketWriter" F_Wr 1 t_Wr := ⟨rfl, fun w hw => Z w (List.mem_append_right _ (uw_Wr w hw)), by decide +kernel, by decide +kernel⟩
theorem nf_Wr : ∀ j, j < 1 → defaultValue (t_Wr j) = vp_V [.null] j := by
  intro j hj
  match j, hj with
  | 0, _ => rfl
  | i + 1, hh => exact absurd hh (by omega)
theorem uw_Np : ∀ w ∈ u_ws "NarrowingPacker" F_Np 12, w ∈ tables_1 := by decide +kernel
theorem G_Np {a0 : Array Value} {s0 : State} (Z : a_Z a0 s0) : a_cl a0 s0 10 "NarrowingPacker" F_Np 12 t_Np := ⟨rfl, fun w hw => Z w (List.mem_append_right _ (uw_Np w hw)), by decide +kernel, by decide +kernel⟩
theorem nf_Np : ∀ j, j < 12 → defaultValue (t_Np j) = vp_V [.null, .null, .null, .null, .null, .int (zI 0), .null, .null, .null, .null, .null, .null] j := by
  intro j hj
  match j, hj with
  | 0, _ => rfl
  | 1, _ => rfl
  | 2, _ => rfl
  | 3, _ => rfl
  | 4, _ => rfl
  | 5, _ => rfl
  | 6, _ => rfl
  | 7, _ => rfl
  | 8, _ => rfl
  | 9, _ => rfl
  | 10, _ => rfl
  | 11, _ => rfl
  | i + 12, hh => exact absurd hh (by omega)
theorem uw_Mo : ∀ w ∈ u_ws "NarrowingPackerModel" F_Mo 34, w ∈ tables_1 := by decide +kernel
theorem G_Mo {a0 : Array Value} {s0 : State} (Z : a_Z a0 s0) : a_cl a0 s0 11 "NarrowingPackerModel" F_Mo 34 t_Mo := ⟨rfl, fun w hw => Z w (List.mem_append_right _ (uw_Mo w hw)), by decide +kernel, by decide +kernel⟩
theorem nf_Mo : ∀ j, j < 34 → defaultValue (t_Mo j) = vp_V [.int (zI 0), .int (zI 0), .int (zI 0), .null, .int (zI 0), .null, .int (zI 0), .null, .int (zI 0), .int (zI 0), .null, .null, .null, .null, .int (zI 0), .int (zI 0), .null, .long (zL 0), .int (zI 0), .null, .long (zL 0), .int (zI 0), .int (zI 0), .int (zI 0), .null, .null, .int (zI 0), .null, .null, .null, .int (zI 0), .int (zI 0), .int (zI 0), .int (zI 0)] j := by
  intro j hj
  match j, hj with
  | 0, _ => rfl
  | 1, _ => rfl
  | 2, _ => rfl
  | 3, _ => rfl
  | 4, _ => rfl
  | 5, _ => rfl
  | 6, _ => rfl
  | 7, _ => rfl
  | 8, _ => rfl
  | 9, _ => rfl
  | 10, _ => rfl
  | 11, _ => rfl
  | 12, _ => rfl
  | 13, _ => rfl
  | 14, _ => rfl
  | 15, _ => rfl
  | 16, _ => rfl
  | 17, _ => rfl
  | 18, _ => rfl
  | 19, _ => rfl
  | 20, _ => rfl
  | 21, _ => rfl
  | 22, _ => rfl
  | 23, _ => rfl
  | 24, _ => rfl
  | 25, _ => rfl
  | 26, _ => rfl
  | 27, _ => rfl
  | 28, _ => rfl
  | 29, _ => rfl
  | 30, _ => rfl
  | 31, _ => rfl
  | 32, _ => rfl
  | 33, _ => rfl
  | i + 34, hh => exact absurd hh (by omega)
theorem nh_Np_init : y_Np_init.cls ≠ "java/lang/invoke/MethodHandle" ∧ y_Np_init.cls ≠ "java/lang/invoke/VarHandle" := by decide
theorem ln_Np_init : (parseMethodDescriptor y_Np_init.desc).map (fun d => d.parameters.length) = some 1 := by decide +kernel
theorem nh_Np_type : y_Np_type.cls ≠ "java/lang/invoke/MethodHandle" ∧ y_Np_type.cls ≠ "java/lang/invoke/VarHandle" := by decide
theorem ln_Np_type : (parseMethodDescriptor y_Np_type.desc).map (fun d => d.parameters.length) = some 1 := by decide +kernel
theorem nh_Np_wipe : y_Np_wipe.cls ≠ "java/lang/invoke/MethodHandle" ∧ y_Np_wipe.cls ≠ "java/lang/invoke/VarHandle" := by decide
theorem ln_Np_wipe : (parseMethodDescriptor y_Np_wipe.desc).map (fun d => d.parameters.length) = some 0 := by decide +kernel
theorem nh_Np_pack : y_Np_pack.cls ≠ "java/lang/invoke/MethodHandle" ∧ y_Np_pack.cls ≠ "java/lang/invoke/VarHandle" := by decide
theorem ln_Np_pack : (parseMethodDescriptor y_Np_pack.desc).map (fun d => d.parameters.length) = some 0 := by decide +kernel
theorem nh_Np_packets : y_Np_packets.cls ≠ "java/lang/invoke/MethodHandle" ∧ y_Np_packets.cls ≠ "java/lang/invoke/VarHandle" := by decide
theorem ln_Np_packets : (parseMethodDescriptor y_Np_packets.desc).map (fun d => d.parameters.length) = some 0 := by decide +kernel
theorem nh_Np_packet : y_Np_packet.cls ≠ "java/lang/invoke/MethodHandle" ∧ y_Np_packet.cls ≠ "java/lang/invoke/VarHandle" := by decide
theorem ln_Np_packet : (parseMethodDescriptor y_Np_packet.desc).map (fun d => d.parameters.length) = some 2 := by decide +kernel
theorem nh_Np_chance : y_Np_chance.cls ≠ "java/lang/invoke/MethodHandle" ∧ y_Np_chance.cls ≠ "java/lang/invoke/VarHandle" := by decide
theorem ln_Np_chance : (parseMethodDescriptor y_Np_chance.desc).map (fun d => d.parameters.length) = some 2 := by decide +kernel
theorem nh_Np_size : y_Np_size.cls ≠ "java/lang/invoke/MethodHandle" ∧ y_Np_size.cls ≠ "java/lang/invoke/VarHandle" := by decide
theorem ln_Np_size : (parseMethodDescriptor y_Np_size.desc).map (fun d => d.parameters.length) = some 0 := by decide +kernel
theorem nh_Np_at : y_Np_at.cls ≠ "java/lang/invoke/MethodHandle" ∧ y_Np_at.cls ≠ "java/lang/invoke/VarHandle" := by decide
theorem ln_Np_at : (parseMethodDescriptor y_Np_at.desc).map (fun d => d.parameters.length) = some 1 := by decide +kernel
theorem nh_Np_add : y_Np_add.cls ≠ "java/lang/invoke/MethodHandle" ∧ y_Np_add.cls ≠ "java/lang/invoke/VarHandle" := by decide
theorem ln_Np_add : (parseMethodDescriptor y_Np_add.desc).map (fun d => d.parameters.length) = some 1 := by decide +kernel
theorem nh_Np_put : y_Np_put.cls ≠ "java/lang/invoke/MethodHandle" ∧ y_Np_put.cls ≠ "java/lang/invoke/VarHandle" := by decide
theorem ln_Np_put : (parseMethodDescriptor y_Np_put.desc).map (fun d => d.parameters.length) = some 2 := by decide +kernel
theorem nh_Np_cut : y_Np_cut.cls ≠ "java/lang/invoke/MethodHandle" ∧ y_Np_cut.cls ≠ "java/lang/invoke/VarHandle" := by decide
theorem ln_Np_cut : (parseMethodDescriptor y_Np_cut.desc).map (fun d => d.parameters.length) = some 1 := by decide +kernel
theorem nh_Np_unpack : y_Np_unpack.cls ≠ "java/lang/invoke/MethodHandle" ∧ y_Np_unpack.cls ≠ "java/lang/invoke/VarHandle" := by decide
theorem ln_Np_unpack : (parseMethodDescriptor y_Np_unpack.desc).map (fun d => d.parameters.length) = some 0 := by decide +kernel
theorem nh_Np_told : y_Np_told.cls ≠ "java/lang/invoke/MethodHandle" ∧ y_Np_told.cls ≠ "java/lang/invoke/VarHandle" := by decide
theorem ln_Np_told : (parseMethodDescriptor y_Np_told.desc).map (fun d => d.parameters.length) = some 0 := by decide +kernel
theorem nh_Np_byteAt : y_Np_byteAt.cls ≠ "java/lang/invoke/MethodHandle" ∧ y_Np_byteAt.cls ≠ "java/lang/invoke/VarHandle" := by decide
theorem ln_Np_byteAt : (parseMethodDescriptor y_Np_byteAt.desc).map (fun d => d.parameters.length) = some 1 := by decide +kernel
theorem nh_Np_isByte : y_Np_isByte.cls ≠ "java/lang/invoke/MethodHandle" ∧ y_Np_isByte.cls ≠ "java/lang/invoke/VarHandle" := by decide
theorem ln_Np_isByte : (parseMethodDescriptor y_Np_isByte.desc).map (fun d => d.parameters.length) = some 1 := by decide +kernel
theorem nh_Np_writeSource : y_Np_writeSource.cls ≠ "java/lang/invoke/MethodHandle" ∧ y_Np_writeSource.cls ≠ "java/lang/invoke/VarHandle" := by decide
theorem ln_Np_writeSource : (parseMethodDescriptor y_Np_writeSource.desc).map (fun d => d.parameters.length) = some 0 := by decide +kernel
theorem nh_Np_keepPacking : y_Np_keepPacking.cls ≠ "java/lang/invoke/MethodHandle" ∧ y_Np_keepPacking.cls ≠ "java/lang/invoke/VarHandle" := by decide
theorem ln_Np_keepPacking : (parseMethodDescriptor y_Np_keepPacking.desc).map (fun d => d.parameters.length) = some 1 := by decide +kernel
theorem nh_Np_refuseWhatCannotBeTold : y_Np_refuseWhatCannotBeTold.cls ≠ "java/lang/invoke/MethodHandle" ∧ y_Np_refuseWhatCannotBeTold.cls ≠ "java/lang/invoke/VarHandle" := by decide
theorem ln_Np_refuseWhatCannotBeTold : (parseMethodDescriptor y_Np_refuseWhatCannotBeTold.desc).map (fun d => d.parameters.length) = some 0 := by decide +kernel
theorem nh_Mo_init : y_Mo_init.cls ≠ "java/lang/invoke/MethodHandle" ∧ y_Mo_init.cls ≠ "java/lang/invoke/VarHandle" := by decide
theorem ln_Mo_init : (parseMethodDescriptor y_Mo_init.desc).map (fun d => d.parameters.length) = some 1 := by decide +kernel
theorem nh_Mo_thrown : y_Mo_thrown.cls ≠ "java/lang/invoke/MethodHandle" ∧ y_Mo_thrown.cls ≠ "java/lang/invoke/VarHandle" := by decide
theorem ln_Mo_thrown : (parseMethodDescriptor y_Mo_thrown.desc).map (fun d => d.parameters.length) = some 0 := by decide +kernel
theorem nh_Mo_isByte : y_Mo_isByte.cls ≠ "java/lang/invoke/MethodHandle" ∧ y_Mo_isByte.cls ≠ "java/lang/invoke/VarHandle" := by decide
theorem ln_Mo_isByte : (parseMethodDescriptor y_Mo_isByte.desc).map (fun d => d.parameters.length) = some 1 := by decide +kernel
theorem nh_Mo_type : y_Mo_type.cls ≠ "java/lang/invoke/MethodHandle" ∧ y_Mo_type.cls ≠ "java/lang/invoke/VarHandle" := by decide
theorem ln_Mo_type : (parseMethodDescriptor y_Mo_type.desc).map (fun d => d.parameters.length) = some 1 := by decide +kernel
theorem nh_Mo_wipe : y_Mo_wipe.cls ≠ "java/lang/invoke/MethodHandle" ∧ y_Mo_wipe.cls ≠ "java/lang/invoke/VarHandle" := by decide
theorem ln_Mo_wipe : (parseMethodDescriptor y_Mo_wipe.desc).map (fun d => d.parameters.length) = some 0 := by decide +kernel
theorem nh_Mo_begin : y_Mo_begin.cls ≠ "java/lang/invoke/MethodHandle" ∧ y_Mo_begin.cls ≠ "java/lang/invoke/VarHandle" := by decide
theorem ln_Mo_begin : (parseMethodDescriptor y_Mo_begin.desc).map (fun d => d.parameters.length) = some 1 := by decide +kernel
theorem nh_Mo_grow : y_Mo_grow.cls ≠ "java/lang/invoke/MethodHandle" ∧ y_Mo_grow.cls ≠ "java/lang/invoke/VarHandle" := by decide
theorem ln_Mo_grow : (parseMethodDescriptor y_Mo_grow.desc).map (fun d => d.parameters.length) = some 1 := by decide +kernel
theorem nh_Mo_read : y_Mo_read.cls ≠ "java/lang/invoke/MethodHandle" ∧ y_Mo_read.cls ≠ "java/lang/invoke/VarHandle" := by decide
theorem ln_Mo_read : (parseMethodDescriptor y_Mo_read.desc).map (fun d => d.parameters.length) = some 0 := by decide +kernel
theorem nh_Mo_widen : y_Mo_widen.cls ≠ "java/lang/invoke/MethodHandle" ∧ y_Mo_widen.cls ≠ "java/lang/invoke/VarHandle" := by decide
theorem ln_Mo_widen : (parseMethodDescriptor y_Mo_widen.desc).map (fun d => d.parameters.length) = some 0 := by decide +kernel
theorem nh_Mo_bit : y_Mo_bit.cls ≠ "java/lang/invoke/MethodHandle" ∧ y_Mo_bit.cls ≠ "java/lang/invoke/VarHandle" := by decide
theorem ln_Mo_bit : (parseMethodDescriptor y_Mo_bit.desc).map (fun d => d.parameters.length) = some 2 := by decide +kernel
theorem nh_Mo_tree : y_Mo_tree.cls ≠ "java/lang/invoke/MethodHandle" ∧ y_Mo_tree.cls ≠ "java/lang/invoke/VarHandle" := by decide
theorem ln_Mo_tree : (parseMethodDescriptor y_Mo_tree.desc).map (fun d => d.parameters.length) = some 3 := by decide +kernel
theorem nh_Mo_row : y_Mo_row.cls ≠ "java/lang/invoke/MethodHandle" ∧ y_Mo_row.cls ≠ "java/lang/invoke/VarHandle" := by decide
theorem ln_Mo_row : (parseMethodDescriptor y_Mo_row.desc).map (fun d => d.parameters.length) = some 3 := by decide +kernel
theorem nh_Mo_literal : y_Mo_literal.cls ≠ "java/lang/invoke/MethodHandle" ∧ y_Mo_literal.cls ≠ "java/lang/invoke/VarHandle" := by decide
theorem ln_Mo_literal : (parseMethodDescriptor y_Mo_literal.desc).map (fun d => d.parameters.length) = some 1 := by decide +kernel
theorem nh_Mo_length : y_Mo_length.cls ≠ "java/lang/invoke/MethodHandle" ∧ y_Mo_length.cls ≠ "java/lang/invoke/VarHandle" := by decide
theorem ln_Mo_length : (parseMethodDescriptor y_Mo_length.desc).map (fun d => d.parameters.length) = some 2 := by decide +kernel
theorem nh_Mo_below : y_Mo_below.cls ≠ "java/lang/invoke/MethodHandle" ∧ y_Mo_below.cls ≠ "java/lang/invoke/VarHandle" := by decide
theorem ln_Mo_below : (parseMethodDescriptor y_Mo_below.desc).map (fun d => d.parameters.length) = some 1 := by decide +kernel
theorem nh_Mo_distance : y_Mo_distance.cls ≠ "java/lang/invoke/MethodHandle" ∧ y_Mo_distance.cls ≠ "java/lang/invoke/VarHandle" := by decide
theorem ln_Mo_distance : (parseMethodDescriptor y_Mo_distance.desc).map (fun d => d.parameters.length) = some 2 := by decide +kernel
theorem nh_Mo_echo : y_Mo_echo.cls ≠ "java/lang/invoke/MethodHandle" ∧ y_Mo_echo.cls ≠ "java/lang/invoke/VarHandle" := by decide
theorem ln_Mo_echo : (parseMethodDescriptor y_Mo_echo.desc).map (fun d => d.parameters.length) = some 1 := by decide +kernel
theorem nh_Mo_tell : y_Mo_tell.cls ≠ "java/lang/invoke/MethodHandle" ∧ y_Mo_tell.cls ≠ "java/lang/invoke/VarHandle" := by decide
theorem ln_Mo_tell : (parseMethodDescriptor y_Mo_tell.desc).map (fun d => d.parameters.length) = some 1 := by decide +kernel
theorem nh_Mo_note : y_Mo_note.cls ≠ "java/lang/invoke/MethodHandle" ∧ y_Mo_note.cls ≠ "java/lang/invoke/VarHandle" := by decide
theorem ln_Mo_note : (parseMethodDescriptor y_Mo_note.desc).map (fun d => d.parameters.length) = some 3 := by decide +kernel
theorem nh_Mo_tellLiteral : y_Mo_tellLiteral.cls ≠ "java/lang/invoke/MethodHandle" ∧ y_Mo_tellLiteral.cls ≠ "java/lang/invoke/VarHandle" := by decide
theorem ln_Mo_tellLiteral : (parseMethodDescriptor y_Mo_tellLiteral.desc).map (fun d => d.parameters.length) = some 1 := by decide +kernel
theorem nh_Mo_tellFar : y_Mo_tellFar.cls ≠ "java/lang/invoke/MethodHandle" ∧ y_Mo_tellFar.cls ≠ "java/lang/invoke/VarHandle" := by decide
theorem ln_Mo_tellFar : (parseMethodDescriptor y_Mo_tellFar.desc).map (fun d => d.parameters.length) = some 4 := by decide +kernel
theorem nh_Mo_packet0 : y_Mo_packet0.cls ≠ "java/lang/invoke/MethodHandle" ∧ y_Mo_packet0.cls ≠ "java/lang/invoke/VarHandle" := by decide
theorem ln_Mo_packet0 : (parseMethodDescriptor y_Mo_packet0.desc).map (fun d => d.parameters.length) = some 0 := by decide +kernel
theorem nh_Mo_agree : y_Mo_agree.cls ≠ "java/lang/invoke/MethodHandle" ∧ y_Mo_agree.cls ≠ "java/lang/invoke/VarHandle" := by decide
theorem ln_Mo_agree : (parseMethodDescriptor y_Mo_agree.desc).map (fun d => d.parameters.length) = some 2 := by decide +kernel
theorem nh_Mo_choose : y_Mo_choose.cls ≠ "java/lang/invoke/MethodHandle" ∧ y_Mo_choose.cls ≠ "java/lang/invoke/VarHandle" := by decide
theorem ln_Mo_choose : (parseMethodDescriptor y_Mo_choose.desc).map (fun d => d.parameters.length) = some 0 := by decide +kernel
theorem nh_Mo_pack : y_Mo_pack.cls ≠ "java/lang/invoke/MethodHandle" ∧ y_Mo_pack.cls ≠ "java/lang/invoke/VarHandle" := by decide
theorem ln_Mo_pack : (parseMethodDescriptor y_Mo_pack.desc).map (fun d => d.parameters.length) = some 0 := by decide +kernel
theorem nh_Mo_unpack : y_Mo_unpack.cls ≠ "java/lang/invoke/MethodHandle" ∧ y_Mo_unpack.cls ≠ "java/lang/invoke/VarHandle" := by decide
theorem ln_Mo_unpack : (parseMethodDescriptor y_Mo_unpack.desc).map (fun d => d.parameters.length) = some 0 := by decide +kernel
theorem nh_Mo_packets : y_Mo_packets.cls ≠ "java/lang/invoke/MethodHandle" ∧ y_Mo_packets.cls ≠ "java/lang/invoke/VarHandle" := by decide
theorem ln_Mo_packets : (parseMethodDescriptor y_Mo_packets.desc).map (fun d => d.parameters.length) = some 0 := by decide +kernel
theorem nh_Mo_packet2 : y_Mo_packet2.cls ≠ "java/lang/invoke/MethodHandle" ∧ y_Mo_packet2.cls ≠ "java/lang/invoke/VarHandle" := by decide
theorem ln_Mo_packet2 : (parseMethodDescriptor y_Mo_packet2.desc).map (fun d => d.parameters.length) = some 2 := by decide +kernel
theorem nh_Mo_chance : y_Mo_chance.cls ≠ "java/lang/invoke/MethodHandle" ∧ y_Mo_chance.cls ≠ "java/lang/invoke/VarHandle" := by decide
theorem ln_Mo_chance : (parseMethodDescriptor y_Mo_chance.desc).map (fun d => d.parameters.length) = some 2 := by decide +kernel
theorem nh_Mo_size : y_Mo_size.cls ≠ "java/lang/invoke/MethodHandle" ∧ y_Mo_size.cls ≠ "java/lang/invoke/VarHandle" := by decide
theorem ln_Mo_size : (parseMethodDescriptor y_Mo_size.desc).map (fun d => d.parameters.length) = some 0 := by decide +kernel
theorem nh_Mo_at : y_Mo_at.cls ≠ "java/lang/invoke/MethodHandle" ∧ y_Mo_at.cls ≠ "java/lang/invoke/VarHandle" := by decide
theorem ln_Mo_at : (parseMethodDescriptor y_Mo_at.desc).map (fun d => d.parameters.length) = some 1 := by decide +kernel
theorem nh_Mo_add : y_Mo_add.cls ≠ "java/lang/invoke/MethodHandle" ∧ y_Mo_add.cls ≠ "java/lang/invoke/VarHandle" := by decide
theorem ln_Mo_add : (parseMethodDescriptor y_Mo_add.desc).map (fun d => d.parameters.length) = some 1 := by decide +kernel
theorem nh_Mo_put : y_Mo_put.cls ≠ "java/lang/invoke/MethodHandle" ∧ y_Mo_put.cls ≠ "java/lang/invoke/VarHandle" := by decide
theorem ln_Mo_put : (parseMethodDescriptor y_Mo_put.desc).map (fun d => d.parameters.length) = some 2 := by decide +kernel
theorem nh_Mo_cut : y_Mo_cut.cls ≠ "java/lang/invoke/MethodHandle" ∧ y_Mo_cut.cls ≠ "java/lang/invoke/VarHandle" := by decide
theorem ln_Mo_cut : (parseMethodDescriptor y_Mo_cut.desc).map (fun d => d.parameters.length) = some 1 := by decide +kernel
theorem nh_Mo_told : y_Mo_told.cls ≠ "java/lang/invoke/MethodHandle" ∧ y_Mo_told.cls ≠ "java/lang/invoke/VarHandle" := by decide
theorem ln_Mo_told : (parseMethodDescriptor y_Mo_told.desc).map (fun d => d.parameters.length) = some 0 := by decide +kernel
theorem nh_Mo_byteAt : y_Mo_byteAt.cls ≠ "java/lang/invoke/MethodHandle" ∧ y_Mo_byteAt.cls ≠ "java/lang/invoke/VarHandle" := by decide
theorem ln_Mo_byteAt : (parseMethodDescriptor y_Mo_byteAt.desc).map (fun d => d.parameters.length) = some 1 := by decide +kernel
theorem nh_By_init : y_By_init.cls ≠ "java/lang/invoke/MethodHandle" ∧ y_By_init.cls ≠ "java/lang/invoke/VarHandle" := by decide
theorem ln_By_init : (parseMethodDescriptor y_By_init.desc).map (fun d => d.parameters.length) = some 1 := by decide +kernel
theorem nh_By_has : y_By_has.cls ≠ "java/lang/invoke/MethodHandle" ∧ y_By_has.cls ≠ "java/lang/invoke/VarHandle" := by decide
theorem ln_By_has : (parseMethodDescriptor y_By_has.desc).map (fun d => d.parameters.length) = some 1 := by decide +kernel
theorem nh_By_get : y_By_get.cls ≠ "java/lang/invoke/MethodHandle" ∧ y_By_get.cls ≠ "java/lang/invoke/VarHandle" := by decide
theorem ln_By_get : (parseMethodDescriptor y_By_get.desc).map (fun d => d.parameters.length) = some 1 := by decide +kernel
theorem nh_By_append : y_By_append.cls ≠ "java/lang/invoke/MethodHandle" ∧ y_By_append.cls ≠ "java/lang/invoke/VarHandle" := by decide
theorem ln_By_append : (parseMethodDescriptor y_By_append.desc).map (fun d => d.parameters.length) = some 1 := by decide +kernel
theorem nh_By_shorten : y_By_shorten.cls ≠ "java/lang/invoke/MethodHandle" ∧ y_By_shorten.cls ≠ "java/lang/invoke/VarHandle" := by decide
theorem ln_By_shorten : (parseMethodDescriptor y_By_shorten.desc).map (fun d => d.parameters.length) = some 1 := by decide +kernel
theorem nh_By_copy : y_By_copy.cls ≠ "java/lang/invoke/MethodHandle" ∧ y_By_copy.cls ≠ "java/lang/invoke/VarHandle" := by decide
theorem ln_By_copy : (parseMethodDescriptor y_By_copy.desc).map (fun d => d.parameters.length) = some 2 := by decide +kernel
theorem nh_Ch_init : y_Ch_init.cls ≠ "java/lang/invoke/MethodHandle" ∧ y_Ch_init.cls ≠ "java/lang/invoke/VarHandle" := by decide
theorem ln_Ch_init : (parseMethodDescriptor y_Ch_init.desc).map (fun d => d.parameters.length) = some 0 := by decide +kernel
theorem nh_Ch_forget : y_Ch_forget.cls ≠ "java/lang/invoke/MethodHandle" ∧ y_Ch_forget.cls ≠ "java/lang/invoke/VarHandle" := by decide
theorem ln_Ch_forget : (parseMethodDescriptor y_Ch_forget.desc).map (fun d => d.parameters.length) = some 0 := by decide +kernel
theorem nh_Ch_boundIn : y_Ch_boundIn.cls ≠ "java/lang/invoke/MethodHandle" ∧ y_Ch_boundIn.cls ≠ "java/lang/invoke/VarHandle" := by decide
theorem ln_Ch_boundIn : (parseMethodDescriptor y_Ch_boundIn.desc).map (fun d => d.parameters.length) = some 2 := by decide +kernel
theorem nh_Ch_learn : y_Ch_learn.cls ≠ "java/lang/invoke/MethodHandle" ∧ y_Ch_learn.cls ≠ "java/lang/invoke/VarHandle" := by decide
theorem ln_Ch_learn : (parseMethodDescriptor y_Ch_learn.desc).map (fun d => d.parameters.length) = some 2 := by decide +kernel
theorem nh_Co_init : y_Co_init.cls ≠ "java/lang/invoke/MethodHandle" ∧ y_Co_init.cls ≠ "java/lang/invoke/VarHandle" := by decide
theorem ln_Co_init : (parseMethodDescriptor y_Co_init.desc).map (fun d => d.parameters.length) = some 1 := by decide +kernel
theorem nh_Co_choose : y_Co_choose.cls ≠ "java/lang/invoke/MethodHandle" ∧ y_Co_choose.cls ≠ "java/lang/invoke/VarHandle" := by decide
theorem ln_Co_choose : (parseMethodDescriptor y_Co_choose.desc).map (fun d => d.parameters.length) = some 3 := by decide +kernel
theorem nh_Co_findMatch : y_Co_findMatch.cls ≠ "java/lang/invoke/MethodHandle" ∧ y_Co_findMatch.cls ≠ "java/lang/invoke/VarHandle" := by decide
theorem ln_Co_findMatch : (parseMethodDescriptor y_Co_findMatch.desc).map (fun d => d.parameters.length) = some 2 := by decide +kernel
theorem nh_Co_findEcho : y_Co_findEcho.cls ≠ "java/lang/invoke/MethodHandle" ∧ y_Co_findEcho.cls ≠ "java/lang/invoke/VarHandle" := by decide
theorem ln_Co_findEcho : (parseMethodDescriptor y_Co_findEcho.desc).map (fun d => d.parameters.length) = some 3 := by decide +kernel
theorem nh_Co_agreeing : y_Co_agreeing.cls ≠ "java/lang/invoke/MethodHandle" ∧ y_Co_agreeing.cls ≠ "java/lang/invoke/VarHandle" := by decide
theorem ln_Co_agreeing : (parseMethodDescriptor y_Co_agreeing.desc).map (fun d => d.parameters.length) = some 3 := by decide +kernel
theorem nh_Fo_init : y_Fo_init.cls ≠ "java/lang/invoke/MethodHandle" ∧ y_Fo_init.cls ≠ "java/lang/invoke/VarHandle" := by decide
theorem ln_Fo_init : (parseMethodDescriptor y_Fo_init.desc).map (fun d => d.parameters.length) = some 0 := by decide +kernel
theorem nh_Fo_restart : y_Fo_restart.cls ≠ "java/lang/invoke/MethodHandle" ∧ y_Fo_restart.cls ≠ "java/lang/invoke/VarHandle" := by decide
theorem ln_Fo_restart : (parseMethodDescriptor y_Fo_restart.desc).map (fun d => d.parameters.length) = some 1 := by decide +kernel
theorem nh_Fo_readBit : y_Fo_readBit.cls ≠ "java/lang/invoke/MethodHandle" ∧ y_Fo_readBit.cls ≠ "java/lang/invoke/VarHandle" := by decide
theorem ln_Fo_readBit : (parseMethodDescriptor y_Fo_readBit.desc).map (fun d => d.parameters.length) = some 1 := by decide +kernel
theorem nh_Fo_readTree : y_Fo_readTree.cls ≠ "java/lang/invoke/MethodHandle" ∧ y_Fo_readTree.cls ≠ "java/lang/invoke/VarHandle" := by decide
theorem ln_Fo_readTree : (parseMethodDescriptor y_Fo_readTree.desc).map (fun d => d.parameters.length) = some 2 := by decide +kernel
theorem nh_Fo_readRow : y_Fo_readRow.cls ≠ "java/lang/invoke/MethodHandle" ∧ y_Fo_readRow.cls ≠ "java/lang/invoke/VarHandle" := by decide
theorem ln_Fo_readRow : (parseMethodDescriptor y_Fo_readRow.desc).map (fun d => d.parameters.length) = some 2 := by decide +kernel
theorem nh_Fo_refuseWhatIsLeft : y_Fo_refuseWhatIsLeft.cls ≠ "java/lang/invoke/MethodHandle" ∧ y_Fo_refuseWhatIsLeft.cls ≠ "java/lang/invoke/VarHandle" := by decide
theorem ln_Fo_refuseWhatIsLeft : (parseMethodDescriptor y_Fo_refuseWhatIsLeft.desc).map (fun d => d.parameters.length) = some 0 := by decide +kernel
theorem nh_Fo_takeByte : y_Fo_takeByte.cls ≠ "java/lang/invoke/MethodHandle" ∧ y_Fo_takeByte.cls ≠ "java/lang/invoke/VarHandle" := by decide
theorem ln_Fo_takeByte : (parseMethodDescriptor y_Fo_takeByte.desc).map (fun d => d.parameters.length) = some 0 := by decide +kernel
theorem nh_Hi_init : y_Hi_init.cls ≠ "java/lang/invoke/MethodHandle" ∧ y_Hi_init.cls ≠ "java/lang/invoke/VarHandle" := by decide
theorem ln_Hi_init : (parseMethodDescriptor y_Hi_init.desc).map (fun d => d.parameters.length) = some 0 := by decide +kernel
theorem nh_Hi_restart : y_Hi_restart.cls ≠ "java/lang/invoke/MethodHandle" ∧ y_Hi_restart.cls ≠ "java/lang/invoke/VarHandle" := by decide
theorem ln_Hi_restart : (parseMethodDescriptor y_Hi_restart.desc).map (fun d => d.parameters.length) = some 0 := by decide +kernel
theorem nh_Hi_tell : y_Hi_tell.cls ≠ "java/lang/invoke/MethodHandle" ∧ y_Hi_tell.cls ≠ "java/lang/invoke/VarHandle" := by decide
theorem ln_Hi_tell : (parseMethodDescriptor y_Hi_tell.desc).map (fun d => d.parameters.length) = some 1 := by decide +kernel
theorem nh_Hi_byteBefore : y_Hi_byteBefore.cls ≠ "java/lang/invoke/MethodHandle" ∧ y_Hi_byteBefore.cls ≠ "java/lang/invoke/VarHandle" := by decide
theorem ln_Hi_byteBefore : (parseMethodDescriptor y_Hi_byteBefore.desc).map (fun d => d.parameters.length) = some 1 := by decide +kernel
theorem nh_Hi_isBehindACopy : y_Hi_isBehindACopy.cls ≠ "java/lang/invoke/MethodHandle" ∧ y_Hi_isBehindACopy.cls ≠ "java/lang/invoke/VarHandle" := by decide
theorem ln_Hi_isBehindACopy : (parseMethodDescriptor y_Hi_isBehindACopy.desc).map (fun d => d.parameters.length) = some 0 := by decide +kernel
theorem nh_Hi_placeOfLiterals : y_Hi_placeOfLiterals.cls ≠ "java/lang/invoke/MethodHandle" ∧ y_Hi_placeOfLiterals.cls ≠ "java/lang/invoke/VarHandle" := by decide
theorem ln_Hi_placeOfLiterals : (parseMethodDescriptor y_Hi_placeOfLiterals.desc).map (fun d => d.parameters.length) = some 0 := by decide +kernel
theorem nh_Hi_repeat : y_Hi_repeat.cls ≠ "java/lang/invoke/MethodHandle" ∧ y_Hi_repeat.cls ≠ "java/lang/invoke/VarHandle" := by decide
theorem ln_Hi_repeat : (parseMethodDescriptor y_Hi_repeat.desc).map (fun d => d.parameters.length) = some 2 := by decide +kernel
theorem nh_Hi_bringToFront : y_Hi_bringToFront.cls ≠ "java/lang/invoke/MethodHandle" ∧ y_Hi_bringToFront.cls ≠ "java/lang/invoke/VarHandle" := by decide
theorem ln_Hi_bringToFront : (parseMethodDescriptor y_Hi_bringToFront.desc).map (fun d => d.parameters.length) = some 2 := by decide +kernel
theorem nh_Hi_stateBehind : y_Hi_stateBehind.cls ≠ "java/lang/invoke/MethodHandle" ∧ y_Hi_stateBehind.cls ≠ "java/lang/invoke/VarHandle" := by decide
theorem ln_Hi_stateBehind : (parseMethodDescriptor y_Hi_stateBehind.desc).map (fun d => d.parameters.length) = some 1 := by decide +kernel
theorem nh_Hi_stateBehindLiteral : y_Hi_stateBehindLiteral.cls ≠ "java/lang/invoke/MethodHandle" ∧ y_Hi_stateBehindLiteral.cls ≠ "java/lang/invoke/VarHandle" := by decide
theorem ln_Hi_stateBehindLiteral : (parseMethodDescriptor y_Hi_stateBehindLiteral.desc).map (fun d => d.parameters.length) = some 0 := by decide +kernel
theorem nh_Na_init : y_Na_init.cls ≠ "java/lang/invoke/MethodHandle" ∧ y_Na_init.cls ≠ "java/lang/invoke/VarHandle" := by decide
theorem ln_Na_init : (parseMethodDescriptor y_Na_init.desc).map (fun d => d.parameters.length) = some 0 := by decide +kernel
theorem nh_Na_restart : y_Na_restart.cls ≠ "java/lang/invoke/MethodHandle" ∧ y_Na_restart.cls ≠ "java/lang/invoke/VarHandle" := by decide
theorem ln_Na_restart : (parseMethodDescriptor y_Na_restart.desc).map (fun d => d.parameters.length) = some 0 := by decide +kernel
theorem nh_Na_fits : y_Na_fits.cls ≠ "java/lang/invoke/MethodHandle" ∧ y_Na_fits.cls ≠ "java/lang/invoke/VarHandle" := by decide
theorem ln_Na_fits : (parseMethodDescriptor y_Na_fits.desc).map (fun d => d.parameters.length) = some 0 := by decide +kernel
theorem nh_Na_writeBit : y_Na_writeBit.cls ≠ "java/lang/invoke/MethodHandle" ∧ y_Na_writeBit.cls ≠ "java/lang/invoke/VarHandle" := by decide
theorem ln_Na_writeBit : (parseMethodDescriptor y_Na_writeBit.desc).map (fun d => d.parameters.length) = some 2 := by decide +kernel
theorem nh_Na_writeTree : y_Na_writeTree.cls ≠ "java/lang/invoke/MethodHandle" ∧ y_Na_writeTree.cls ≠ "java/lang/invoke/VarHandle" := by decide
theorem ln_Na_writeTree : (parseMethodDescriptor y_Na_writeTree.desc).map (fun d => d.parameters.length) = some 3 := by decide +kernel
theorem nh_Na_writeRow : y_Na_writeRow.cls ≠ "java/lang/invoke/MethodHandle" ∧ y_Na_writeRow.cls ≠ "java/lang/invoke/VarHandle" := by decide
theorem ln_Na_writeRow : (parseMethodDescriptor y_Na_writeRow.desc).map (fun d => d.parameters.length) = some 3 := by decide +kernel
theorem nh_Na_raiseLow : y_Na_raiseLow.cls ≠ "java/lang/invoke/MethodHandle" ∧ y_Na_raiseLow.cls ≠ "java/lang/invoke/VarHandle" := by decide
theorem ln_Na_raiseLow : (parseMethodDescriptor y_Na_raiseLow.desc).map (fun d => d.parameters.length) = some 1 := by decide +kernel
theorem nh_Pa_init : y_Pa_init.cls ≠ "java/lang/invoke/MethodHandle" ∧ y_Pa_init.cls ≠ "java/lang/invoke/VarHandle" := by decide
theorem ln_Pa_init : (parseMethodDescriptor y_Pa_init.desc).map (fun d => d.parameters.length) = some 0 := by decide +kernel
theorem nh_Pa_becomeLiteral : y_Pa_becomeLiteral.cls ≠ "java/lang/invoke/MethodHandle" ∧ y_Pa_becomeLiteral.cls ≠ "java/lang/invoke/VarHandle" := by decide
theorem ln_Pa_becomeLiteral : (parseMethodDescriptor y_Pa_becomeLiteral.desc).map (fun d => d.parameters.length) = some 1 := by decide +kernel
theorem nh_Pa_becomeMatch : y_Pa_becomeMatch.cls ≠ "java/lang/invoke/MethodHandle" ∧ y_Pa_becomeMatch.cls ≠ "java/lang/invoke/VarHandle" := by decide
theorem ln_Pa_becomeMatch : (parseMethodDescriptor y_Pa_becomeMatch.desc).map (fun d => d.parameters.length) = some 2 := by decide +kernel
theorem nh_Pa_becomeEcho : y_Pa_becomeEcho.cls ≠ "java/lang/invoke/MethodHandle" ∧ y_Pa_becomeEcho.cls ≠ "java/lang/invoke/VarHandle" := by decide
theorem ln_Pa_becomeEcho : (parseMethodDescriptor y_Pa_becomeEcho.desc).map (fun d => d.parameters.length) = some 3 := by decide +kernel
theorem nh_Pa_becomeShort : y_Pa_becomeShort.cls ≠ "java/lang/invoke/MethodHandle" ∧ y_Pa_becomeShort.cls ≠ "java/lang/invoke/VarHandle" := by decide
theorem ln_Pa_becomeShort : (parseMethodDescriptor y_Pa_becomeShort.desc).map (fun d => d.parameters.length) = some 1 := by decide +kernel
theorem nh_Pa_becomeEnd : y_Pa_becomeEnd.cls ≠ "java/lang/invoke/MethodHandle" ∧ y_Pa_becomeEnd.cls ≠ "java/lang/invoke/VarHandle" := by decide
theorem ln_Pa_becomeEnd : (parseMethodDescriptor y_Pa_becomeEnd.desc).map (fun d => d.parameters.length) = some 0 := by decide +kernel
theorem nh_Pa_become : y_Pa_become.cls ≠ "java/lang/invoke/MethodHandle" ∧ y_Pa_become.cls ≠ "java/lang/invoke/VarHandle" := by decide
theorem ln_Pa_become : (parseMethodDescriptor y_Pa_become.desc).map (fun d => d.parameters.length) = some 3 := by decide +kernel
theorem nh_Pl_init : y_Pl_init.cls ≠ "java/lang/invoke/MethodHandle" ∧ y_Pl_init.cls ≠ "java/lang/invoke/VarHandle" := by decide
theorem ln_Pl_init : (parseMethodDescriptor y_Pl_init.desc).map (fun d => d.parameters.length) = some 0 := by decide +kernel
theorem nh_Pl_clear : y_Pl_clear.cls ≠ "java/lang/invoke/MethodHandle" ∧ y_Pl_clear.cls ≠ "java/lang/invoke/VarHandle" := by decide
theorem ln_Pl_clear : (parseMethodDescriptor y_Pl_clear.desc).map (fun d => d.parameters.length) = some 0 := by decide +kernel
theorem nh_Pl_append : y_Pl_append.cls ≠ "java/lang/invoke/MethodHandle" ∧ y_Pl_append.cls ≠ "java/lang/invoke/VarHandle" := by decide
theorem ln_Pl_append : (parseMethodDescriptor y_Pl_append.desc).map (fun d => d.parameters.length) = some 1 := by decide +kernel
theorem nh_Pl_tellOf : y_Pl_tellOf.cls ≠ "java/lang/invoke/MethodHandle" ∧ y_Pl_tellOf.cls ≠ "java/lang/invoke/VarHandle" := by decide
theorem ln_Pl_tellOf : (parseMethodDescriptor y_Pl_tellOf.desc).map (fun d => d.parameters.length) = some 2 := by decide +kernel
theorem nh_Re_init : y_Re_init.cls ≠ "java/lang/invoke/MethodHandle" ∧ y_Re_init.cls ≠ "java/lang/invoke/VarHandle" := by decide
theorem ln_Re_init : (parseMethodDescriptor y_Re_init.desc).map (fun d => d.parameters.length) = some 0 := by decide +kernel
theorem nh_Re_readPacket : y_Re_readPacket.cls ≠ "java/lang/invoke/MethodHandle" ∧ y_Re_readPacket.cls ≠ "java/lang/invoke/VarHandle" := by decide
theorem ln_Re_readPacket : (parseMethodDescriptor y_Re_readPacket.desc).map (fun d => d.parameters.length) = some 2 := by decide +kernel
theorem nh_Re_readLiteral : y_Re_readLiteral.cls ≠ "java/lang/invoke/MethodHandle" ∧ y_Re_readLiteral.cls ≠ "java/lang/invoke/VarHandle" := by decide
theorem ln_Re_readLiteral : (parseMethodDescriptor y_Re_readLiteral.desc).map (fun d => d.parameters.length) = some 1 := by decide +kernel
theorem nh_Re_readMatchOrEnd : y_Re_readMatchOrEnd.cls ≠ "java/lang/invoke/MethodHandle" ∧ y_Re_readMatchOrEnd.cls ≠ "java/lang/invoke/VarHandle" := by decide
theorem ln_Re_readMatchOrEnd : (parseMethodDescriptor y_Re_readMatchOrEnd.desc).map (fun d => d.parameters.length) = some 1 := by decide +kernel
theorem nh_Re_readDistance : y_Re_readDistance.cls ≠ "java/lang/invoke/MethodHandle" ∧ y_Re_readDistance.cls ≠ "java/lang/invoke/VarHandle" := by decide
theorem ln_Re_readDistance : (parseMethodDescriptor y_Re_readDistance.desc).map (fun d => d.parameters.length) = some 1 := by decide +kernel
theorem nh_Re_readRepeat : y_Re_readRepeat.cls ≠ "java/lang/invoke/MethodHandle" ∧ y_Re_readRepeat.cls ≠ "java/lang/invoke/VarHandle" := by decide
theorem ln_Re_readRepeat : (parseMethodDescriptor y_Re_readRepeat.desc).map (fun d => d.parameters.length) = some 3 := by decide +kernel
theorem nh_Re_readLength : y_Re_readLength.cls ≠ "java/lang/invoke/MethodHandle" ∧ y_Re_readLength.cls ≠ "java/lang/invoke/VarHandle" := by decide
theorem ln_Re_readLength : (parseMethodDescriptor y_Re_readLength.desc).map (fun d => d.parameters.length) = some 1 := by decide +kernel
theorem nh_Wr_init : y_Wr_init.cls ≠ "java/lang/invoke/MethodHandle" ∧ y_Wr_init.cls ≠ "java/lang/invoke/VarHandle" := by decide
theorem ln_Wr_init : (parseMethodDescriptor y_Wr_init.desc).map (fun d => d.parameters.length) = some 0 := by decide +kernel
theorem nh_Wr_writePacket : y_Wr_writePacket.cls ≠ "java/lang/invoke/MethodHandle" ∧ y_Wr_writePacket.cls ≠ "java/lang/invoke/VarHandle" := by decide
theorem ln_Wr_writePacket : (parseMethodDescriptor y_Wr_writePacket.desc).map (fun d => d.parameters.length) = some 2 := by decide +kernel
theorem nh_Wr_writeLiteral : y_Wr_writeLiteral.cls ≠ "java/lang/invoke/MethodHandle" ∧ y_Wr_writeLiteral.cls ≠ "java/lang/invoke/VarHandle" := by decide
theorem ln_Wr_writeLiteral : (parseMethodDescriptor y_Wr_writeLiteral.desc).map (fun d => d.parameters.length) = some 2 := by decide +kernel
theorem nh_Wr_writeMatch : y_Wr_writeMatch.cls ≠ "java/lang/invoke/MethodHandle" ∧ y_Wr_writeMatch.cls ≠ "java/lang/invoke/VarHandle" := by decide
theorem ln_Wr_writeMatch : (parseMethodDescriptor y_Wr_writeMatch.desc).map (fun d => d.parameters.length) = some 1 := by decide +kernel
theorem nh_Wr_writeEnd : y_Wr_writeEnd.cls ≠ "java/lang/invoke/MethodHandle" ∧ y_Wr_writeEnd.cls ≠ "java/lang/invoke/VarHandle" := by decide
theorem ln_Wr_writeEnd : (parseMethodDescriptor y_Wr_writeEnd.desc).map (fun d => d.parameters.length) = some 0 := by decide +kernel
theorem nh_Wr_writeRepeat : y_Wr_writeRepeat.cls ≠ "java/lang/invoke/MethodHandle" ∧ y_Wr_writeRepeat.cls ≠ "java/lang/invoke/VarHandle" := by decide
theorem ln_Wr_writeRepeat : (parseMethodDescriptor y_Wr_writeRepeat.desc).map (fun d => d.parameters.length) = some 2 := by decide +kernel
theorem nh_Wr_writeLength : y_Wr_writeLength.cls ≠ "java/lang/invoke/MethodHandle" ∧ y_Wr_writeLength.cls ≠ "java/lang/invoke/VarHandle" := by decide
theorem ln_Wr_writeLength : (parseMethodDescriptor y_Wr_writeLength.desc).map (fun d => d.parameters.length) = some 2 := by decide +kernel
theorem nh_Wr_bitsBelowHighest : y_Wr_bitsBelowHighest.cls ≠ "java/lang/invoke/MethodHandle" ∧ y_Wr_bitsBelowHighest.cls ≠ "java/lang/invoke/VarHandle" := by decide
theorem ln_Wr_bitsBelowHighest : (parseMethodDescriptor y_Wr_bitsBelowHighest.desc).map (fun d => d.parameters.length) = some 1 := by decide +kernel
theorem nh_La_cell : y_La_cell.cls ≠ "java/lang/invoke/MethodHandle" ∧ y_La_cell.cls ≠ "java/lang/invoke/VarHandle" := by decide
theorem ln_La_cell : (parseMethodDescriptor y_La_cell.desc).map (fun d => d.parameters.length) = some 2 := by decide +kernel
theorem nh_La_pack : y_La_pack.cls ≠ "java/lang/invoke/MethodHandle" ∧ y_La_pack.cls ≠ "java/lang/invoke/VarHandle" := by decide
theorem ln_La_pack : (parseMethodDescriptor y_La_pack.desc).map (fun d => d.parameters.length) = some 2 := by decide +kernel
theorem nh_La_put : y_La_put.cls ≠ "java/lang/invoke/MethodHandle" ∧ y_La_put.cls ≠ "java/lang/invoke/VarHandle" := by decide
theorem ln_La_put : (parseMethodDescriptor y_La_put.desc).map (fun d => d.parameters.length) = some 4 := by decide +kernel
theorem nh_La_cut : y_La_cut.cls ≠ "java/lang/invoke/MethodHandle" ∧ y_La_cut.cls ≠ "java/lang/invoke/VarHandle" := by decide
theorem ln_La_cut : (parseMethodDescriptor y_La_cut.desc).map (fun d => d.parameters.length) = some 3 := by decide +kernel
theorem nh_La_unpack : y_La_unpack.cls ≠ "java/lang/invoke/MethodHandle" ∧ y_La_unpack.cls ≠ "java/lang/invoke/VarHandle" := by decide
theorem ln_La_unpack : (parseMethodDescriptor y_La_unpack.desc).map (fun d => d.parameters.length) = some 2 := by decide +kernel
theorem nh_La_law : y_La_law.cls ≠ "java/lang/invoke/MethodHandle" ∧ y_La_law.cls ≠ "java/lang/invoke/VarHandle" := by decide
theorem ln_La_law : (parseMethodDescriptor y_La_law.desc).map (fun d => d.parameters.length) = some 1 := by decide +kernel
theorem nh_Ar_fill : y_Ar_fill.cls ≠ "java/lang/invoke/MethodHandle" ∧ y_Ar_fill.cls ≠ "java/lang/invoke/VarHandle" := by decide
theorem ln_Ar_fill : (parseMethodDescriptor y_Ar_fill.desc).map (fun d => d.parameters.length) = some 2 := by decide +kernel
end
