-- ===== PART A: goes FIRST, ahead of the names: the tables' words, and 'selects' of the private methods out of them =====
/-- a private method of a class that the tables say can be made, by its rows of tables_1 -/
def lw_okq (q : MethodName × Nat) : Prop := (q.1.cls ≠ "java/lang/invoke/MethodHandle" ∧ q.1.cls ≠ "java/lang/invoke/VarHandle") ∧ Cond.instantiable q.1.cls q.2 ∈ tables_1 ∧ Cond.privateMethod q.1 ∈ tables_1 ∧ Cond.instanceMethod q.1 ∈ tables_1
theorem lw_p0 : lw_okq (⟨"RelayTransfer$Setup", "giveFirstValues", "()V"⟩, 9) := ⟨⟨by decide +kernel, by decide +kernel⟩, List.mem_of_getElem? (i := 27) (by decide +kernel), List.mem_of_getElem? (i := 44) (by decide +kernel), List.mem_of_getElem? (i := 45) (by decide +kernel)⟩
theorem lw_p1 : lw_okq (⟨"RelayTransfer", "remember", "()V"⟩, 6) := ⟨⟨by decide +kernel, by decide +kernel⟩, List.mem_of_getElem? (i := 13) (by decide +kernel), List.mem_of_getElem? (i := 247) (by decide +kernel), List.mem_of_getElem? (i := 248) (by decide +kernel)⟩
theorem lw_p2 : lw_okq (⟨"RelayTransfer", "dropOldestRecord", "()V"⟩, 6) := ⟨⟨by decide +kernel, by decide +kernel⟩, List.mem_of_getElem? (i := 13) (by decide +kernel), List.mem_of_getElem? (i := 251) (by decide +kernel), List.mem_of_getElem? (i := 252) (by decide +kernel)⟩
theorem lw_p3 : lw_okq (⟨"RelayTransfer", "isBlock", "(I)Z"⟩, 6) := ⟨⟨by decide +kernel, by decide +kernel⟩, List.mem_of_getElem? (i := 13) (by decide +kernel), List.mem_of_getElem? (i := 313) (by decide +kernel), List.mem_of_getElem? (i := 314) (by decide +kernel)⟩
theorem lw_p4 : lw_okq (⟨"RelayTransfer", "isLink", "(I)Z"⟩, 6) := ⟨⟨by decide +kernel, by decide +kernel⟩, List.mem_of_getElem? (i := 13) (by decide +kernel), List.mem_of_getElem? (i := 321) (by decide +kernel), List.mem_of_getElem? (i := 322) (by decide +kernel)⟩
theorem lw_p5 : lw_okq (⟨"RelayTransfer$Transfer", "make", "(I)I"⟩, 8) := ⟨⟨by decide +kernel, by decide +kernel⟩, List.mem_of_getElem? (i := 21) (by decide +kernel), List.mem_of_getElem? (i := 372) (by decide +kernel), List.mem_of_getElem? (i := 373) (by decide +kernel)⟩
theorem lw_p6 : lw_okq (⟨"RelayTransfer$Transfer", "recode", "(LRelayTransfer$PacketList;)I"⟩, 8) := ⟨⟨by decide +kernel, by decide +kernel⟩, List.mem_of_getElem? (i := 21) (by decide +kernel), List.mem_of_getElem? (i := 405) (by decide +kernel), List.mem_of_getElem? (i := 406) (by decide +kernel)⟩
theorem lw_p7 : lw_okq (⟨"RelayTransfer$Transfer", "forward", "(LRelayTransfer$PacketList;)I"⟩, 8) := ⟨⟨by decide +kernel, by decide +kernel⟩, List.mem_of_getElem? (i := 21) (by decide +kernel), List.mem_of_getElem? (i := 417) (by decide +kernel), List.mem_of_getElem? (i := 418) (by decide +kernel)⟩
theorem lw_p8 : lw_okq (⟨"RelayTransfer$Receiver", "peel", "(II)V"⟩, 8) := ⟨⟨by decide +kernel, by decide +kernel⟩, List.mem_of_getElem? (i := 93) (by decide +kernel), List.mem_of_getElem? (i := 434) (by decide +kernel), List.mem_of_getElem? (i := 435) (by decide +kernel)⟩
theorem lw_p9 : lw_okq (⟨"RelayTransfer$Receiver", "solve", "(I)V"⟩, 8) := ⟨⟨by decide +kernel, by decide +kernel⟩, List.mem_of_getElem? (i := 93) (by decide +kernel), List.mem_of_getElem? (i := 477) (by decide +kernel), List.mem_of_getElem? (i := 478) (by decide +kernel)⟩
theorem lw_p10 : lw_okq (⟨"RelayTransfer$Transfer", "store", "(LRelayTransfer$PacketList;I)V"⟩, 8) := ⟨⟨by decide +kernel, by decide +kernel⟩, List.mem_of_getElem? (i := 21) (by decide +kernel), List.mem_of_getElem? (i := 489) (by decide +kernel), List.mem_of_getElem? (i := 490) (by decide +kernel)⟩
theorem lw_p11 : lw_okq (⟨"RelayTransfer", "isBlockSet", "(I)Z"⟩, 6) := ⟨⟨by decide +kernel, by decide +kernel⟩, List.mem_of_getElem? (i := 13) (by decide +kernel), List.mem_of_getElem? (i := 513) (by decide +kernel), List.mem_of_getElem? (i := 514) (by decide +kernel)⟩
theorem lw_p12 : lw_okq (⟨"RelayTransfer", "ticksOfTrial", "(II)I"⟩, 6) := ⟨⟨by decide +kernel, by decide +kernel⟩, List.mem_of_getElem? (i := 13) (by decide +kernel), List.mem_of_getElem? (i := 574) (by decide +kernel), List.mem_of_getElem? (i := 575) (by decide +kernel)⟩
theorem lw_p13 : lw_okq (⟨"RelayTransferModel", "lay", "(II)V"⟩, 14) := ⟨⟨by decide +kernel, by decide +kernel⟩, List.mem_of_getElem? (i := 598) (by decide +kernel), List.mem_of_getElem? (i := 604) (by decide +kernel), List.mem_of_getElem? (i := 605) (by decide +kernel)⟩
theorem lw_p14 : lw_okq (⟨"RelayTransferModel", "remember", "()V"⟩, 14) := ⟨⟨by decide +kernel, by decide +kernel⟩, List.mem_of_getElem? (i := 598) (by decide +kernel), List.mem_of_getElem? (i := 658) (by decide +kernel), List.mem_of_getElem? (i := 659) (by decide +kernel)⟩
theorem lw_p15 : lw_okq (⟨"RelayTransferModel", "isBlock", "(I)Z"⟩, 14) := ⟨⟨by decide +kernel, by decide +kernel⟩, List.mem_of_getElem? (i := 598) (by decide +kernel), List.mem_of_getElem? (i := 666) (by decide +kernel), List.mem_of_getElem? (i := 667) (by decide +kernel)⟩
def lw_privs_1 : List (MethodName × Nat) := [(⟨"RelayTransfer$Setup", "giveFirstValues", "()V"⟩, 9), (⟨"RelayTransfer", "remember", "()V"⟩, 6), (⟨"RelayTransfer", "dropOldestRecord", "()V"⟩, 6), (⟨"RelayTransfer", "isBlock", "(I)Z"⟩, 6), (⟨"RelayTransfer", "isLink", "(I)Z"⟩, 6), (⟨"RelayTransfer$Transfer", "make", "(I)I"⟩, 8), (⟨"RelayTransfer$Transfer", "recode", "(LRelayTransfer$PacketList;)I"⟩, 8), (⟨"RelayTransfer$Transfer", "forward", "(LRelayTransfer$PacketList;)I"⟩, 8), (⟨"RelayTransfer$Receiver", "peel", "(II)V"⟩, 8), (⟨"RelayTransfer$Receiver", "solve", "(I)V"⟩, 8), (⟨"RelayTransfer$Transfer", "store", "(LRelayTransfer$PacketList;I)V"⟩, 8), (⟨"RelayTransfer", "isBlockSet", "(I)Z"⟩, 6), (⟨"RelayTransfer", "ticksOfTrial", "(II)I"⟩, 6), (⟨"RelayTransferModel", "lay", "(II)V"⟩, 14), (⟨"RelayTransferModel", "remember", "()V"⟩, 14), (⟨"RelayTransferModel", "isBlock", "(I)Z"⟩, 14)]
theorem lw_r1 : ∀ q ∈ lw_privs_1, lw_okq q := List.forall_mem_cons.mpr ⟨lw_p0, List.forall_mem_cons.mpr ⟨lw_p1, List.forall_mem_cons.mpr ⟨lw_p2, List.forall_mem_cons.mpr ⟨lw_p3, List.forall_mem_cons.mpr ⟨lw_p4, List.forall_mem_cons.mpr ⟨lw_p5, List.forall_mem_cons.mpr ⟨lw_p6, List.forall_mem_cons.mpr ⟨lw_p7, List.forall_mem_cons.mpr ⟨lw_p8, List.forall_mem_cons.mpr ⟨lw_p9, List.forall_mem_cons.mpr ⟨lw_p10, List.forall_mem_cons.mpr ⟨lw_p11, List.forall_mem_cons.mpr ⟨lw_p12, List.forall_mem_cons.mpr ⟨lw_p13, List.forall_mem_cons.mpr ⟨lw_p14, List.forall_mem_cons.mpr ⟨lw_p15, fun _ h => absurd h List.not_mem_nil⟩⟩⟩⟩⟩⟩⟩⟩⟩⟩⟩⟩⟩⟩⟩⟩
theorem lw_p16 : lw_okq (⟨"RelayTransferModel", "put", "(II)I"⟩, 14) := ⟨⟨by decide +kernel, by decide +kernel⟩, List.mem_of_getElem? (i := 598) (by decide +kernel), List.mem_of_getElem? (i := 670) (by decide +kernel), List.mem_of_getElem? (i := 671) (by decide +kernel)⟩
theorem lw_p17 : lw_okq (⟨"RelayTransferModel", "weights", "()I"⟩, 14) := ⟨⟨by decide +kernel, by decide +kernel⟩, List.mem_of_getElem? (i := 598) (by decide +kernel), List.mem_of_getElem? (i := 682) (by decide +kernel), List.mem_of_getElem? (i := 683) (by decide +kernel)⟩
theorem lw_p18 : lw_okq (⟨"RelayTransferModel", "drop", "(II)V"⟩, 14) := ⟨⟨by decide +kernel, by decide +kernel⟩, List.mem_of_getElem? (i := 598) (by decide +kernel), List.mem_of_getElem? (i := 693) (by decide +kernel), List.mem_of_getElem? (i := 694) (by decide +kernel)⟩
theorem lw_p19 : lw_okq (⟨"RelayTransferModel", "tick", "()V"⟩, 14) := ⟨⟨by decide +kernel, by decide +kernel⟩, List.mem_of_getElem? (i := 598) (by decide +kernel), List.mem_of_getElem? (i := 704) (by decide +kernel), List.mem_of_getElem? (i := 705) (by decide +kernel)⟩
theorem lw_p20 : lw_okq (⟨"RelayTransferModel", "makeAtSource", "()V"⟩, 14) := ⟨⟨by decide +kernel, by decide +kernel⟩, List.mem_of_getElem? (i := 598) (by decide +kernel), List.mem_of_getElem? (i := 708) (by decide +kernel), List.mem_of_getElem? (i := 709) (by decide +kernel)⟩
theorem lw_p21 : lw_okq (⟨"RelayTransferModel", "draw", "(I)I"⟩, 14) := ⟨⟨by decide +kernel, by decide +kernel⟩, List.mem_of_getElem? (i := 598) (by decide +kernel), List.mem_of_getElem? (i := 712) (by decide +kernel), List.mem_of_getElem? (i := 713) (by decide +kernel)⟩
theorem lw_p22 : lw_okq (⟨"RelayTransferModel", "valueOf", "(I)I"⟩, 14) := ⟨⟨by decide +kernel, by decide +kernel⟩, List.mem_of_getElem? (i := 598) (by decide +kernel), List.mem_of_getElem? (i := 720) (by decide +kernel), List.mem_of_getElem? (i := 721) (by decide +kernel)⟩
theorem lw_p23 : lw_okq (⟨"RelayTransferModel", "makeAtRelay", "(I)V"⟩, 14) := ⟨⟨by decide +kernel, by decide +kernel⟩, List.mem_of_getElem? (i := 598) (by decide +kernel), List.mem_of_getElem? (i := 724) (by decide +kernel), List.mem_of_getElem? (i := 725) (by decide +kernel)⟩
theorem lw_p24 : lw_okq (⟨"RelayTransferModel", "append", "(III)V"⟩, 14) := ⟨⟨by decide +kernel, by decide +kernel⟩, List.mem_of_getElem? (i := 598) (by decide +kernel), List.mem_of_getElem? (i := 728) (by decide +kernel), List.mem_of_getElem? (i := 729) (by decide +kernel)⟩
theorem lw_p25 : lw_okq (⟨"RelayTransferModel", "arriveAtRelay", "(III)V"⟩, 14) := ⟨⟨by decide +kernel, by decide +kernel⟩, List.mem_of_getElem? (i := 598) (by decide +kernel), List.mem_of_getElem? (i := 732) (by decide +kernel), List.mem_of_getElem? (i := 733) (by decide +kernel)⟩
theorem lw_p26 : lw_okq (⟨"RelayTransferModel", "isNovel", "(II)Z"⟩, 14) := ⟨⟨by decide +kernel, by decide +kernel⟩, List.mem_of_getElem? (i := 598) (by decide +kernel), List.mem_of_getElem? (i := 736) (by decide +kernel), List.mem_of_getElem? (i := 737) (by decide +kernel)⟩
theorem lw_p27 : lw_okq (⟨"RelayTransferModel", "layBase", "(I)I"⟩, 14) := ⟨⟨by decide +kernel, by decide +kernel⟩, List.mem_of_getElem? (i := 598) (by decide +kernel), List.mem_of_getElem? (i := 740) (by decide +kernel), List.mem_of_getElem? (i := 741) (by decide +kernel)⟩
theorem lw_p28 : lw_okq (⟨"RelayTransferModel", "reduce", "(II)V"⟩, 14) := ⟨⟨by decide +kernel, by decide +kernel⟩, List.mem_of_getElem? (i := 598) (by decide +kernel), List.mem_of_getElem? (i := 744) (by decide +kernel), List.mem_of_getElem? (i := 745) (by decide +kernel)⟩
theorem lw_p29 : lw_okq (⟨"RelayTransferModel", "highest", "(I)I"⟩, 14) := ⟨⟨by decide +kernel, by decide +kernel⟩, List.mem_of_getElem? (i := 598) (by decide +kernel), List.mem_of_getElem? (i := 748) (by decide +kernel), List.mem_of_getElem? (i := 749) (by decide +kernel)⟩
theorem lw_p30 : lw_okq (⟨"RelayTransferModel", "mostAlike", "(II)I"⟩, 14) := ⟨⟨by decide +kernel, by decide +kernel⟩, List.mem_of_getElem? (i := 598) (by decide +kernel), List.mem_of_getElem? (i := 752) (by decide +kernel), List.mem_of_getElem? (i := 753) (by decide +kernel)⟩
theorem lw_p31 : lw_okq (⟨"RelayTransferModel", "arriveAtReceiver", "(II)I"⟩, 14) := ⟨⟨by decide +kernel, by decide +kernel⟩, List.mem_of_getElem? (i := 598) (by decide +kernel), List.mem_of_getElem? (i := 759) (by decide +kernel), List.mem_of_getElem? (i := 760) (by decide +kernel)⟩
def lw_privs_2 : List (MethodName × Nat) := [(⟨"RelayTransferModel", "put", "(II)I"⟩, 14), (⟨"RelayTransferModel", "weights", "()I"⟩, 14), (⟨"RelayTransferModel", "drop", "(II)V"⟩, 14), (⟨"RelayTransferModel", "tick", "()V"⟩, 14), (⟨"RelayTransferModel", "makeAtSource", "()V"⟩, 14), (⟨"RelayTransferModel", "draw", "(I)I"⟩, 14), (⟨"RelayTransferModel", "valueOf", "(I)I"⟩, 14), (⟨"RelayTransferModel", "makeAtRelay", "(I)V"⟩, 14), (⟨"RelayTransferModel", "append", "(III)V"⟩, 14), (⟨"RelayTransferModel", "arriveAtRelay", "(III)V"⟩, 14), (⟨"RelayTransferModel", "isNovel", "(II)Z"⟩, 14), (⟨"RelayTransferModel", "layBase", "(I)I"⟩, 14), (⟨"RelayTransferModel", "reduce", "(II)V"⟩, 14), (⟨"RelayTransferModel", "highest", "(I)I"⟩, 14), (⟨"RelayTransferModel", "mostAlike", "(II)I"⟩, 14), (⟨"RelayTransferModel", "arriveAtReceiver", "(II)I"⟩, 14)]
theorem lw_r2 : ∀ q ∈ lw_privs_2, lw_okq q := List.forall_mem_cons.mpr ⟨lw_p16, List.forall_mem_cons.mpr ⟨lw_p17, List.forall_mem_cons.mpr ⟨lw_p18, List.forall_mem_cons.mpr ⟨lw_p19, List.forall_mem_cons.mpr ⟨lw_p20, List.forall_mem_cons.mpr ⟨lw_p21, List.forall_mem_cons.mpr ⟨lw_p22, List.forall_mem_cons.mpr ⟨lw_p23, List.forall_mem_cons.mpr ⟨lw_p24, List.forall_mem_cons.mpr ⟨lw_p25, List.forall_mem_cons.mpr ⟨lw_p26, List.forall_mem_cons.mpr ⟨lw_p27, List.forall_mem_cons.mpr ⟨lw_p28, List.forall_mem_cons.mpr ⟨lw_p29, List.forall_mem_cons.mpr ⟨lw_p30, List.forall_mem_cons.mpr ⟨lw_p31, fun _ h => absurd h List.not_mem_nil⟩⟩⟩⟩⟩⟩⟩⟩⟩⟩⟩⟩⟩⟩⟩⟩
theorem lw_p32 : lw_okq (⟨"RelayTransferModel", "peel", "(II)V"⟩, 14) := ⟨⟨by decide +kernel, by decide +kernel⟩, List.mem_of_getElem? (i := 598) (by decide +kernel), List.mem_of_getElem? (i := 763) (by decide +kernel), List.mem_of_getElem? (i := 764) (by decide +kernel)⟩
theorem lw_p33 : lw_okq (⟨"RelayTransferModel", "learn", "(II)V"⟩, 14) := ⟨⟨by decide +kernel, by decide +kernel⟩, List.mem_of_getElem? (i := 598) (by decide +kernel), List.mem_of_getElem? (i := 770) (by decide +kernel), List.mem_of_getElem? (i := 771) (by decide +kernel)⟩
theorem lw_p34 : lw_okq (⟨"RelayTransferModel", "firstAlone", "()I"⟩, 14) := ⟨⟨by decide +kernel, by decide +kernel⟩, List.mem_of_getElem? (i := 598) (by decide +kernel), List.mem_of_getElem? (i := 774) (by decide +kernel), List.mem_of_getElem? (i := 775) (by decide +kernel)⟩
theorem lw_p35 : lw_okq (⟨"RelayTransferModel", "solved", "(I)I"⟩, 14) := ⟨⟨by decide +kernel, by decide +kernel⟩, List.mem_of_getElem? (i := 598) (by decide +kernel), List.mem_of_getElem? (i := 778) (by decide +kernel), List.mem_of_getElem? (i := 779) (by decide +kernel)⟩
theorem lw_p36 : lw_okq (⟨"RelayTransferModel", "note", "()V"⟩, 14) := ⟨⟨by decide +kernel, by decide +kernel⟩, List.mem_of_getElem? (i := 598) (by decide +kernel), List.mem_of_getElem? (i := 782) (by decide +kernel), List.mem_of_getElem? (i := 783) (by decide +kernel)⟩
theorem lw_p37 : lw_okq (⟨"RelayTransferModel", "isSet", "(I)Z"⟩, 14) := ⟨⟨by decide +kernel, by decide +kernel⟩, List.mem_of_getElem? (i := 598) (by decide +kernel), List.mem_of_getElem? (i := 790) (by decide +kernel), List.mem_of_getElem? (i := 791) (by decide +kernel)⟩
theorem lw_p38 : lw_okq (⟨"RelayTransferModel", "known", "()I"⟩, 14) := ⟨⟨by decide +kernel, by decide +kernel⟩, List.mem_of_getElem? (i := 598) (by decide +kernel), List.mem_of_getElem? (i := 802) (by decide +kernel), List.mem_of_getElem? (i := 803) (by decide +kernel)⟩
theorem lw_p39 : lw_okq (⟨"RelayTransferModel", "solvedBlocks", "()I"⟩, 14) := ⟨⟨by decide +kernel, by decide +kernel⟩, List.mem_of_getElem? (i := 598) (by decide +kernel), List.mem_of_getElem? (i := 806) (by decide +kernel), List.mem_of_getElem? (i := 807) (by decide +kernel)⟩
theorem lw_p40 : lw_okq (⟨"RelayTransferModel", "hasList", "(I)Z"⟩, 14) := ⟨⟨by decide +kernel, by decide +kernel⟩, List.mem_of_getElem? (i := 598) (by decide +kernel), List.mem_of_getElem? (i := 818) (by decide +kernel), List.mem_of_getElem? (i := 819) (by decide +kernel)⟩
theorem lw_p41 : lw_okq (⟨"RelayTransferModel", "listOf", "(I)I"⟩, 14) := ⟨⟨by decide +kernel, by decide +kernel⟩, List.mem_of_getElem? (i := 598) (by decide +kernel), List.mem_of_getElem? (i := 822) (by decide +kernel), List.mem_of_getElem? (i := 823) (by decide +kernel)⟩
theorem lw_p42 : lw_okq (⟨"RelayTransferModel", "part", "(III)I"⟩, 14) := ⟨⟨by decide +kernel, by decide +kernel⟩, List.mem_of_getElem? (i := 598) (by decide +kernel), List.mem_of_getElem? (i := 826) (by decide +kernel), List.mem_of_getElem? (i := 827) (by decide +kernel)⟩
theorem lw_p43 : lw_okq (⟨"RelayTransferModel", "hold", "()V"⟩, 14) := ⟨⟨by decide +kernel, by decide +kernel⟩, List.mem_of_getElem? (i := 598) (by decide +kernel), List.mem_of_getElem? (i := 850) (by decide +kernel), List.mem_of_getElem? (i := 851) (by decide +kernel)⟩
theorem lw_p44 : lw_okq (⟨"RelayTransferModel", "ticksTo", "(II)I"⟩, 14) := ⟨⟨by decide +kernel, by decide +kernel⟩, List.mem_of_getElem? (i := 598) (by decide +kernel), List.mem_of_getElem? (i := 854) (by decide +kernel), List.mem_of_getElem? (i := 855) (by decide +kernel)⟩
theorem lw_p45 : lw_okq (⟨"RelayTransferModel", "isWhole", "(I)Z"⟩, 14) := ⟨⟨by decide +kernel, by decide +kernel⟩, List.mem_of_getElem? (i := 598) (by decide +kernel), List.mem_of_getElem? (i := 858) (by decide +kernel), List.mem_of_getElem? (i := 859) (by decide +kernel)⟩
theorem lw_p46 : lw_okq (⟨"RelayTransferModel", "release", "()V"⟩, 14) := ⟨⟨by decide +kernel, by decide +kernel⟩, List.mem_of_getElem? (i := 598) (by decide +kernel), List.mem_of_getElem? (i := 862) (by decide +kernel), List.mem_of_getElem? (i := 863) (by decide +kernel)⟩
def lw_privs_3 : List (MethodName × Nat) := [(⟨"RelayTransferModel", "peel", "(II)V"⟩, 14), (⟨"RelayTransferModel", "learn", "(II)V"⟩, 14), (⟨"RelayTransferModel", "firstAlone", "()I"⟩, 14), (⟨"RelayTransferModel", "solved", "(I)I"⟩, 14), (⟨"RelayTransferModel", "note", "()V"⟩, 14), (⟨"RelayTransferModel", "isSet", "(I)Z"⟩, 14), (⟨"RelayTransferModel", "known", "()I"⟩, 14), (⟨"RelayTransferModel", "solvedBlocks", "()I"⟩, 14), (⟨"RelayTransferModel", "hasList", "(I)Z"⟩, 14), (⟨"RelayTransferModel", "listOf", "(I)I"⟩, 14), (⟨"RelayTransferModel", "part", "(III)I"⟩, 14), (⟨"RelayTransferModel", "hold", "()V"⟩, 14), (⟨"RelayTransferModel", "ticksTo", "(II)I"⟩, 14), (⟨"RelayTransferModel", "isWhole", "(I)Z"⟩, 14), (⟨"RelayTransferModel", "release", "()V"⟩, 14)]
theorem lw_r3 : ∀ q ∈ lw_privs_3, lw_okq q := List.forall_mem_cons.mpr ⟨lw_p32, List.forall_mem_cons.mpr ⟨lw_p33, List.forall_mem_cons.mpr ⟨lw_p34, List.forall_mem_cons.mpr ⟨lw_p35, List.forall_mem_cons.mpr ⟨lw_p36, List.forall_mem_cons.mpr ⟨lw_p37, List.forall_mem_cons.mpr ⟨lw_p38, List.forall_mem_cons.mpr ⟨lw_p39, List.forall_mem_cons.mpr ⟨lw_p40, List.forall_mem_cons.mpr ⟨lw_p41, List.forall_mem_cons.mpr ⟨lw_p42, List.forall_mem_cons.mpr ⟨lw_p43, List.forall_mem_cons.mpr ⟨lw_p44, List.forall_mem_cons.mpr ⟨lw_p45, List.forall_mem_cons.mpr ⟨lw_p46, fun _ h => absurd h List.not_mem_nil⟩⟩⟩⟩⟩⟩⟩⟩⟩⟩⟩⟩⟩⟩⟩
def lw_privs : List (MethodName × Nat) := lw_privs_1 ++ (lw_privs_2 ++ (lw_privs_3))
def lw_tbl : List Cond := k2_sels lw_privs ++ tables_1
theorem lw_privs_ok : ∀ q ∈ lw_privs, lw_okq q := by
  show ∀ q ∈ lw_privs_1 ++ (lw_privs_2 ++ (lw_privs_3)), lw_okq q
  exact List.forall_mem_append.mpr ⟨lw_r1, List.forall_mem_append.mpr ⟨lw_r2, lw_r3⟩⟩
/-- the streams that the claim lets the run draw from -/
abbrev lw_cs : List Choice := [Jvm.Choice.named "NaN.bits"]
theorem lw_bits : nanBits ∈ lw_cs := by first | decide | exact List.mem_cons_self | simp [lw_cs, nanBits]

def RX0 : String := "RelayTransfer$Findings"
def TX0 : u_T := fun k => match k with
  | 0 => ("RelayTransfer$Findings", "singles", "[I", true)
  | 1 => ("RelayTransfer$Findings", "times", "[I", true)
  | _ => ("RelayTransfer$Findings", "count", "I", false)
def tyX0 : Nat → FieldType := fun k => match k with
  | 0 => .array .int
  | 1 => .array .int
  | _ => .int
abbrev wsX00 : List Cond := u_ws RX0 TX0 3
theorem nmX0 : ∀ a, a < 3 → ∀ b, b < 3 → a ≠ b → (TX0 a).2.1 ≠ (TX0 b).2.1 := by decide +kernel
theorem tyX0_ok : ∀ k, k < 3 → parseFieldDescriptor (TX0 k).2.2.1 = some (tyX0 k) := by decide +kernel
abbrev cX0_init : ByteArray := prog_2_method_1_code
def yX0_init : MethodName := ⟨RX0, "<init>", "()V"⟩
abbrev cX0_has : ByteArray := prog_2_method_2_code
def yX0_has : MethodName := ⟨RX0, "has", "(I)Z"⟩
abbrev cX0_add : ByteArray := prog_2_method_3_code
def yX0_add : MethodName := ⟨RX0, "add", "(II)V"⟩
abbrev cX0_valueAt : ByteArray := prog_2_method_4_code
def yX0_valueAt : MethodName := ⟨RX0, "valueAt", "(I)I"⟩
abbrev cX0_takenOutOf : ByteArray := prog_2_method_5_code
def yX0_takenOutOf : MethodName := ⟨RX0, "takenOutOf", "(I)I"⟩
abbrev cX0_clear : ByteArray := prog_2_method_6_code
def yX0_clear : MethodName := ⟨RX0, "clear", "()V"⟩
abbrev cX0_copyFrom : ByteArray := prog_2_method_7_code
def yX0_copyFrom : MethodName := ⟨RX0, "copyFrom", "(LRelayTransfer$Findings;)V"⟩
def RX1 : String := "RelayTransfer$PacketList"
def TX1 : u_T := fun k => match k with
  | 0 => ("RelayTransfer$PacketList", "packets", "[I", true)
  | _ => ("RelayTransfer$PacketList", "size", "I", false)
def tyX1 : Nat → FieldType := fun k => match k with
  | 0 => .array .int
  | _ => .int
abbrev wsX10 : List Cond := u_ws RX1 TX1 2
theorem nmX1 : ∀ a, a < 2 → ∀ b, b < 2 → a ≠ b → (TX1 a).2.1 ≠ (TX1 b).2.1 := by decide +kernel
theorem tyX1_ok : ∀ k, k < 2 → parseFieldDescriptor (TX1 k).2.2.1 = some (tyX1 k) := by decide +kernel
abbrev cX1_init : ByteArray := prog_3_method_1_code
def yX1_init : MethodName := ⟨RX1, "<init>", "(I)V"⟩
abbrev cX1_at : ByteArray := prog_3_method_2_code
def yX1_at : MethodName := ⟨RX1, "at", "(I)I"⟩
abbrev cX1_append : ByteArray := prog_3_method_3_code
def yX1_append : MethodName := ⟨RX1, "append", "(I)V"⟩
abbrev cX1_removeAt : ByteArray := prog_3_method_4_code
def yX1_removeAt : MethodName := ⟨RX1, "removeAt", "(I)I"⟩
abbrev cX1_removeFrontsBeyond : ByteArray := prog_3_method_5_code
def yX1_removeFrontsBeyond : MethodName := ⟨RX1, "removeFrontsBeyond", "(I)V"⟩
abbrev cX1_takeOut : ByteArray := prog_3_method_6_code
def yX1_takeOut : MethodName := ⟨RX1, "takeOut", "(I)V"⟩
abbrev cX1_removeFirstSingle : ByteArray := prog_3_method_7_code
def yX1_removeFirstSingle : MethodName := ⟨RX1, "removeFirstSingle", "()I"⟩
abbrev cX1_placeOfMostCommon : ByteArray := prog_3_method_8_code
def yX1_placeOfMostCommon : MethodName := ⟨RX1, "placeOfMostCommon", "(I)I"⟩
abbrev cX1_clear : ByteArray := prog_3_method_9_code
def yX1_clear : MethodName := ⟨RX1, "clear", "()V"⟩
abbrev cX1_copyFrom : ByteArray := prog_3_method_10_code
def yX1_copyFrom : MethodName := ⟨RX1, "copyFrom", "(LRelayTransfer$PacketList;)V"⟩
def RX2 : String := "RelayTransfer$Receiver"
def TX2 : u_T := fun k => match k with
  | 0 => ("RelayTransfer$Receiver", "kept", "LRelayTransfer$PacketList;", true)
  | 1 => ("RelayTransfer$Receiver", "span", "LRelayTransfer$Span;", true)
  | 2 => ("RelayTransfer$Receiver", "solved", "LRelayTransfer$Findings;", true)
  | 3 => ("RelayTransfer$Receiver", "waiting", "LRelayTransfer$PacketList;", true)
  | 4 => ("RelayTransfer$Receiver", "peeled", "LRelayTransfer$Findings;", true)
  | 5 => ("RelayTransfer$Receiver", "arrived", "I", false)
  | 6 => ("RelayTransfer$Receiver", "stale", "I", false)
  | _ => ("RelayTransfer$Receiver", "mostWaiting", "I", false)
def tyX2 : Nat → FieldType := fun k => match k with
  | 0 => .object "RelayTransfer$PacketList"
  | 1 => .object "RelayTransfer$Span"
  | 2 => .object "RelayTransfer$Findings"
  | 3 => .object "RelayTransfer$PacketList"
  | 4 => .object "RelayTransfer$Findings"
  | 5 => .int
  | 6 => .int
  | _ => .int
abbrev wsX20 : List Cond := u_ws RX2 TX2 8
theorem nmX2 : ∀ a, a < 8 → ∀ b, b < 8 → a ≠ b → (TX2 a).2.1 ≠ (TX2 b).2.1 := by decide +kernel
theorem tyX2_ok : ∀ k, k < 8 → parseFieldDescriptor (TX2 k).2.2.1 = some (tyX2 k) := by decide +kernel
abbrev cX2_init : ByteArray := prog_4_method_1_code
def yX2_init : MethodName := ⟨RX2, "<init>", "()V"⟩
abbrev cX2_accept : ByteArray := prog_4_method_2_code
def yX2_accept : MethodName := ⟨RX2, "accept", "(II)Z"⟩
abbrev cX2_peel : ByteArray := prog_4_method_3_code
def yX2_peel : MethodName := ⟨RX2, "peel", "(II)V"⟩
abbrev cX2_solve : ByteArray := prog_4_method_4_code
def yX2_solve : MethodName := ⟨RX2, "solve", "(I)V"⟩
abbrev cX2_clear : ByteArray := prog_4_method_5_code
def yX2_clear : MethodName := ⟨RX2, "clear", "()V"⟩
abbrev cX2_copyFrom : ByteArray := prog_4_method_6_code
def yX2_copyFrom : MethodName := ⟨RX2, "copyFrom", "(LRelayTransfer$Receiver;)V"⟩
def RX3 : String := "RelayTransfer$Setup"
def TX3 : u_T := fun k => match k with
  | 0 => ("RelayTransfer$Setup", "values", "[I", true)
  | 1 => ("RelayTransfer$Setup", "losses", "[I", true)
  | 2 => ("RelayTransfer$Setup", "weights", "[I", true)
  | 3 => ("RelayTransfer$Setup", "blocks", "I", false)
  | 4 => ("RelayTransfer$Setup", "relays", "I", false)
  | 5 => ("RelayTransfer$Setup", "room", "I", false)
  | 6 => ("RelayTransfer$Setup", "policy", "I", false)
  | 7 => ("RelayTransfer$Setup", "style", "I", false)
  | _ => ("RelayTransfer$Setup", "seed", "I", false)
def tyX3 : Nat → FieldType := fun k => match k with
  | 0 => .array .int
  | 1 => .array .int
  | 2 => .array .int
  | 3 => .int
  | 4 => .int
  | 5 => .int
  | 6 => .int
  | 7 => .int
  | _ => .int
abbrev wsX30 : List Cond := u_ws RX3 TX3 9
theorem nmX3 : ∀ a, a < 9 → ∀ b, b < 9 → a ≠ b → (TX3 a).2.1 ≠ (TX3 b).2.1 := by decide +kernel
theorem tyX3_ok : ∀ k, k < 9 → parseFieldDescriptor (TX3 k).2.2.1 = some (tyX3 k) := by decide +kernel
abbrev cX3_init : ByteArray := prog_5_method_1_code
def yX3_init : MethodName := ⟨RX3, "<init>", "()V"⟩
abbrev cX3_giveFirstValues : ByteArray := prog_5_method_2_code
def yX3_giveFirstValues : MethodName := ⟨RX3, "giveFirstValues", "()V"⟩
abbrev cX3_restart : ByteArray := prog_5_method_3_code
def yX3_restart : MethodName := ⟨RX3, "restart", "(II)V"⟩
abbrev cX3_changePolicy : ByteArray := prog_5_method_4_code
def yX3_changePolicy : MethodName := ⟨RX3, "changePolicy", "(I)I"⟩
abbrev cX3_changeStyle : ByteArray := prog_5_method_5_code
def yX3_changeStyle : MethodName := ⟨RX3, "changeStyle", "(I)I"⟩
abbrev cX3_changeSeed : ByteArray := prog_5_method_6_code
def yX3_changeSeed : MethodName := ⟨RX3, "changeSeed", "(I)I"⟩
abbrev cX3_draw : ByteArray := prog_5_method_7_code
def yX3_draw : MethodName := ⟨RX3, "draw", "(I)I"⟩
abbrev cX3_isLostOn : ByteArray := prog_5_method_8_code
def yX3_isLostOn : MethodName := ⟨RX3, "isLostOn", "(I)Z"⟩
abbrev cX3_weightSum : ByteArray := prog_5_method_9_code
def yX3_weightSum : MethodName := ⟨RX3, "weightSum", "()I"⟩
abbrev cX3_drawDegree : ByteArray := prog_5_method_10_code
def yX3_drawDegree : MethodName := ⟨RX3, "drawDegree", "()I"⟩
abbrev cX3_drawPacket : ByteArray := prog_5_method_11_code
def yX3_drawPacket : MethodName := ⟨RX3, "drawPacket", "()I"⟩
abbrev cX3_packetOf : ByteArray := prog_5_method_12_code
def yX3_packetOf : MethodName := ⟨RX3, "packetOf", "(I)I"⟩
abbrev cX3_copyFrom : ByteArray := prog_5_method_13_code
def yX3_copyFrom : MethodName := ⟨RX3, "copyFrom", "(LRelayTransfer$Setup;)V"⟩
def RX4 : String := "RelayTransfer$Span"
def TX4 : u_T := fun k => match k with
  | 0 => ("RelayTransfer$Span", "rows", "[I", true)
  | _ => ("RelayTransfer$Span", "rank", "I", false)
def tyX4 : Nat → FieldType := fun k => match k with
  | 0 => .array .int
  | _ => .int
abbrev wsX40 : List Cond := u_ws RX4 TX4 2
theorem nmX4 : ∀ a, a < 2 → ∀ b, b < 2 → a ≠ b → (TX4 a).2.1 ≠ (TX4 b).2.1 := by decide +kernel
theorem tyX4_ok : ∀ k, k < 2 → parseFieldDescriptor (TX4 k).2.2.1 = some (tyX4 k) := by decide +kernel
abbrev cX4_init : ByteArray := prog_6_method_1_code
def yX4_init : MethodName := ⟨RX4, "<init>", "()V"⟩
abbrev cX4_take : ByteArray := prog_6_method_2_code
def yX4_take : MethodName := ⟨RX4, "take", "(I)Z"⟩
abbrev cX4_reduce : ByteArray := prog_6_method_3_code
def yX4_reduce : MethodName := ⟨RX4, "reduce", "(I)I"⟩
abbrev cX4_clear : ByteArray := prog_6_method_4_code
def yX4_clear : MethodName := ⟨RX4, "clear", "()V"⟩
abbrev cX4_copyFrom : ByteArray := prog_6_method_5_code
def yX4_copyFrom : MethodName := ⟨RX4, "copyFrom", "(LRelayTransfer$Span;)V"⟩
def RX5 : String := "RelayTransfer$Transfer"
def TX5 : u_T := fun k => match k with
  | 0 => ("RelayTransfer$Transfer", "setup", "LRelayTransfer$Setup;", true)
  | 1 => ("RelayTransfer$Transfer", "stores", "[LRelayTransfer$PacketList;", true)
  | 2 => ("RelayTransfer$Transfer", "receiver", "LRelayTransfer$Receiver;", true)
  | 3 => ("RelayTransfer$Transfer", "time", "I", false)
  | 4 => ("RelayTransfer$Transfer", "made", "I", false)
  | 5 => ("RelayTransfer$Transfer", "lost", "I", false)
  | 6 => ("RelayTransfer$Transfer", "onLinks", "[I", true)
  | _ => ("RelayTransfer$Transfer", "work", "LRelayTransfer$Span;", true)
def tyX5 : Nat → FieldType := fun k => match k with
  | 0 => .object "RelayTransfer$Setup"
  | 1 => .array (.object "RelayTransfer$PacketList")
  | 2 => .object "RelayTransfer$Receiver"
  | 3 => .int
  | 4 => .int
  | 5 => .int
  | 6 => .array .int
  | _ => .object "RelayTransfer$Span"
abbrev wsX50 : List Cond := u_ws RX5 TX5 8
theorem nmX5 : ∀ a, a < 8 → ∀ b, b < 8 → a ≠ b → (TX5 a).2.1 ≠ (TX5 b).2.1 := by decide +kernel
theorem tyX5_ok : ∀ k, k < 8 → parseFieldDescriptor (TX5 k).2.2.1 = some (tyX5 k) := by decide +kernel
abbrev cX5_init : ByteArray := prog_7_method_1_code
def yX5_init : MethodName := ⟨RX5, "<init>", "()V"⟩
abbrev cX5_restart : ByteArray := prog_7_method_2_code
def yX5_restart : MethodName := ⟨RX5, "restart", "(II)V"⟩
abbrev cX5_changeRoom : ByteArray := prog_7_method_3_code
def yX5_changeRoom : MethodName := ⟨RX5, "changeRoom", "(I)I"⟩
abbrev cX5_isComplete : ByteArray := prog_7_method_4_code
def yX5_isComplete : MethodName := ⟨RX5, "isComplete", "(I)Z"⟩
abbrev cX5_listOf : ByteArray := prog_7_method_5_code
def yX5_listOf : MethodName := ⟨RX5, "listOf", "(I)LRelayTransfer$PacketList;"⟩
abbrev cX5_rankOf : ByteArray := prog_7_method_6_code
def yX5_rankOf : MethodName := ⟨RX5, "rankOf", "(LRelayTransfer$PacketList;)I"⟩
abbrev cX5_isNovelFor : ByteArray := prog_7_method_7_code
def yX5_isNovelFor : MethodName := ⟨RX5, "isNovelFor", "(LRelayTransfer$PacketList;I)Z"⟩
abbrev cX5_tick : ByteArray := prog_7_method_8_code
def yX5_tick : MethodName := ⟨RX5, "tick", "()V"⟩
abbrev cX5_make : ByteArray := prog_7_method_9_code
def yX5_make : MethodName := ⟨RX5, "make", "(I)I"⟩
abbrev cX5_forward : ByteArray := prog_7_method_10_code
def yX5_forward : MethodName := ⟨RX5, "forward", "(LRelayTransfer$PacketList;)I"⟩
abbrev cX5_recode : ByteArray := prog_7_method_11_code
def yX5_recode : MethodName := ⟨RX5, "recode", "(LRelayTransfer$PacketList;)I"⟩
abbrev cX5_store : ByteArray := prog_7_method_12_code
def yX5_store : MethodName := ⟨RX5, "store", "(LRelayTransfer$PacketList;I)V"⟩
abbrev cX5_copyFrom : ByteArray := prog_7_method_13_code
def yX5_copyFrom : MethodName := ⟨RX5, "copyFrom", "(LRelayTransfer$Transfer;)V"⟩
def RX6 : String := "RelayTransfer"
def TX6 : u_T := fun k => match k with
  | 0 => ("RelayTransfer", "now", "LRelayTransfer$Transfer;", true)
  | 1 => ("RelayTransfer", "trial", "LRelayTransfer$Transfer;", true)
  | 2 => ("RelayTransfer", "history", "[LRelayTransfer$Transfer;", true)
  | 3 => ("RelayTransfer", "images", "[LRelayTransfer$Transfer;", true)
  | 4 => ("RelayTransfer", "filled", "[Z", true)
  | _ => ("RelayTransfer", "recorded", "I", false)
def tyX6 : Nat → FieldType := fun k => match k with
  | 0 => .object "RelayTransfer$Transfer"
  | 1 => .object "RelayTransfer$Transfer"
  | 2 => .array (.object "RelayTransfer$Transfer")
  | 3 => .array (.object "RelayTransfer$Transfer")
  | 4 => .array .boolean
  | _ => .int
abbrev wsX60 : List Cond := u_ws RX6 TX6 6
theorem nmX6 : ∀ a, a < 6 → ∀ b, b < 6 → a ≠ b → (TX6 a).2.1 ≠ (TX6 b).2.1 := by decide +kernel
theorem tyX6_ok : ∀ k, k < 6 → parseFieldDescriptor (TX6 k).2.2.1 = some (tyX6 k) := by decide +kernel
abbrev cX6_init : ByteArray := prog_1_method_1_code
def yX6_init : MethodName := ⟨RX6, "<init>", "()V"⟩
abbrev cX6_begin : ByteArray := prog_1_method_2_code
def yX6_begin : MethodName := ⟨RX6, "begin", "(II)I"⟩
abbrev cX6_setBlock : ByteArray := prog_1_method_3_code
def yX6_setBlock : MethodName := ⟨RX6, "setBlock", "(II)I"⟩
abbrev cX6_setLoss : ByteArray := prog_1_method_4_code
def yX6_setLoss : MethodName := ⟨RX6, "setLoss", "(II)I"⟩
abbrev cX6_setWeight : ByteArray := prog_1_method_5_code
def yX6_setWeight : MethodName := ⟨RX6, "setWeight", "(II)I"⟩
abbrev cX6_set : ByteArray := prog_1_method_6_code
def yX6_set : MethodName := ⟨RX6, "set", "(II)I"⟩
abbrev cX6_run : ByteArray := prog_1_method_7_code
def yX6_run : MethodName := ⟨RX6, "run", "(I)I"⟩
abbrev cX6_inject : ByteArray := prog_1_method_8_code
def yX6_inject : MethodName := ⟨RX6, "inject", "(I)I"⟩
abbrev cX6_undo : ByteArray := prog_1_method_9_code
def yX6_undo : MethodName := ⟨RX6, "undo", "()I"⟩
abbrev cX6_told : ByteArray := prog_1_method_10_code
def yX6_told : MethodName := ⟨RX6, "told", "(I)I"⟩
abbrev cX6_block : ByteArray := prog_1_method_11_code
def yX6_block : MethodName := ⟨RX6, "block", "(II)I"⟩
abbrev cX6_packet : ByteArray := prog_1_method_12_code
def yX6_packet : MethodName := ⟨RX6, "packet", "(III)I"⟩
abbrev cX6_waiting : ByteArray := prog_1_method_13_code
def yX6_waiting : MethodName := ⟨RX6, "waiting", "(II)I"⟩
abbrev cX6_node : ByteArray := prog_1_method_14_code
def yX6_node : MethodName := ⟨RX6, "node", "(II)I"⟩
abbrev cX6_novel : ByteArray := prog_1_method_15_code
def yX6_novel : MethodName := ⟨RX6, "novel", "(II)I"⟩
abbrev cX6_overhead : ByteArray := prog_1_method_16_code
def yX6_overhead : MethodName := ⟨RX6, "overhead", "()F"⟩
abbrev cX6_forecast : ByteArray := prog_1_method_17_code
def yX6_forecast : MethodName := ⟨RX6, "forecast", "(I)I"⟩
abbrev cX6_bestPolicy : ByteArray := prog_1_method_18_code
def yX6_bestPolicy : MethodName := ⟨RX6, "bestPolicy", "()I"⟩
abbrev cX6_bearable : ByteArray := prog_1_method_19_code
def yX6_bearable : MethodName := ⟨RX6, "bearable", "(II)I"⟩
abbrev cX6_keep : ByteArray := prog_1_method_20_code
def yX6_keep : MethodName := ⟨RX6, "keep", "(I)I"⟩
abbrev cX6_back : ByteArray := prog_1_method_21_code
def yX6_back : MethodName := ⟨RX6, "back", "(I)I"⟩
abbrev cX6_remember : ByteArray := prog_1_method_22_code
def yX6_remember : MethodName := ⟨RX6, "remember", "()V"⟩
abbrev cX6_dropOldestRecord : ByteArray := prog_1_method_23_code
def yX6_dropOldestRecord : MethodName := ⟨RX6, "dropOldestRecord", "()V"⟩
abbrev cX6_ticksOfTrial : ByteArray := prog_1_method_24_code
def yX6_ticksOfTrial : MethodName := ⟨RX6, "ticksOfTrial", "(II)I"⟩
abbrev cX6_isBlock : ByteArray := prog_1_method_25_code
def yX6_isBlock : MethodName := ⟨RX6, "isBlock", "(I)Z"⟩
abbrev cX6_isLink : ByteArray := prog_1_method_26_code
def yX6_isLink : MethodName := ⟨RX6, "isLink", "(I)Z"⟩
abbrev cX6_isBlockSet : ByteArray := prog_1_method_27_code
def yX6_isBlockSet : MethodName := ⟨RX6, "isBlockSet", "(I)Z"⟩
abbrev cX6_isSetting : ByteArray := prog_1_method_28_code
def yX6_isSetting : MethodName := ⟨RX6, "isSetting", "(II)Z"⟩
abbrev cX6_isWithin : ByteArray := prog_1_method_29_code
def yX6_isWithin : MethodName := ⟨RX6, "isWithin", "(III)Z"⟩
abbrev cX6_numberOfPacket : ByteArray := prog_1_method_30_code
def yX6_numberOfPacket : MethodName := ⟨RX6, "numberOfPacket", "(LRelayTransfer$PacketList;II)I"⟩
abbrev cX6_setIn : ByteArray := prog_1_method_31_code
def yX6_setIn : MethodName := ⟨RX6, "setIn", "(I)I"⟩
abbrev cX6_valueIn : ByteArray := prog_1_method_32_code
def yX6_valueIn : MethodName := ⟨RX6, "valueIn", "(I)I"⟩
abbrev cX6_degreeOf : ByteArray := prog_1_method_33_code
def yX6_degreeOf : MethodName := ⟨RX6, "degreeOf", "(I)I"⟩
abbrev cX6_hasBlock : ByteArray := prog_1_method_34_code
def yX6_hasBlock : MethodName := ⟨RX6, "hasBlock", "(II)Z"⟩
abbrev cX6_packetWith : ByteArray := prog_1_method_35_code
def yX6_packetWith : MethodName := ⟨RX6, "packetWith", "(II)I"⟩
abbrev cX6_copyRow : ByteArray := prog_1_method_36_code
def yX6_copyRow : MethodName := ⟨RX6, "copyRow", "([I[I)V"⟩
def RX7 : String := "RelayTransferModel"
def TX7 : u_T := fun k => match k with
  | 0 => ("RelayTransferModel", "w", "[I", true)
  | 1 => ("RelayTransferModel", "past", "[I", true)
  | 2 => ("RelayTransferModel", "pastMany", "I", false)
  | 3 => ("RelayTransferModel", "images", "[I", true)
  | 4 => ("RelayTransferModel", "filled", "I", false)
  | 5 => ("RelayTransferModel", "base", "[I", true)
  | 6 => ("RelayTransferModel", "baseValue", "[I", true)
  | 7 => ("RelayTransferModel", "rest", "I", false)
  | 8 => ("RelayTransferModel", "restValue", "I", false)
  | 9 => ("RelayTransferModel", "madeSet", "I", false)
  | 10 => ("RelayTransferModel", "madeValue", "I", false)
  | 11 => ("RelayTransferModel", "sets", "[I", true)
  | 12 => ("RelayTransferModel", "values", "[I", true)
  | _ => ("RelayTransferModel", "held", "[I", true)
def tyX7 : Nat → FieldType := fun k => match k with
  | 0 => .array .int
  | 1 => .array .int
  | 2 => .int
  | 3 => .array .int
  | 4 => .int
  | 5 => .array .int
  | 6 => .array .int
  | 7 => .int
  | 8 => .int
  | 9 => .int
  | 10 => .int
  | 11 => .array .int
  | 12 => .array .int
  | _ => .array .int
abbrev wsX70 : List Cond := u_ws RX7 TX7 14
theorem nmX7 : ∀ a, a < 14 → ∀ b, b < 14 → a ≠ b → (TX7 a).2.1 ≠ (TX7 b).2.1 := by decide +kernel
theorem tyX7_ok : ∀ k, k < 14 → parseFieldDescriptor (TX7 k).2.2.1 = some (tyX7 k) := by decide +kernel
abbrev cX7_init : ByteArray := prog_9_method_1_code
def yX7_init : MethodName := ⟨RX7, "<init>", "()V"⟩
abbrev cX7_isIn : ByteArray := prog_9_method_3_code
def yX7_isIn : MethodName := ⟨RX7, "isIn", "(III)Z"⟩
abbrev cX7_lay : ByteArray := prog_9_method_4_code
def yX7_lay : MethodName := ⟨RX7, "lay", "(II)V"⟩
abbrev cX7_remember : ByteArray := prog_9_method_5_code
def yX7_remember : MethodName := ⟨RX7, "remember", "()V"⟩
abbrev cX7_setAt : ByteArray := prog_9_method_6_code
def yX7_setAt : MethodName := ⟨RX7, "setAt", "(II)I"⟩
abbrev cX7_append : ByteArray := prog_9_method_7_code
def yX7_append : MethodName := ⟨RX7, "append", "(III)V"⟩
abbrev cX7_drop : ByteArray := prog_9_method_8_code
def yX7_drop : MethodName := ⟨RX7, "drop", "(II)V"⟩
abbrev cX7_size : ByteArray := prog_9_method_9_code
def yX7_size : MethodName := ⟨RX7, "size", "(I)I"⟩
abbrev cX7_lowest : ByteArray := prog_9_method_10_code
def yX7_lowest : MethodName := ⟨RX7, "lowest", "(I)I"⟩
abbrev cX7_valueOf : ByteArray := prog_9_method_11_code
def yX7_valueOf : MethodName := ⟨RX7, "valueOf", "(I)I"⟩
abbrev cX7_reduce : ByteArray := prog_9_method_12_code
def yX7_reduce : MethodName := ⟨RX7, "reduce", "(II)V"⟩
abbrev cX7_highest : ByteArray := prog_9_method_13_code
def yX7_highest : MethodName := ⟨RX7, "highest", "(I)I"⟩
abbrev cX7_layBase : ByteArray := prog_9_method_14_code
def yX7_layBase : MethodName := ⟨RX7, "layBase", "(I)I"⟩
abbrev cX7_isNovel : ByteArray := prog_9_method_15_code
def yX7_isNovel : MethodName := ⟨RX7, "isNovel", "(II)Z"⟩
abbrev cX7_draw : ByteArray := prog_9_method_16_code
def yX7_draw : MethodName := ⟨RX7, "draw", "(I)I"⟩
abbrev cX7_weights : ByteArray := prog_9_method_17_code
def yX7_weights : MethodName := ⟨RX7, "weights", "()I"⟩
abbrev cX7_makeAtSource : ByteArray := prog_9_method_18_code
def yX7_makeAtSource : MethodName := ⟨RX7, "makeAtSource", "()V"⟩
abbrev cX7_makeAtRelay : ByteArray := prog_9_method_19_code
def yX7_makeAtRelay : MethodName := ⟨RX7, "makeAtRelay", "(I)V"⟩
abbrev cX7_storeOf : ByteArray := prog_9_method_20_code
def yX7_storeOf : MethodName := ⟨RX7, "storeOf", "(I)I"⟩
abbrev cX7_mostAlike : ByteArray := prog_9_method_21_code
def yX7_mostAlike : MethodName := ⟨RX7, "mostAlike", "(II)I"⟩
abbrev cX7_arriveAtRelay : ByteArray := prog_9_method_22_code
def yX7_arriveAtRelay : MethodName := ⟨RX7, "arriveAtRelay", "(III)V"⟩
abbrev cX7_learn : ByteArray := prog_9_method_23_code
def yX7_learn : MethodName := ⟨RX7, "learn", "(II)V"⟩
abbrev cX7_firstAlone : ByteArray := prog_9_method_24_code
def yX7_firstAlone : MethodName := ⟨RX7, "firstAlone", "()I"⟩
abbrev cX7_peel : ByteArray := prog_9_method_25_code
def yX7_peel : MethodName := ⟨RX7, "peel", "(II)V"⟩
abbrev cX7_solved : ByteArray := prog_9_method_26_code
def yX7_solved : MethodName := ⟨RX7, "solved", "(I)I"⟩
abbrev cX7_arriveAtReceiver : ByteArray := prog_9_method_27_code
def yX7_arriveAtReceiver : MethodName := ⟨RX7, "arriveAtReceiver", "(II)I"⟩
abbrev cX7_note : ByteArray := prog_9_method_28_code
def yX7_note : MethodName := ⟨RX7, "note", "()V"⟩
abbrev cX7_tick : ByteArray := prog_9_method_29_code
def yX7_tick : MethodName := ⟨RX7, "tick", "()V"⟩
abbrev cX7_begin : ByteArray := prog_9_method_30_code
def yX7_begin : MethodName := ⟨RX7, "begin", "(II)I"⟩
abbrev cX7_isBlock : ByteArray := prog_9_method_31_code
def yX7_isBlock : MethodName := ⟨RX7, "isBlock", "(I)Z"⟩
abbrev cX7_put : ByteArray := prog_9_method_32_code
def yX7_put : MethodName := ⟨RX7, "put", "(II)I"⟩
abbrev cX7_setBlock : ByteArray := prog_9_method_33_code
def yX7_setBlock : MethodName := ⟨RX7, "setBlock", "(II)I"⟩
abbrev cX7_setLoss : ByteArray := prog_9_method_34_code
def yX7_setLoss : MethodName := ⟨RX7, "setLoss", "(II)I"⟩
abbrev cX7_setWeight : ByteArray := prog_9_method_35_code
def yX7_setWeight : MethodName := ⟨RX7, "setWeight", "(II)I"⟩
abbrev cX7_set : ByteArray := prog_9_method_36_code
def yX7_set : MethodName := ⟨RX7, "set", "(II)I"⟩
abbrev cX7_run : ByteArray := prog_9_method_37_code
def yX7_run : MethodName := ⟨RX7, "run", "(I)I"⟩
abbrev cX7_isSet : ByteArray := prog_9_method_38_code
def yX7_isSet : MethodName := ⟨RX7, "isSet", "(I)Z"⟩
abbrev cX7_inject : ByteArray := prog_9_method_39_code
def yX7_inject : MethodName := ⟨RX7, "inject", "(I)I"⟩
abbrev cX7_undo : ByteArray := prog_9_method_40_code
def yX7_undo : MethodName := ⟨RX7, "undo", "()I"⟩
abbrev cX7_known : ByteArray := prog_9_method_41_code
def yX7_known : MethodName := ⟨RX7, "known", "()I"⟩
abbrev cX7_solvedBlocks : ByteArray := prog_9_method_42_code
def yX7_solvedBlocks : MethodName := ⟨RX7, "solvedBlocks", "()I"⟩
abbrev cX7_told : ByteArray := prog_9_method_43_code
def yX7_told : MethodName := ⟨RX7, "told", "(I)I"⟩
abbrev cX7_block : ByteArray := prog_9_method_44_code
def yX7_block : MethodName := ⟨RX7, "block", "(II)I"⟩
abbrev cX7_listOf : ByteArray := prog_9_method_45_code
def yX7_listOf : MethodName := ⟨RX7, "listOf", "(I)I"⟩
abbrev cX7_part : ByteArray := prog_9_method_46_code
def yX7_part : MethodName := ⟨RX7, "part", "(III)I"⟩
abbrev cX7_hasList : ByteArray := prog_9_method_47_code
def yX7_hasList : MethodName := ⟨RX7, "hasList", "(I)Z"⟩
abbrev cX7_packet : ByteArray := prog_9_method_48_code
def yX7_packet : MethodName := ⟨RX7, "packet", "(III)I"⟩
abbrev cX7_waiting : ByteArray := prog_9_method_49_code
def yX7_waiting : MethodName := ⟨RX7, "waiting", "(II)I"⟩
abbrev cX7_node : ByteArray := prog_9_method_50_code
def yX7_node : MethodName := ⟨RX7, "node", "(II)I"⟩
abbrev cX7_novel : ByteArray := prog_9_method_51_code
def yX7_novel : MethodName := ⟨RX7, "novel", "(II)I"⟩
abbrev cX7_overhead : ByteArray := prog_9_method_52_code
def yX7_overhead : MethodName := ⟨RX7, "overhead", "()F"⟩
abbrev cX7_hold : ByteArray := prog_9_method_53_code
def yX7_hold : MethodName := ⟨RX7, "hold", "()V"⟩
abbrev cX7_release : ByteArray := prog_9_method_54_code
def yX7_release : MethodName := ⟨RX7, "release", "()V"⟩
abbrev cX7_isWhole : ByteArray := prog_9_method_55_code
def yX7_isWhole : MethodName := ⟨RX7, "isWhole", "(I)Z"⟩
abbrev cX7_ticksTo : ByteArray := prog_9_method_56_code
def yX7_ticksTo : MethodName := ⟨RX7, "ticksTo", "(II)I"⟩
abbrev cX7_forecast : ByteArray := prog_9_method_57_code
def yX7_forecast : MethodName := ⟨RX7, "forecast", "(I)I"⟩
abbrev cX7_bestPolicy : ByteArray := prog_9_method_58_code
def yX7_bestPolicy : MethodName := ⟨RX7, "bestPolicy", "()I"⟩
abbrev cX7_bearable : ByteArray := prog_9_method_59_code
def yX7_bearable : MethodName := ⟨RX7, "bearable", "(II)I"⟩
abbrev cX7_isImage : ByteArray := prog_9_method_60_code
def yX7_isImage : MethodName := ⟨RX7, "isImage", "(I)Z"⟩
abbrev cX7_keep : ByteArray := prog_9_method_61_code
def yX7_keep : MethodName := ⟨RX7, "keep", "(I)I"⟩
abbrev cX7_back : ByteArray := prog_9_method_62_code
def yX7_back : MethodName := ⟨RX7, "back", "(I)I"⟩
def RJ6 : String := "java/lang/Integer"
def TJ6 : u_T := fun k => match k with
  | _ => ("", "", "", false)
def tyJ6 : Nat → FieldType := fun k => match k with
  | _ => .int
abbrev wsJ60 : List Cond := u_ws RJ6 TJ6 0
theorem nmJ6 : ∀ a, a < 0 → ∀ b, b < 0 → a ≠ b → (TJ6 a).2.1 ≠ (TJ6 b).2.1 := by decide +kernel
theorem tyJ6_ok : ∀ k, k < 0 → parseFieldDescriptor (TJ6 k).2.2.1 = some (tyJ6 k) := by decide +kernel
abbrev cJ6_bitCount_0f7a4 : ByteArray := prog_10_method_49_code
def yJ6_bitCount_0f7a4 : MethodName := ⟨RJ6, "bitCount", "(I)I"⟩
def RJ9 : String := "java/lang/Math"
def TJ9 : u_T := fun k => match k with
  | _ => ("", "", "", false)
def tyJ9 : Nat → FieldType := fun k => match k with
  | _ => .int
abbrev wsJ90 : List Cond := u_ws RJ9 TJ9 0
theorem nmJ9 : ∀ a, a < 0 → ∀ b, b < 0 → a ≠ b → (TJ9 a).2.1 ≠ (TJ9 b).2.1 := by decide +kernel
theorem tyJ9_ok : ∀ k, k < 0 → parseFieldDescriptor (TJ9 k).2.2.1 = some (tyJ9 k) := by decide +kernel
abbrev cJ9_max_7cf53 : ByteArray := prog_11_method_65_code
def yJ9_max_7cf53 : MethodName := ⟨RJ9, "max", "(II)I"⟩
abbrev cJ9_min_7cf53 : ByteArray := prog_11_method_69_code
def yJ9_min_7cf53 : MethodName := ⟨RJ9, "min", "(II)I"⟩
def RL : String := "RelayTransferLaw"
abbrev cL_law : ByteArray := code
def yL_law : MethodName := ⟨RL, "law", "([I)Z"⟩
