section
-- ===== PART A: goes FIRST, ahead of the names: the tables' words, and 'selects' of the private methods out of them =====
/-- a private method of a class that the tables say can be made, by its rows of tables_1 -/
def lw_okq (q : MethodName × Nat) : Prop := (q.1.cls ≠ "java/lang/invoke/MethodHandle" ∧ q.1.cls ≠ "java/lang/invoke/VarHandle") ∧ Cond.instantiable q.1.cls q.2 ∈ tables_1 ∧ Cond.privateMethod q.1 ∈ tables_1 ∧ Cond.instanceMethod q.1 ∈ tables_1
theorem lw_p0 : lw_okq (⟨"RelayTransfer$Setup", "giveFirstValues", "()V"⟩, 9) := ⟨⟨by decide +kernel, by decide +kernel⟩, List.mem_of_getElem? (i := 27) (by decide +kernel), List.mem_of_getElem? (i := 44) (by decide +kernel), List.mem_of_getElem? (i := 45) (by decide +kernel)⟩
theorem lw_p1 : lw_okq (⟨"RelayTransfer", "remember", "()V"⟩, 6) := ⟨⟨by decide +kernel, by decide +kernel⟩, List.mem_of_getElem? (i := 13) (by decide +kernel), List.mem_of_getElem? (i := 247) (by decide +kernel), List.mem_of_getElem? (i := 248) (by decide +kernel)⟩
theorem lw_p2 : lw_okq (⟨"RelayTransfer", "dropOldestRecord", "()V"⟩, 6) := ⟨⟨by decide +kernel, by decide +kernel⟩, List.mem_of_getElem? (i := 13) (by decide +kernel), List.mem_of_getElem? (i := 251) (by decide +kernel), List.mem_of_getElem? (i := 252) (by decide +kernel)⟩
theorem lw_p3 : lw_okq (⟨"RelayTransfer", "isBlock", "(I)Z"⟩, 6) := ⟨⟨by decide +kernel, by decide +kernel⟩, List.mem_of_getElem? (i := 13) (by decide +kernel), List.mem_of_getElem? (i := 313) (by decide +kernel), List.mem_of_getElem? (i := 314) (by decide +kernel)⟩
theorem lw_p4 : lw_okq (⟨"RelayTransfer", "isLink", "(I)Z"⟩, 6) := ⟨⟨by decide +kernel, by decide +kernel⟩, List.mem_of_getElem? (i := 13) (by decide +kernel), List.mem_of_getElem? (i := 321) (by decide +kernel), List.mem_of_getElem? (i := 322) (by decide +kernel)⟩
theorem lw_p5 : lw_okq (⟨"RelayTransfer$Transfer", "make", "(I)I"⟩, 8) := ⟨⟨by decide +kernel, by decide +kernel⟩, List.mem_of_getElem? (i := 21) (by decide +kernel), List.mem_of_getElem? (i := 372) (by decide +kernel), List.mem_of_getElem? (i := 373) (by decide +kernel)⟩
theorem lw_p6 : lw_okq (⟨"RelayTransfer$Transfer", "recode", "(LRelayTransfer$PacketList;)I"⟩, 8) := ⟨⟨by decide +kernel, by decide +kernel⟩, List.mem_of_getElem? (i := 21) (by decide +kernel), List.mem_of_getElem? (i := 405) (by decide +kernel), List.mem_of_getElem? (i := 406) (by decide +kernel)⟩
theorem lw_p7 : lw_okq (⟨"RelayTransfer$Transfer", "forward", "(LRelayTransfer$PacketList;)I"⟩, 8) := ⟨⟨by decide +kernel, by decide +kernel⟩, List.mem_of_getElem? (i := 21) (by decide +kernel), List.mem_of_getElem? (i := 417) (by decide +kernel), List.mem_of_getElem? (i := 418) (by decide +kernel)⟩
theorem lw_p8 : lw_okq (⟨"RelayTransfer$Receiver", "peel", "(II)V"⟩, 8) := ⟨⟨by decide +kernel, by decide +kernel⟩, List.mem_of_getElem? (i := 93) (by decide +kernel), List.mem_of_getElem? (i := 434) (by decide +kernel), List.mem_of_getElem? (i := 435) (by decide +kernel)⟩
theorem lw_p9 : lw_okq (⟨"RelayTransfer$Receiver", "solve", "(I)V"⟩, 8) := ⟨⟨by decide +kernel, by decide +kernel⟩, List.mem_of_getElem? (i := 93) (by decide +kernel), List.mem_of_getElem? (i := 477) (by decide +kernel), List.mem_of_getElem? (i := 478) (by decide +kernel)⟩
theorem lw_p10 : lw_okq (⟨"RelayTransfer$Transfer", "store", "(LRelayTransfer$PacketList;I)V"⟩, 8) := ⟨⟨by decide +kernel, by decide +kernel⟩, List.mem_of_getElem? (i := 21) (by decide +kernel), List.mem_of_getElem? (i := 489) (by decide +kernel), List.mem_of_getElem? (i := 490) (by decide +kernel)⟩
theorem lw_p11 : lw_okq (⟨"RelayTransfer", "isBlockSet", "(I)Z"⟩, 6) := ⟨⟨by decide +kernel, by decide +kernel⟩, List.mem_of_getElem? (i := 13) (by decide +kernel), List.mem_of_getElem? (i := 513) (by decide +kernel), List.mem_of_getElem? (i := 514) (by decide +kernel)⟩
theorem lw_p12 : lw_okq (⟨"RelayTransfer", "ticksOfTrial", "(II)I"⟩, 6) := ⟨⟨by decide +kernel, by decide +kernel⟩, List.mem_of_getElem? (i := 13) (by decide +kernel), List.mem_of_getElem? (i := 574) (by decide +kernel), List.mem_of_getElem? (i := 575) (by decide +kernel)⟩
theorem lw_p13 : lw_okq (⟨"RelayTransferModel", "lay", "(II)V"⟩, 14) := ⟨⟨by decide +kernel, by decide +kernel⟩, List.mem_of_getElem? (i := 598) (by decide +kernel), List.mem_of_getElem? (i := 604) (by decide +kernel), List.mem_of_getElem? (i := 605) (by decide +kernel)⟩
theorem lw_p14 : lw_okq (⟨"RelayTransferModel", "remember", "()V"⟩, 14) := ⟨⟨by decide +kernel, by decide +kernel⟩, List.mem_of_getElem? (i := 598) (by decide +kernel), List.mem_of_getElem? (i := 658) (by decide +kernel), List.mem_of_getElem? (i := 659) (by decide +kernel)⟩
theorem lw_p15 : lw_okq (⟨"RelayTransferModel", "isBlock", "(I)Z"⟩, 14) := ⟨⟨by decide +kernel, by decide +kernel⟩, List.mem_of_getElem? (i := 598) (by decide +kernel), List.mem_of_getElem? (i := 666) (by decide +kernel), List.mem_of_getElem? (i := 667) (by decide +kernel)⟩
def lw_privs_1 : List (MethodName × Nat) := [(⟨"RelayTransfer$Setup", "giveFirstValues", "()V"⟩, 9), (⟨"RelayTransfer", "remember", "()V"⟩, 6), (⟨"RelayTransfer", "dropOldestRecord", "()V"⟩, 6), (⟨"RelayTransfer", "isBlock", "(I)Z"⟩, 6), (⟨"RelayTransfer", "isLink", "(I)Z"⟩, 6), (⟨"RelayTransfer$Transfer", "make", "(I)I"⟩, 8), (⟨"RelayTransfer$Transfer", "recode", "(LRelayTransfer$PacketList;)I"⟩, 8), (⟨"RelayTransfer$Transfer", "forward", "(LRelayTransfer$PacketList;)I"⟩, 8), (⟨"RelayTransfer$Receiver", "peel", "(II)V"⟩, 8), (⟨"RelayTransfer$Receiver", "solve", "(I)V"⟩, 8), (⟨"RelayTransfer$Transfer", "store", "(LRelayTransfer$PacketList;I)V"⟩, 8), (⟨"RelayTransfer", "isBlockSet", "(I)Z"⟩, 6), (⟨"RelayTransfer", "ticksOfTrial", "(II)I"⟩, 6), (⟨"RelayTransferModel", "lay", "(II)V"⟩, 14), (⟨"RelayTransferModel", "remember", "()V"⟩, 14), (⟨"RelayTransferModel", "isBlock", "(I)Z"⟩, 14)]
theorem lw_r1 : ∀ q ∈ lw_privs_1, lw_okq q := List.forall_mem_cons.mpr ⟨lw_p0, List.forall_mem_cons.mpr ⟨lw_p1, List.forall_mem_cons.mpr ⟨lw_p2, List.forall_mem_cons.mpr ⟨lw_p3, List.forall_mem_cons.mpr ⟨lw_p4, List.forall_mem_cons.mpr ⟨lw_p5, List.forall_mem_cons.mpr ⟨lw_p6, List.forall_mem_cons.mpr ⟨lw_p7, List.forall_mem_cons.mpr ⟨lw_p8, List.forall_mem_cons.mpr ⟨lw_p9, List.forall_mem_cons.mpr ⟨lw_p10, List.forall_mem_cons.mpr ⟨lw_p11, List.forall_mem_cons.mpr ⟨lw_p12, List.forall_mem_cons.mpr ⟨lw_p13, List.forall_mem_cons.mpr ⟨lw_p14, List.forall_mem_cons.mpr ⟨lw_p15, fun _ h => absurd h List.not_mem_nil⟩⟩⟩⟩⟩⟩⟩⟩⟩⟩⟩⟩⟩⟩⟩⟩
theorem lw_p16 : lw_okq (⟨"RelayTransferModel", "put", "(II)I"⟩, 14) := ⟨⟨by decide +kernel, by decide +kernel⟩, List.mem_of_getElem? (i := 598) (by decide +kernel), List.mem_of_getElem? (i := 670) (by decide +kernel), List.mem_of_getElem? (i := 671) (by decide +kernel)⟩
theorem lw_p17 : lw_okq (⟨"RelayTransferModel", "weights", "()I"⟩, 14) := ⟨⟨by decide +kernel, by decide +kernel⟩, List.mem_of_getElem? (i := 598) (by decide +kernel), List.mem_of_getElem? (i := 682) (by decide +kernel), List.mem_of_getElem? (i := 683) (by decide +kernel)⟩
theorem lw_p18 : lw_okq (⟨"RelayTransferModel", "drop", "(II)V"⟩, 14) := ⟨⟨by decide +kernel, by decide +kernel⟩, List.mem_of_getElem? (i := 598) (by decide +kernel), List.mem_of_getElem? (i := 693) (by decide +kernel), List.mem_of_getElem? (i := 694) (by decide +kernel)⟩
theorem lw_p19 : lw_okq (⟨"RelayTransferModel", "tick", "()V"⟩, 14) := ⟨⟨by decide +kernel, by decide +kernel⟩, List.mem_of_getElem? (i := 598) (by decide +kernel), List.mem_of_getElem? (i := 704) (by decide +kernel), List.mem_of_getElem? (i := 705) (by decide +kernel)⟩
theorem lw_p20 : lw_okq (⟨"RelayTransferModel", "makeAtSource", "()V"⟩, 14) := ⟨⟨by decide +kernel, by decide +kernel⟩, List.mem_of_getElem? (i := 598) (by decide +kernel), List.mem_of_getElem? (i := 708) (by decide +kernel), List.mem_of_getElem? (i := 709) (by decide +kernel)⟩
theorem lw_p21 : lw_okq (⟨"RelayTransferModel", "draw", "(I)I"⟩, 14) := ⟨⟨by decide +kernel, by decide +kernel⟩, List.mem_of_getElem? (i := 598) (by decide +kernel), List.mem_of_getElem? (i := 712) (by decide +kernel), List.mem_of_getElem? (i := 713) (by decide +kernel)⟩
theorem lw_p22 : lw_okq (⟨"RelayTransferModel", "valueOf", "(I)I"⟩, 14) := ⟨⟨by decide +kernel, by decide +kernel⟩, List.mem_of_getElem? (i := 598) (by decide +kernel), List.mem_of_getElem? (i := 720) (by decide +kernel), List.mem_of_getElem? (i := 721) (by decide +kernel)⟩
theorem lw_p23 : lw_okq (⟨"RelayTransferModel", "makeAtRelay", "(I)V"⟩, 14) := ⟨⟨by decide +kernel, by decide +kernel⟩, List.mem_of_getElem? (i := 598) (by decide +kernel), List.mem_of_getElem? (i := 724) (by decide +kernel), List.mem_of_getElem? (i := 725) (by decide +kernel)⟩
theorem lw_p24 : lw_okq (⟨"RelayTransferModel", "append", "(III)V"⟩, 14) := ⟨⟨by decide +kernel, by decide +kernel⟩, List.mem_of_getElem? (i := 598) (by decide +kernel), List.mem_of_getElem? (i := 728) (by decide +kernel), List.mem_of_getElem? (i := 729) (by decide +kernel)⟩
theorem lw_p25 : lw_okq (⟨"RelayTransferModel", "arriveAtRelay", "(III)V"⟩, 14) := ⟨⟨by decide +kernel, by decide +kernel⟩, List.mem_of_getElem? (i := 598) (by decide +kernel), List.mem_of_getElem? (i := 732) (by decide +kernel), List.mem_of_getElem? (i := 733) (by decide +kernel)⟩
theorem lw_p26 : lw_okq (⟨"RelayTransferModel", "isNovel", "(II)Z"⟩, 14) := ⟨⟨by decide +kernel, by decide +kernel⟩, List.mem_of_getElem? (i := 598) (by decide +kernel), List.mem_of_getElem? (i := 736) (by decide +kernel), List.mem_of_getElem? (i := 737) (by decide +kernel)⟩
theorem lw_p27 : lw_okq (⟨"RelayTransferModel", "layBase", "(I)I"⟩, 14) := ⟨⟨by decide +kernel, by decide +kernel⟩, List.mem_of_getElem? (i := 598) (by decide +kernel), List.mem_of_getElem? (i := 740) (by decide +kernel), List.mem_of_getElem? (i := 741) (by decide +kernel)⟩
theorem lw_p28 : lw_okq (⟨"RelayTransferModel", "reduce", "(II)V"⟩, 14) := ⟨⟨by decide +kernel, by decide +kernel⟩, List.mem_of_getElem? (i := 598) (by decide +kernel), List.mem_of_getElem? (i := 744) (by decide +kernel), List.mem_of_getElem? (i := 745) (by decide +kernel)⟩
theorem lw_p29 : lw_okq (⟨"RelayTransferModel", "highest", "(I)I"⟩, 14) := ⟨⟨by decide +kernel, by decide +kernel⟩, List.mem_of_getElem? (i := 598) (by decide +kernel), List.mem_of_getElem? (i := 748) (by decide +kernel), List.mem_of_getElem? (i := 749) (by decide +kernel)⟩
theorem lw_p30 : lw_okq (⟨"RelayTransferModel", "mostAlike", "(II)I"⟩, 14) := ⟨⟨by decide +kernel, by decide +kernel⟩, List.mem_of_getElem? (i := 598) (by decide +kernel), List.mem_of_getElem? (i := 752) (by decide +kernel), List.mem_of_getElem? (i := 753) (by decide +kernel)⟩
theorem lw_p31 : lw_okq (⟨"RelayTransferModel", "arriveAtReceiver", "(II)I"⟩, 14) := ⟨⟨by decide +kernel, by decide +kernel⟩, List.mem_of_getElem? (i := 598) (by decide +kernel), List.mem_of_getElem? (i := 759) (by decide +kernel), List.mem_of_getElem? (i := 760) (by decide +kernel)⟩
def lw_privs_2 : List (MethodName × Nat) := [(⟨"RelayTransferModel", "put", "(II)I"⟩, 14), (⟨"RelayTransferModel", "weights", "()I"⟩, 14), (⟨"RelayTransferModel", "drop", "(II)V"⟩, 14), (⟨"RelayTransferModel", "tick", "()V"⟩, 14), (⟨"RelayTransferModel", "makeAtSource", "()V"⟩, 14), (⟨"RelayTransferModel", "draw", "(I)I"⟩, 14), (⟨"RelayTransferModel", "valueOf", "(I)I"⟩, 14), (⟨"RelayTransferModel", "makeAtRelay", "(I)V"⟩, 14), (⟨"RelayTransferModel", "append", "(III)V"⟩, 14), (⟨"RelayTransferModel", "arriveAtRelay", "(III)V"⟩, 14), (⟨"RelayTransferModel", "isNovel", "(II)Z"⟩, 14), (⟨"RelayTransferModel", "layBase", "(I)I"⟩, 14), (⟨"RelayTransferModel", "reduce", "(II)V"⟩, 14), (⟨"RelayTransferModel", "highest", "(I)I"⟩, 14), (⟨"RelayTransferModel", "mostAlike", "(II)I"⟩, 14), (⟨"RelayTransferModel", "arriveAtReceiver", "(II)I"⟩, 14)]
theorem lw_r2 : ∀ q ∈ lw_privs_2, lw_okq q := List.forall_mem_cons.mpr ⟨lw_p16, List.forall_mem_cons.mpr ⟨lw_p17, List.forall_mem_cons.mpr ⟨lw_p18, List.forall_mem_cons.mpr ⟨lw_p19, List.forall_mem_cons.mpr ⟨lw_p20, List.forall_mem_cons.mpr ⟨lw_p21, List.forall_mem_cons.mpr ⟨lw_p22, List.forall_mem_cons.mpr ⟨lw_p23, List.forall_mem_cons.mpr ⟨lw_p24, List.forall_mem_cons.mpr ⟨lw_p25, List.forall_mem_cons.mpr ⟨lw_p26, List.forall_mem_cons.mpr ⟨lw_p27, List.forall_mem_cons.mpr ⟨lw_p28, List.forall_mem_cons.mpr ⟨lw_p29, List.forall_mem_cons.mpr ⟨lw_p30, List.forall_mem_cons.mpr ⟨lw_p31, fun _ h => absurd h List.not_mem_nil⟩⟩⟩⟩⟩⟩⟩⟩⟩⟩⟩⟩⟩⟩⟩⟩
theorem lw_p32 : lw_okq (⟨"RelayTransferModel", "peel", "(II)V"⟩, 14) := ⟨⟨by decide +kernel, by decide +kernel⟩, List.mem_of_getElem? (i := 598) (by decide +kernel), List.mem_of_getElem? (i := 763) (by decide +kernel), List.mem_of_getElem? (i := 764) (by decide +kernel)⟩
theorem lw_p33 : lw_okq (⟨"RelayTransferModel", "learn", "(II)V"⟩, 14) := ⟨⟨by decide +kernel, by decide +kernel⟩, List.mem_of_getElem? (i := 598) (by decide +kernel), List.mem_of_getElem? (i := 770) (by decide +kernel), List.mem_of_getElem? (i := 771) (by decide +kernel)⟩
theorem lw_p34 : lw_okq (⟨"RelayTransferModel", "firstAlone", "()I"⟩, 14) := ⟨⟨by decide +kernel, by decide +kernel⟩, List.mem_of_getElem? (i := 598) (by decide +kernel), List.mem_of_getElem? (i := 774) (by decide +kernel), List.mem_of_getElem? (i := 775) (by decide +kernel)⟩
theorem lw_p35 : lw_okq (⟨"RelayTransferModel", "solved", "(I)I"⟩, 14) := ⟨⟨by decide +kernel, by decide +kernel⟩, List.mem_of_getElem? (i := 598) (by decide +kernel), List.mem_of_getElem? (i := 778) (by decide +kernel), List.mem_of_getElem? (i := 779) (by decide +kernel)⟩
theorem lw_p36 : lw_okq (⟨"RelayTransferModel", "note", "()V"⟩, 14) := ⟨⟨by decide +kernel, by decide +kernel⟩, List.mem_of_getElem? (i := 598) (by decide +kernel), List.mem_of_getElem? (i := 782) (by decide +kernel), List.mem_of_getElem? (i := 783) (by decide +kernel)⟩
theorem lw_p37 : lw_okq (⟨"RelayTransferModel", "isSet", "(I)Z"⟩, 14) := ⟨⟨by decide +kernel, by decide +kernel⟩, List.mem_of_getElem? (i := 598) (by decide +kernel), List.mem_of_getElem? (i := 790) (by decide +kernel), List.mem_of_getElem? (i := 791) (by decide +kernel)⟩
theorem lw_p38 : lw_okq (⟨"RelayTransferModel", "known", "()I"⟩, 14) := ⟨⟨by decide +kernel, by decide +kernel⟩, List.mem_of_getElem? (i := 598) (by decide +kernel), List.mem_of_getElem? (i := 802) (by decide +kernel), List.mem_of_getElem? (i := 803) (by decide +kernel)⟩
theorem lw_p39 : lw_okq (⟨"RelayTransferModel", "solvedBlocks", "()I"⟩, 14) := ⟨⟨by decide +kernel, by decide +kernel⟩, List.mem_of_getElem? (i := 598) (by decide +kernel), List.mem_of_getElem? (i := 806) (by decide +kernel), List.mem_of_getElem? (i := 807) (by decide +kernel)⟩
theorem lw_p40 : lw_okq (⟨"RelayTransferModel", "hasList", "(I)Z"⟩, 14) := ⟨⟨by decide +kernel, by decide +kernel⟩, List.mem_of_getElem? (i := 598) (by decide +kernel), List.mem_of_getElem? (i := 818) (by decide +kernel), List.mem_of_getElem? (i := 819) (by decide +kernel)⟩
theorem lw_p41 : lw_okq (⟨"RelayTransferModel", "listOf", "(I)I"⟩, 14) := ⟨⟨by decide +kernel, by decide +kernel⟩, List.mem_of_getElem? (i := 598) (by decide +kernel), List.mem_of_getElem? (i := 822) (by decide +kernel), List.mem_of_getElem? (i := 823) (by decide +kernel)⟩
theorem lw_p42 : lw_okq (⟨"RelayTransferModel", "part", "(III)I"⟩, 14) := ⟨⟨by decide +kernel, by decide +kernel⟩, List.mem_of_getElem? (i := 598) (by decide +kernel), List.mem_of_getElem? (i := 826) (by decide +kernel), List.mem_of_getElem? (i := 827) (by decide +kernel)⟩
theorem lw_p43 : lw_okq (⟨"RelayTransferModel", "hold", "()V"⟩, 14) := ⟨⟨by decide +kernel, by decide +kernel⟩, List.mem_of_getElem? (i := 598) (by decide +kernel), List.mem_of_getElem? (i := 850) (by decide +kernel), List.mem_of_getElem? (i := 851) (by decide +kernel)⟩
theorem lw_p44 : lw_okq (⟨"RelayTransferModel", "ticksTo", "(II)I"⟩, 14) := ⟨⟨by decide +kernel, by decide +kernel⟩, List.mem_of_getElem? (i := 598) (by decide +kernel), List.mem_of_getElem? (i := 854) (by decide +kernel), List.mem_of_getElem? (i := 855) (by decide +kernel)⟩
theorem lw_p45 : lw_okq (⟨"RelayTransferModel", "isWhole", "(I)Z"⟩, 14) := ⟨⟨by decide +kernel, by decide +kernel⟩, List.mem_of_getElem? (i := 598) (by decide +kernel), List.mem_of_getElem? (i := 858) (by decide +kernel), List.mem_of_getElem? (i := 859) (by decide +kernel)⟩
theorem lw_p46 : lw_okq (⟨"RelayTransferModel", "release", "()V"⟩, 14) := ⟨⟨by decide +kernel, by decide +kernel⟩, List.mem_of_getElem? (i := 598) (by decide +kernel), List.mem_of_getElem? (i := 862) (by decide +kernel), List.mem_of_getElem? (i := 863) (by decide +kernel)⟩
def lw_privs_3 : List (MethodName × Nat) := [(⟨"RelayTransferModel", "peel", "(II)V"⟩, 14), (⟨"RelayTransferModel", "learn", "(II)V"⟩, 14), (⟨"RelayTransferModel", "firstAlone", "()I"⟩, 14), (⟨"RelayTransferModel", "solved", "(I)I"⟩, 14), (⟨"RelayTransferModel", "note", "()V"⟩, 14), (⟨"RelayTransferModel", "isSet", "(I)Z"⟩, 14), (⟨"RelayTransferModel", "known", "()I"⟩, 14), (⟨"RelayTransferModel", "solvedBlocks", "()I"⟩, 14), (⟨"RelayTransferModel", "hasList", "(I)Z"⟩, 14), (⟨"RelayTransferModel", "listOf", "(I)I"⟩, 14), (⟨"RelayTransferModel", "part", "(III)I"⟩, 14), (⟨"RelayTransferModel", "hold", "()V"⟩, 14), (⟨"RelayTransferModel", "ticksTo", "(II)I"⟩, 14), (⟨"RelayTransferModel", "isWhole", "(I)Z"⟩, 14), (⟨"RelayTransferModel", "release", "()V"⟩, 14)]
theorem lw_r3 : ∀ q ∈ lw_privs_3, lw_okq q := List.forall_mem_cons.mpr ⟨lw_p32, List.forall_mem_cons.mpr ⟨lw_p33, List.forall_mem_cons.mpr ⟨lw_p34, List.forall_mem_cons.mpr ⟨lw_p35, List.forall_mem_cons.mpr ⟨lw_p36, List.forall_mem_cons.mpr ⟨lw_p37, List.forall_mem_cons.mpr ⟨lw_p38, List.forall_mem_cons.mpr ⟨lw_p39, List.forall_mem_cons.mpr ⟨lw_p40, List.forall_mem_cons.mpr ⟨lw_p41, List.forall_mem_cons.mpr ⟨lw_p42, List.forall_mem_cons.mpr ⟨lw_p43, List.forall_mem_cons.mpr ⟨lw_p44, List.forall_mem_cons.mpr ⟨lw_p45, List.forall_mem_cons.mpr ⟨lw_p46, fun _ h => absurd h List.not_mem_nil⟩⟩⟩⟩⟩⟩⟩⟩⟩⟩⟩⟩⟩⟩⟩
def lw_privs : List (MethodName × Nat) := lw_privs_1 ++ (lw_privs_2 ++ (lw_privs_3))
def lw_tbl : List Cond := k2_sels lw_privs ++ tables_1
theorem lw_privs_ok : ∀ q ∈ lw_privs, lw_okq q := by
  show ∀ q ∈ lw_privs_1 ++ (lw_privs_2 ++ (lw_privs_3)), lw_okq q
  exact List.forall_mem_append.mpr ⟨lw_r1, List.forall_mem_append.mpr ⟨lw_r2, lw_r3⟩⟩
/-- the streams that the claim lets the run draw from -/
abbrev lw_cs : List Choice := [Jvm.Choice.named "NaN.bits"]
theorem lw_bits : nanBits ∈ lw_cs := by first | decide | exact List.mem_cons_self | simp [lw_cs, nanBits]

def RX0 : String := "RelayTransfer$Findings"
def TX0 : u_T := fun k => match k with
  | 0 => ("RelayTransfer$Findings", "singles", "[I", true)
  | 1 => ("RelayTransfer$Findings", "times", "[I", true)
  | _ => ("RelayTransfer$Findings", "count", "I", false)
def tyX0 : Nat → FieldType := fun k => match k with
  | 0 => .array .int
  | 1 => .array .int
  | _ => .int
abbrev wsX00 : List Cond := u_ws RX0 TX0 3
theorem nmX0 : ∀ a, a < 3 → ∀ b, b < 3 → a ≠ b → (TX0 a).2.1 ≠ (TX0 b).2.1 := by decide +kernel
theorem tyX0_ok : ∀ k, k < 3 → parseFieldDescriptor (TX0 k).2.2.1 = some (tyX0 k) := by decide +kernel
abbrev cX0_init : ByteArray := prog_2_method_1_code
def yX0_init : MethodName := ⟨RX0, "<init>", "()V"⟩
abbrev cX0_has : ByteArray := prog_2_method_2_code
def yX0_has : MethodName := ⟨RX0, "has", "(I)Z"⟩
abbrev cX0_add : ByteArray := prog_2_method_3_code
def yX0_add : MethodName := ⟨RX0, "add", "(II)V"⟩
abbrev cX0_valueAt : ByteArray := prog_2_method_4_code
def yX0_valueAt : MethodName := ⟨RX0, "valueAt", "(I)I"⟩
abbrev cX0_takenOutOf : ByteArray := prog_2_method_5_code
def yX0_takenOutOf : MethodName := ⟨RX0, "takenOutOf", "(I)I"⟩
abbrev cX0_clear : ByteArray := prog_2_method_6_code
def yX0_clear : MethodName := ⟨RX0, "clear", "()V"⟩
abbrev cX0_copyFrom : ByteArray := prog_2_method_7_code
def yX0_copyFrom : MethodName := ⟨RX0, "copyFrom", "(LRelayTransfer$Findings;)V"⟩
def RX1 : String := "RelayTransfer$PacketList"
def TX1 : u_T := fun k => match k with
  | 0 => ("RelayTransfer$PacketList", "packets", "[I", true)
  | _ => ("RelayTransfer$PacketList", "size", "I", false)
def tyX1 : Nat → FieldType := fun k => match k with
  | 0 => .array .int
  | _ => .int
abbrev wsX10 : List Cond := u_ws RX1 TX1 2
theorem nmX1 : ∀ a, a < 2 → ∀ b, b < 2 → a ≠ b → (TX1 a).2.1 ≠ (TX1 b).2.1 := by decide +kernel
theorem tyX1_ok : ∀ k, k < 2 → parseFieldDescriptor (TX1 k).2.2.1 = some (tyX1 k) := by decide +kernel
abbrev cX1_init : ByteArray := prog_3_method_1_code
def yX1_init : MethodName := ⟨RX1, "<init>", "(I)V"⟩
abbrev cX1_at : ByteArray := prog_3_method_2_code
def yX1_at : MethodName := ⟨RX1, "at", "(I)I"⟩
abbrev cX1_append : ByteArray := prog_3_method_3_code
def yX1_append : MethodName := ⟨RX1, "append", "(I)V"⟩
abbrev cX1_removeAt : ByteArray := prog_3_method_4_code
def yX1_removeAt : MethodName := ⟨RX1, "removeAt", "(I)I"⟩
abbrev cX1_removeFrontsBeyond : ByteArray := prog_3_method_5_code
def yX1_removeFrontsBeyond : MethodName := ⟨RX1, "removeFrontsBeyond", "(I)V"⟩
abbrev cX1_takeOut : ByteArray := prog_3_method_6_code
def yX1_takeOut : MethodName := ⟨RX1, "takeOut", "(I)V"⟩
abbrev cX1_removeFirstSingle : ByteArray := prog_3_method_7_code
def yX1_removeFirstSingle : MethodName := ⟨RX1, "removeFirstSingle", "()I"⟩
abbrev cX1_placeOfMostCommon : ByteArray := prog_3_method_8_code
def yX1_placeOfMostCommon : MethodName := ⟨RX1, "placeOfMostCommon", "(I)I"⟩
abbrev cX1_clear : ByteArray := prog_3_method_9_code
def yX1_clear : MethodName := ⟨RX1, "clear", "()V"⟩
abbrev cX1_copyFrom : ByteArray := prog_3_method_10_code
def yX1_copyFrom : MethodName := ⟨RX1, "copyFrom", "(LRelayTransfer$PacketList;)V"⟩
def RX2 : String := "RelayTransfer$Receiver"
def TX2 : u_T := fun k => match k with
  | 0 => ("RelayTransfer$Receiver", "kept", "LRelayTransfer$PacketList;", true)
  | 1 => ("RelayTransfer$Receiver", "span", "LRelayTransfer$Span;", true)
  | 2 => ("RelayTransfer$Receiver", "solved", "LRelayTransfer$Findings;", true)
  | 3 => ("RelayTransfer$Receiver", "waiting", "LRelayTransfer$PacketList;", true)
  | 4 => ("RelayTransfer$Receiver", "peeled", "LRelayTransfer$Findings;", true)
  | 5 => ("RelayTransfer$Receiver", "arrived", "I", false)
  | 6 => ("RelayTransfer$Receiver", "stale", "I", false)
  | _ => ("RelayTransfer$Receiver", "mostWaiting", "I", false)
def tyX2 : Nat → FieldType := fun k => match k with
  | 0 => .object "RelayTransfer$PacketList"
  | 1 => .object "RelayTransfer$Span"
  | 2 => .object "RelayTransfer$Findings"
  | 3 => .object "RelayTransfer$PacketList"
  | 4 => .object "RelayTransfer$Findings"
  | 5 => .int
  | 6 => .int
  | _ => .int
abbrev wsX20 : List Cond := u_ws RX2 TX2 8
theorem nmX2 : ∀ a, a < 8 → ∀ b, b < 8 → a ≠ b → (TX2 a).2.1 ≠ (TX2 b).2.1 := by decide +kernel
theorem tyX2_ok : ∀ k, k < 8 → parseFieldDescriptor (TX2 k).2.2.1 = some (tyX2 k) := by decide +kernel
abbrev cX2_init : ByteArray := prog_4_method_1_code
def yX2_init : MethodName := ⟨RX2, "<init>", "()V"⟩
abbrev cX2_accept : ByteArray := prog_4_method_2_code
def yX2_accept : MethodName := ⟨RX2, "accept", "(II)Z"⟩
abbrev cX2_peel : ByteArray := prog_4_method_3_code
def yX2_peel : MethodName := ⟨RX2, "peel", "(II)V"⟩
abbrev cX2_solve : ByteArray := prog_4_method_4_code
def yX2_solve : MethodName := ⟨RX2, "solve", "(I)V"⟩
abbrev cX2_clear : ByteArray := prog_4_method_5_code
def yX2_clear : MethodName := ⟨RX2, "clear", "()V"⟩
abbrev cX2_copyFrom : ByteArray := prog_4_method_6_code
def yX2_copyFrom : MethodName := ⟨RX2, "copyFrom", "(LRelayTransfer$Receiver;)V"⟩
def RX3 : String := "RelayTransfer$Setup"
def TX3 : u_T := fun k => match k with
  | 0 => ("RelayTransfer$Setup", "values", "[I", true)
  | 1 => ("RelayTransfer$Setup", "losses", "[I", true)
  | 2 => ("RelayTransfer$Setup", "weights", "[I", true)
  | 3 => ("RelayTransfer$Setup", "blocks", "I", false)
  | 4 => ("RelayTransfer$Setup", "relays", "I", false)
  | 5 => ("RelayTransfer$Setup", "room", "I", false)
  | 6 => ("RelayTransfer$Setup", "policy", "I", false)
  | 7 => ("RelayTransfer$Setup", "style", "I", false)
  | _ => ("RelayTransfer$Setup", "seed", "I", false)
def tyX3 : Nat → FieldType := fun k => match k with
  | 0 => .array .int
  | 1 => .array .int
  | 2 => .array .int
  | 3 => .int
  | 4 => .int
  | 5 => .int
  | 6 => .int
  | 7 => .int
  | _ => .int
abbrev wsX30 : List Cond := u_ws RX3 TX3 9
theorem nmX3 : ∀ a, a < 9 → ∀ b, b < 9 → a ≠ b → (TX3 a).2.1 ≠ (TX3 b).2.1 := by decide +kernel
theorem tyX3_ok : ∀ k, k < 9 → parseFieldDescriptor (TX3 k).2.2.1 = some (tyX3 k) := by decide +kernel
abbrev cX3_init : ByteArray := prog_5_method_1_code
def yX3_init : MethodName := ⟨RX3, "<init>", "()V"⟩
abbrev cX3_giveFirstValues : ByteArray := prog_5_method_2_code
def yX3_giveFirstValues : MethodName := ⟨RX3, "giveFirstValues", "()V"⟩
abbrev cX3_restart : ByteArray := prog_5_method_3_code
def yX3_restart : MethodName := ⟨RX3, "restart", "(II)V"⟩
abbrev cX3_changePolicy : ByteArray := prog_5_method_4_code
def yX3_changePolicy : MethodName := ⟨RX3, "changePolicy", "(I)I"⟩
abbrev cX3_changeStyle : ByteArray := prog_5_method_5_code
def yX3_changeStyle : MethodName := ⟨RX3, "changeStyle", "(I)I"⟩
abbrev cX3_changeSeed : ByteArray := prog_5_method_6_code
def yX3_changeSeed : MethodName := ⟨RX3, "changeSeed", "(I)I"⟩
abbrev cX3_draw : ByteArray := prog_5_method_7_code
def yX3_draw : MethodName := ⟨RX3, "draw", "(I)I"⟩
abbrev cX3_isLostOn : ByteArray := prog_5_method_8_code
def yX3_isLostOn : MethodName := ⟨RX3, "isLostOn", "(I)Z"⟩
abbrev cX3_weightSum : ByteArray := prog_5_method_9_code
def yX3_weightSum : MethodName := ⟨RX3, "weightSum", "()I"⟩
abbrev cX3_drawDegree : ByteArray := prog_5_method_10_code
def yX3_drawDegree : MethodName := ⟨RX3, "drawDegree", "()I"⟩
abbrev cX3_drawPacket : ByteArray := prog_5_method_11_code
def yX3_drawPacket : MethodName := ⟨RX3, "drawPacket", "()I"⟩
abbrev cX3_packetOf : ByteArray := prog_5_method_12_code
def yX3_packetOf : MethodName := ⟨RX3, "packetOf", "(I)I"⟩
abbrev cX3_copyFrom : ByteArray := prog_5_method_13_code
def yX3_copyFrom : MethodName := ⟨RX3, "copyFrom", "(LRelayTransfer$Setup;)V"⟩
def RX4 : String := "RelayTransfer$Span"
def TX4 : u_T := fun k => match k with
  | 0 => ("RelayTransfer$Span", "rows", "[I", true)
  | _ => ("RelayTransfer$Span", "rank", "I", false)
def tyX4 : Nat → FieldType := fun k => match k with
  | 0 => .array .int
  | _ => .int
abbrev wsX40 : List Cond := u_ws RX4 TX4 2
theorem nmX4 : ∀ a, a < 2 → ∀ b, b < 2 → a ≠ b → (TX4 a).2.1 ≠ (TX4 b).2.1 := by decide +kernel
theorem tyX4_ok : ∀ k, k < 2 → parseFieldDescriptor (TX4 k).2.2.1 = some (tyX4 k) := by decide +kernel
abbrev cX4_init : ByteArray := prog_6_method_1_code
def yX4_init : MethodName := ⟨RX4, "<init>", "()V"⟩
abbrev cX4_take : ByteArray := prog_6_method_2_code
def yX4_take : MethodName := ⟨RX4, "take", "(I)Z"⟩
abbrev cX4_reduce : ByteArray := prog_6_method_3_code
def yX4_reduce : MethodName := ⟨RX4, "reduce", "(I)I"⟩
abbrev cX4_clear : ByteArray := prog_6_method_4_code
def yX4_clear : MethodName := ⟨RX4, "clear", "()V"⟩
abbrev cX4_copyFrom : ByteArray := prog_6_method_5_code
def yX4_copyFrom : MethodName := ⟨RX4, "copyFrom", "(LRelayTransfer$Span;)V"⟩
def RX5 : String := "RelayTransfer$Transfer"
def TX5 : u_T := fun k => match k with
  | 0 => ("RelayTransfer$Transfer", "setup", "LRelayTransfer$Setup;", true)
  | 1 => ("RelayTransfer$Transfer", "stores", "[LRelayTransfer$PacketList;", true)
  | 2 => ("RelayTransfer$Transfer", "receiver", "LRelayTransfer$Receiver;", true)
  | 3 => ("RelayTransfer$Transfer", "time", "I", false)
  | 4 => ("RelayTransfer$Transfer", "made", "I", false)
  | 5 => ("RelayTransfer$Transfer", "lost", "I", false)
  | 6 => ("RelayTransfer$Transfer", "onLinks", "[I", true)
  | _ => ("RelayTransfer$Transfer", "work", "LRelayTransfer$Span;", true)
def tyX5 : Nat → FieldType := fun k => match k with
  | 0 => .object "RelayTransfer$Setup"
  | 1 => .array (.object "RelayTransfer$PacketList")
  | 2 => .object "RelayTransfer$Receiver"
  | 3 => .int
  | 4 => .int
  | 5 => .int
  | 6 => .array .int
  | _ => .object "RelayTransfer$Span"
abbrev wsX50 : List Cond := u_ws RX5 TX5 8
theorem nmX5 : ∀ a, a < 8 → ∀ b, b < 8 → a ≠ b → (TX5 a).2.1 ≠ (TX5 b).2.1 := by decide +kernel
theorem tyX5_ok : ∀ k, k < 8 → parseFieldDescriptor (TX5 k).2.2.1 = some (tyX5 k) := by decide +kernel
abbrev cX5_init : ByteArray := prog_7_method_1_code
def yX5_init : MethodName := ⟨RX5, "<init>", "()V"⟩
abbrev cX5_restart : ByteArray := prog_7_method_2_code
def yX5_restart : MethodName := ⟨RX5, "restart", "(II)V"⟩
abbrev cX5_changeRoom : ByteArray := prog_7_method_3_code
def yX5_changeRoom : MethodName := ⟨RX5, "changeRoom", "(I)I"⟩
abbrev cX5_isComplete : ByteArray := prog_7_method_4_code
def yX5_isComplete : MethodName := ⟨RX5, "isComplete", "(I)Z"⟩
abbrev cX5_listOf : ByteArray := prog_7_method_5_code
def yX5_listOf : MethodName := ⟨RX5, "listOf", "(I)LRelayTransfer$PacketList;"⟩
abbrev cX5_rankOf : ByteArray := prog_7_method_6_code
def yX5_rankOf : MethodName := ⟨RX5, "rankOf", "(LRelayTransfer$PacketList;)I"⟩
abbrev cX5_isNovelFor : ByteArray := prog_7_method_7_code
def yX5_isNovelFor : MethodName := ⟨RX5, "isNovelFor", "(LRelayTransfer$PacketList;I)Z"⟩
abbrev cX5_tick : ByteArray := prog_7_method_8_code
def yX5_tick : MethodName := ⟨RX5, "tick", "()V"⟩
abbrev cX5_make : ByteArray := prog_7_method_9_code
def yX5_make : MethodName := ⟨RX5, "make", "(I)I"⟩
abbrev cX5_forward : ByteArray := prog_7_method_10_code
def yX5_forward : MethodName := ⟨RX5, "forward", "(LRelayTransfer$PacketList;)I"⟩
abbrev cX5_recode : ByteArray := prog_7_method_11_code
def yX5_recode : MethodName := ⟨RX5, "recode", "(LRelayTransfer$PacketList;)I"⟩
abbrev cX5_store : ByteArray := prog_7_method_12_code
def yX5_store : MethodName := ⟨RX5, "store", "(LRelayTransfer$PacketList;I)V"⟩
abbrev cX5_copyFrom : ByteArray := prog_7_method_13_code
def yX5_copyFrom : MethodName := ⟨RX5, "copyFrom", "(LRelayTransfer$Transfer;)V"⟩
def RX6 : String := "RelayTransfer"
def TX6 : u_T := fun k => match k with
  | 0 => ("RelayTransfer", "now", "LRelayTransfer$Transfer;", true)
  | 1 => ("RelayTransfer", "trial", "LRelayTransfer$Transfer;", true)
  | 2 => ("RelayTransfer", "history", "[LRelayTransfer$Transfer;", true)
  | 3 => ("RelayTransfer", "images", "[LRelayTransfer$Transfer;", true)
  | 4 => ("RelayTransfer", "filled", "[Z", true)
  | _ => ("RelayTransfer", "recorded", "I", false)
def tyX6 : Nat → FieldType := fun k => match k with
  | 0 => .object "RelayTransfer$Transfer"
  | 1 => .object "RelayTransfer$Transfer"
  | 2 => .array (.object "RelayTransfer$Transfer")
  | 3 => .array (.object "RelayTransfer$Transfer")
  | 4 => .array .boolean
  | _ => .int
abbrev wsX60 : List Cond := u_ws RX6 TX6 6
theorem nmX6 : ∀ a, a < 6 → ∀ b, b < 6 → a ≠ b → (TX6 a).2.1 ≠ (TX6 b).2.1 := by decide +kernel
theorem tyX6_ok : ∀ k, k < 6 → parseFieldDescriptor (TX6 k).2.2.1 = some (tyX6 k) := by decide +kernel
abbrev cX6_init : ByteArray := prog_1_method_1_code
def yX6_init : MethodName := ⟨RX6, "<init>", "()V"⟩
abbrev cX6_begin : ByteArray := prog_1_method_2_code
def yX6_begin : MethodName := ⟨RX6, "begin", "(II)I"⟩
abbrev cX6_setBlock : ByteArray := prog_1_method_3_code
def yX6_setBlock : MethodName := ⟨RX6, "setBlock", "(II)I"⟩
abbrev cX6_setLoss : ByteArray := prog_1_method_4_code
def yX6_setLoss : MethodName := ⟨RX6, "setLoss", "(II)I"⟩
abbrev cX6_setWeight : ByteArray := prog_1_method_5_code
def yX6_setWeight : MethodName := ⟨RX6, "setWeight", "(II)I"⟩
abbrev cX6_set : ByteArray := prog_1_method_6_code
def yX6_set : MethodName := ⟨RX6, "set", "(II)I"⟩
abbrev cX6_run : ByteArray := prog_1_method_7_code
def yX6_run : MethodName := ⟨RX6, "run", "(I)I"⟩
abbrev cX6_inject : ByteArray := prog_1_method_8_code
def yX6_inject : MethodName := ⟨RX6, "inject", "(I)I"⟩
abbrev cX6_undo : ByteArray := prog_1_method_9_code
def yX6_undo : MethodName := ⟨RX6, "undo", "()I"⟩
abbrev cX6_told : ByteArray := prog_1_method_10_code
def yX6_told : MethodName := ⟨RX6, "told", "(I)I"⟩
abbrev cX6_block : ByteArray := prog_1_method_11_code
def yX6_block : MethodName := ⟨RX6, "block", "(II)I"⟩
abbrev cX6_packet : ByteArray := prog_1_method_12_code
def yX6_packet : MethodName := ⟨RX6, "packet", "(III)I"⟩
abbrev cX6_waiting : ByteArray := prog_1_method_13_code
def yX6_waiting : MethodName := ⟨RX6, "waiting", "(II)I"⟩
abbrev cX6_node : ByteArray := prog_1_method_14_code
def yX6_node : MethodName := ⟨RX6, "node", "(II)I"⟩
abbrev cX6_novel : ByteArray := prog_1_method_15_code
def yX6_novel : MethodName := ⟨RX6, "novel", "(II)I"⟩
abbrev cX6_overhead : ByteArray := prog_1_method_16_code
def yX6_overhead : MethodName := ⟨RX6, "overhead", "()F"⟩
abbrev cX6_forecast : ByteArray := prog_1_method_17_code
def yX6_forecast : MethodName := ⟨RX6, "forecast", "(I)I"⟩
abbrev cX6_bestPolicy : ByteArray := prog_1_method_18_code
def yX6_bestPolicy : MethodName := ⟨RX6, "bestPolicy", "()I"⟩
abbrev cX6_bearable : ByteArray := prog_1_method_19_code
def yX6_bearable : MethodName := ⟨RX6, "bearable", "(II)I"⟩
abbrev cX6_keep : ByteArray := prog_1_method_20_code
def yX6_keep : MethodName := ⟨RX6, "keep", "(I)I"⟩
abbrev cX6_back : ByteArray := prog_1_method_21_code
def yX6_back : MethodName := ⟨RX6, "back", "(I)I"⟩
abbrev cX6_remember : ByteArray := prog_1_method_22_code
def yX6_remember : MethodName := ⟨RX6, "remember", "()V"⟩
abbrev cX6_dropOldestRecord : ByteArray := prog_1_method_23_code
def yX6_dropOldestRecord : MethodName := ⟨RX6, "dropOldestRecord", "()V"⟩
abbrev cX6_ticksOfTrial : ByteArray := prog_1_method_24_code
def yX6_ticksOfTrial : MethodName := ⟨RX6, "ticksOfTrial", "(II)I"⟩
abbrev cX6_isBlock : ByteArray := prog_1_method_25_code
def yX6_isBlock : MethodName := ⟨RX6, "isBlock", "(I)Z"⟩
abbrev cX6_isLink : ByteArray := prog_1_method_26_code
def yX6_isLink : MethodName := ⟨RX6, "isLink", "(I)Z"⟩
abbrev cX6_isBlockSet : ByteArray := prog_1_method_27_code
def yX6_isBlockSet : MethodName := ⟨RX6, "isBlockSet", "(I)Z"⟩
abbrev cX6_isSetting : ByteArray := prog_1_method_28_code
def yX6_isSetting : MethodName := ⟨RX6, "isSetting", "(II)Z"⟩
abbrev cX6_isWithin : ByteArray := prog_1_method_29_code
def yX6_isWithin : MethodName := ⟨RX6, "isWithin", "(III)Z"⟩
abbrev cX6_numberOfPacket : ByteArray := prog_1_method_30_code
def yX6_numberOfPacket : MethodName := ⟨RX6, "numberOfPacket", "(LRelayTransfer$PacketList;II)I"⟩
abbrev cX6_setIn : ByteArray := prog_1_method_31_code
def yX6_setIn : MethodName := ⟨RX6, "setIn", "(I)I"⟩
abbrev cX6_valueIn : ByteArray := prog_1_method_32_code
def yX6_valueIn : MethodName := ⟨RX6, "valueIn", "(I)I"⟩
abbrev cX6_degreeOf : ByteArray := prog_1_method_33_code
def yX6_degreeOf : MethodName := ⟨RX6, "degreeOf", "(I)I"⟩
abbrev cX6_hasBlock : ByteArray := prog_1_method_34_code
def yX6_hasBlock : MethodName := ⟨RX6, "hasBlock", "(II)Z"⟩
abbrev cX6_packetWith : ByteArray := prog_1_method_35_code
def yX6_packetWith : MethodName := ⟨RX6, "packetWith", "(II)I"⟩
abbrev cX6_copyRow : ByteArray := prog_1_method_36_code
def yX6_copyRow : MethodName := ⟨RX6, "copyRow", "([I[I)V"⟩
def RX7 : String := "RelayTransferModel"
def TX7 : u_T := fun k => match k with
  | 0 => ("RelayTransferModel", "w", "[I", true)
  | 1 => ("RelayTransferModel", "past", "[I", true)
  | 2 => ("RelayTransferModel", "pastMany", "I", false)
  | 3 => ("RelayTransferModel", "images", "[I", true)
  | 4 => ("RelayTransferModel", "filled", "I", false)
  | 5 => ("RelayTransferModel", "base", "[I", true)
  | 6 => ("RelayTransferModel", "baseValue", "[I", true)
  | 7 => ("RelayTransferModel", "rest", "I", false)
  | 8 => ("RelayTransferModel", "restValue", "I", false)
  | 9 => ("RelayTransferModel", "madeSet", "I", false)
  | 10 => ("RelayTransferModel", "madeValue", "I", false)
  | 11 => ("RelayTransferModel", "sets", "[I", true)
  | 12 => ("RelayTransferModel", "values", "[I", true)
  | _ => ("RelayTransferModel", "held", "[I", true)
def tyX7 : Nat → FieldType := fun k => match k with
  | 0 => .array .int
  | 1 => .array .int
  | 2 => .int
  | 3 => .array .int
  | 4 => .int
  | 5 => .array .int
  | 6 => .array .int
  | 7 => .int
  | 8 => .int
  | 9 => .int
  | 10 => .int
  | 11 => .array .int
  | 12 => .array .int
  | _ => .array .int
abbrev wsX70 : List Cond := u_ws RX7 TX7 14
theorem nmX7 : ∀ a, a < 14 → ∀ b, b < 14 → a ≠ b → (TX7 a).2.1 ≠ (TX7 b).2.1 := by decide +kernel
theorem tyX7_ok : ∀ k, k < 14 → parseFieldDescriptor (TX7 k).2.2.1 = some (tyX7 k) := by decide +kernel
abbrev cX7_init : ByteArray := prog_9_method_1_code
def yX7_init : MethodName := ⟨RX7, "<init>", "()V"⟩
abbrev cX7_isIn : ByteArray := prog_9_method_3_code
def yX7_isIn : MethodName := ⟨RX7, "isIn", "(III)Z"⟩
abbrev cX7_lay : ByteArray := prog_9_method_4_code
def yX7_lay : MethodName := ⟨RX7, "lay", "(II)V"⟩
abbrev cX7_remember : ByteArray := prog_9_method_5_code
def yX7_remember : MethodName := ⟨RX7, "remember", "()V"⟩
abbrev cX7_setAt : ByteArray := prog_9_method_6_code
def yX7_setAt : MethodName := ⟨RX7, "setAt", "(II)I"⟩
abbrev cX7_append : ByteArray := prog_9_method_7_code
def yX7_append : MethodName := ⟨RX7, "append", "(III)V"⟩
abbrev cX7_drop : ByteArray := prog_9_method_8_code
def yX7_drop : MethodName := ⟨RX7, "drop", "(II)V"⟩
abbrev cX7_size : ByteArray := prog_9_method_9_code
def yX7_size : MethodName := ⟨RX7, "size", "(I)I"⟩
abbrev cX7_lowest : ByteArray := prog_9_method_10_code
def yX7_lowest : MethodName := ⟨RX7, "lowest", "(I)I"⟩
abbrev cX7_valueOf : ByteArray := prog_9_method_11_code
def yX7_valueOf : MethodName := ⟨RX7, "valueOf", "(I)I"⟩
abbrev cX7_reduce : ByteArray := prog_9_method_12_code
def yX7_reduce : MethodName := ⟨RX7, "reduce", "(II)V"⟩
abbrev cX7_highest : ByteArray := prog_9_method_13_code
def yX7_highest : MethodName := ⟨RX7, "highest", "(I)I"⟩
abbrev cX7_layBase : ByteArray := prog_9_method_14_code
def yX7_layBase : MethodName := ⟨RX7, "layBase", "(I)I"⟩
abbrev cX7_isNovel : ByteArray := prog_9_method_15_code
def yX7_isNovel : MethodName := ⟨RX7, "isNovel", "(II)Z"⟩
abbrev cX7_draw : ByteArray := prog_9_method_16_code
def yX7_draw : MethodName := ⟨RX7, "draw", "(I)I"⟩
abbrev cX7_weights : ByteArray := prog_9_method_17_code
def yX7_weights : MethodName := ⟨RX7, "weights", "()I"⟩
abbrev cX7_makeAtSource : ByteArray := prog_9_method_18_code
def yX7_makeAtSource : MethodName := ⟨RX7, "makeAtSource", "()V"⟩
abbrev cX7_makeAtRelay : ByteArray := prog_9_method_19_code
def yX7_makeAtRelay : MethodName := ⟨RX7, "makeAtRelay", "(I)V"⟩
abbrev cX7_storeOf : ByteArray := prog_9_method_20_code
def yX7_storeOf : MethodName := ⟨RX7, "storeOf", "(I)I"⟩
abbrev cX7_mostAlike : ByteArray := prog_9_method_21_code
def yX7_mostAlike : MethodName := ⟨RX7, "mostAlike", "(II)I"⟩
abbrev cX7_arriveAtRelay : ByteArray := prog_9_method_22_code
def yX7_arriveAtRelay : MethodName := ⟨RX7, "arriveAtRelay", "(III)V"⟩
abbrev cX7_learn : ByteArray := prog_9_method_23_code
def yX7_learn : MethodName := ⟨RX7, "learn", "(II)V"⟩
abbrev cX7_firstAlone : ByteArray := prog_9_method_24_code
def yX7_firstAlone : MethodName := ⟨RX7, "firstAlone", "()I"⟩
abbrev cX7_peel : ByteArray := prog_9_method_25_code
def yX7_peel : MethodName := ⟨RX7, "peel", "(II)V"⟩
abbrev cX7_solved : ByteArray := prog_9_method_26_code
def yX7_solved : MethodName := ⟨RX7, "solved", "(I)I"⟩
abbrev cX7_arriveAtReceiver : ByteArray := prog_9_method_27_code
def yX7_arriveAtReceiver : MethodName := ⟨RX7, "arriveAtReceiver", "(II)I"⟩
abbrev cX7_note : ByteArray := prog_9_method_28_code
def yX7_note : MethodName := ⟨RX7, "note", "()V"⟩
abbrev cX7_tick : ByteArray := prog_9_method_29_code
def yX7_tick : MethodName := ⟨RX7, "tick", "()V"⟩
abbrev cX7_begin : ByteArray := prog_9_method_30_code
def yX7_begin : MethodName := ⟨RX7, "begin", "(II)I"⟩
abbrev cX7_isBlock : ByteArray := prog_9_method_31_code
def yX7_isBlock : MethodName := ⟨RX7, "isBlock", "(I)Z"⟩
abbrev cX7_put : ByteArray := prog_9_method_32_code
def yX7_put : MethodName := ⟨RX7, "put", "(II)I"⟩
abbrev cX7_setBlock : ByteArray := prog_9_method_33_code
def yX7_setBlock : MethodName := ⟨RX7, "setBlock", "(II)I"⟩
abbrev cX7_setLoss : ByteArray := prog_9_method_34_code
def yX7_setLoss : MethodName := ⟨RX7, "setLoss", "(II)I"⟩
abbrev cX7_setWeight : ByteArray := prog_9_method_35_code
def yX7_setWeight : MethodName := ⟨RX7, "setWeight", "(II)I"⟩
abbrev cX7_set : ByteArray := prog_9_method_36_code
def yX7_set : MethodName := ⟨RX7, "set", "(II)I"⟩
abbrev cX7_run : ByteArray := prog_9_method_37_code
def yX7_run : MethodName := ⟨RX7, "run", "(I)I"⟩
abbrev cX7_isSet : ByteArray := prog_9_method_38_code
def yX7_isSet : MethodName := ⟨RX7, "isSet", "(I)Z"⟩
abbrev cX7_inject : ByteArray := prog_9_method_39_code
def yX7_inject : MethodName := ⟨RX7, "inject", "(I)I"⟩
abbrev cX7_undo : ByteArray := prog_9_method_40_code
def yX7_undo : MethodName := ⟨RX7, "undo", "()I"⟩
abbrev cX7_known : ByteArray := prog_9_method_41_code
def yX7_known : MethodName := ⟨RX7, "known", "()I"⟩
abbrev cX7_solvedBlocks : ByteArray := prog_9_method_42_code
def yX7_solvedBlocks : MethodName := ⟨RX7, "solvedBlocks", "()I"⟩
abbrev cX7_told : ByteArray := prog_9_method_43_code
def yX7_told : MethodName := ⟨RX7, "told", "(I)I"⟩
abbrev cX7_block : ByteArray := prog_9_method_44_code
def yX7_block : MethodName := ⟨RX7, "block", "(II)I"⟩
abbrev cX7_listOf : ByteArray := prog_9_method_45_code
def yX7_listOf : MethodName := ⟨RX7, "listOf", "(I)I"⟩
abbrev cX7_part : ByteArray := prog_9_method_46_code
def yX7_part : MethodName := ⟨RX7, "part", "(III)I"⟩
abbrev cX7_hasList : ByteArray := prog_9_method_47_code
def yX7_hasList : MethodName := ⟨RX7, "hasList", "(I)Z"⟩
abbrev cX7_packet : ByteArray := prog_9_method_48_code
def yX7_packet : MethodName := ⟨RX7, "packet", "(III)I"⟩
abbrev cX7_waiting : ByteArray := prog_9_method_49_code
def yX7_waiting : MethodName := ⟨RX7, "waiting", "(II)I"⟩
abbrev cX7_node : ByteArray := prog_9_method_50_code
def yX7_node : MethodName := ⟨RX7, "node", "(II)I"⟩
abbrev cX7_novel : ByteArray := prog_9_method_51_code
def yX7_novel : MethodName := ⟨RX7, "novel", "(II)I"⟩
abbrev cX7_overhead : ByteArray := prog_9_method_52_code
def yX7_overhead : MethodName := ⟨RX7, "overhead", "()F"⟩
abbrev cX7_hold : ByteArray := prog_9_method_53_code
def yX7_hold : MethodName := ⟨RX7, "hold", "()V"⟩
abbrev cX7_release : ByteArray := prog_9_method_54_code
def yX7_release : MethodName := ⟨RX7, "release", "()V"⟩
abbrev cX7_isWhole : ByteArray := prog_9_method_55_code
def yX7_isWhole : MethodName := ⟨RX7, "isWhole", "(I)Z"⟩
abbrev cX7_ticksTo : ByteArray := prog_9_method_56_code
def yX7_ticksTo : MethodName := ⟨RX7, "ticksTo", "(II)I"⟩
abbrev cX7_forecast : ByteArray := prog_9_method_57_code
def yX7_forecast : MethodName := ⟨RX7, "forecast", "(I)I"⟩
abbrev cX7_bestPolicy : ByteArray := prog_9_method_58_code
def yX7_bestPolicy : MethodName := ⟨RX7, "bestPolicy", "()I"⟩
abbrev cX7_bearable : ByteArray := prog_9_method_59_code
def yX7_bearable : MethodName := ⟨RX7, "bearable", "(II)I"⟩
abbrev cX7_isImage : ByteArray := prog_9_method_60_code
def yX7_isImage : MethodName := ⟨RX7, "isImage", "(I)Z"⟩
abbrev cX7_keep : ByteArray := prog_9_method_61_code
def yX7_keep : MethodName := ⟨RX7, "keep", "(I)I"⟩
abbrev cX7_back : ByteArray := prog_9_method_62_code
def yX7_back : MethodName := ⟨RX7, "back", "(I)I"⟩
def RJ6 : String := "java/lang/Integer"
def TJ6 : u_T := fun k => match k with
  | _ => ("", "", "", false)
def tyJ6 : Nat → FieldType := fun k => match k with
  | _ => .int
abbrev wsJ60 : List Cond := u_ws RJ6 TJ6 0
theorem nmJ6 : ∀ a, a < 0 → ∀ b, b < 0 → a ≠ b → (TJ6 a).2.1 ≠ (TJ6 b).2.1 := by decide +kernel
theorem tyJ6_ok : ∀ k, k < 0 → parseFieldDescriptor (TJ6 k).2.2.1 = some (tyJ6 k) := by decide +kernel
abbrev cJ6_bitCount_0f7a4 : ByteArray := prog_10_method_49_code
def yJ6_bitCount_0f7a4 : MethodName := ⟨RJ6, "bitCount", "(I)I"⟩
def RJ9 : String := "java/lang/Math"
def TJ9 : u_T := fun k => match k with
  | _ => ("", "", "", false)
def tyJ9 : Nat → FieldType := fun k => match k with
  | _ => .int
abbrev wsJ90 : List Cond := u_ws RJ9 TJ9 0
theorem nmJ9 : ∀ a, a < 0 → ∀ b, b < 0 → a ≠ b → (TJ9 a).2.1 ≠ (TJ9 b).2.1 := by decide +kernel
theorem tyJ9_ok : ∀ k, k < 0 → parseFieldDescriptor (TJ9 k).2.2.1 = some (tyJ9 k) := by decide +kernel
abbrev cJ9_max_7cf53 : ByteArray := prog_11_method_65_code
def yJ9_max_7cf53 : MethodName := ⟨RJ9, "max", "(II)I"⟩
abbrev cJ9_min_7cf53 : ByteArray := prog_11_method_69_code
def yJ9_min_7cf53 : MethodName := ⟨RJ9, "min", "(II)I"⟩
def RL : String := "RelayTransferLaw"
abbrev cL_law : ByteArray := code
def yL_law : MethodName := ⟨RL, "law", "([I)Z"⟩
end
section
/-! the words of the tables, one by one -/
def TB : List Cond := lw_tbl.filter goodWord
theorem TB_in {w : Cond} (i : Nat) (h : lw_tbl[i]? = some w) (g : goodWord w = true) : w ∈ TB := List.mem_filter.mpr ⟨List.mem_of_getElem? h, g⟩
theorem TB_good {w : Cond} (h : w ∈ TB) : goodWord w = true := (List.mem_filter.mp h).2
def zN : Cond → Bool
  | .fieldLinkNest .. => true
  | .methodLinkNest .. => true
  | _ => false
def NB : List Cond := lw_tbl.filter zN
theorem NB_in {w : Cond} (i : Nat) (h : lw_tbl[i]? = some w) (g : zN w = true) : w ∈ NB := List.mem_filter.mpr ⟨List.mem_of_getElem? h, g⟩
theorem NB_n {w : Cond} (h : w ∈ NB) : zN w = true := (List.mem_filter.mp h).2
theorem NB_tbl {w : Cond} (h : w ∈ NB) : w ∈ lw_tbl := (List.mem_filter.mp h).1
theorem TB_tbl {w : Cond} (h : w ∈ TB) : w ∈ lw_tbl := (List.mem_filter.mp h).1
theorem q_0 : (Jvm.Cond.selects "RelayTransfer$Setup" ({ cls := "RelayTransfer$Setup", name := "giveFirstValues", desc := "()V" } : Jvm.MethodName) ({ cls := "RelayTransfer$Setup", name := "giveFirstValues", desc := "()V" } : Jvm.MethodName)) ∈ TB := TB_in 0 (by decide +kernel) (by decide +kernel)
theorem q_1 : (Jvm.Cond.selects "RelayTransfer" ({ cls := "RelayTransfer", name := "remember", desc := "()V" } : Jvm.MethodName) ({ cls := "RelayTransfer", name := "remember", desc := "()V" } : Jvm.MethodName)) ∈ TB := TB_in 1 (by decide +kernel) (by decide +kernel)
theorem q_2 : (Jvm.Cond.selects "RelayTransfer" ({ cls := "RelayTransfer", name := "dropOldestRecord", desc := "()V" } : Jvm.MethodName) ({ cls := "RelayTransfer", name := "dropOldestRecord", desc := "()V" } : Jvm.MethodName)) ∈ TB := TB_in 2 (by decide +kernel) (by decide +kernel)
theorem q_3 : (Jvm.Cond.selects "RelayTransfer" ({ cls := "RelayTransfer", name := "isBlock", desc := "(I)Z" } : Jvm.MethodName) ({ cls := "RelayTransfer", name := "isBlock", desc := "(I)Z" } : Jvm.MethodName)) ∈ TB := TB_in 3 (by decide +kernel) (by decide +kernel)
theorem q_4 : (Jvm.Cond.selects "RelayTransfer" ({ cls := "RelayTransfer", name := "isLink", desc := "(I)Z" } : Jvm.MethodName) ({ cls := "RelayTransfer", name := "isLink", desc := "(I)Z" } : Jvm.MethodName)) ∈ TB := TB_in 4 (by decide +kernel) (by decide +kernel)
theorem q_5 : (Jvm.Cond.selects "RelayTransfer$Transfer" ({ cls := "RelayTransfer$Transfer", name := "make", desc := "(I)I" } : Jvm.MethodName) ({ cls := "RelayTransfer$Transfer", name := "make", desc := "(I)I" } : Jvm.MethodName)) ∈ TB := TB_in 5 (by decide +kernel) (by decide +kernel)
theorem q_6 : (Jvm.Cond.selects "RelayTransfer$Transfer" ({ cls := "RelayTransfer$Transfer", name := "recode", desc := "(LRelayTransfer$PacketList;)I" } : Jvm.MethodName) ({ cls := "RelayTransfer$Transfer", name := "recode", desc := "(LRelayTransfer$PacketList;)I" } : Jvm.MethodName)) ∈ TB := TB_in 6 (by decide +kernel) (by decide +kernel)
theorem q_7 : (Jvm.Cond.selects "RelayTransfer$Transfer" ({ cls := "RelayTransfer$Transfer", name := "forward", desc := "(LRelayTransfer$PacketList;)I" } : Jvm.MethodName) ({ cls := "RelayTransfer$Transfer", name := "forward", desc := "(LRelayTransfer$PacketList;)I" } : Jvm.MethodName)) ∈ TB := TB_in 7 (by decide +kernel) (by decide +kernel)
theorem q_8 : (Jvm.Cond.selects "RelayTransfer$Receiver" ({ cls := "RelayTransfer$Receiver", name := "peel", desc := "(II)V" } : Jvm.MethodName) ({ cls := "RelayTransfer$Receiver", name := "peel", desc := "(II)V" } : Jvm.MethodName)) ∈ TB := TB_in 8 (by decide +kernel) (by decide +kernel)
theorem q_9 : (Jvm.Cond.selects "RelayTransfer$Receiver" ({ cls := "RelayTransfer$Receiver", name := "solve", desc := "(I)V" } : Jvm.MethodName) ({ cls := "RelayTransfer$Receiver", name := "solve", desc := "(I)V" } : Jvm.MethodName)) ∈ TB := TB_in 9 (by decide +kernel) (by decide +kernel)
theorem q_10 : (Jvm.Cond.selects "RelayTransfer$Transfer" ({ cls := "RelayTransfer$Transfer", name := "store", desc := "(LRelayTransfer$PacketList;I)V" } : Jvm.MethodName) ({ cls := "RelayTransfer$Transfer", name := "store", desc := "(LRelayTransfer$PacketList;I)V" } : Jvm.MethodName)) ∈ TB := TB_in 10 (by decide +kernel) (by decide +kernel)
theorem q_11 : (Jvm.Cond.selects "RelayTransfer" ({ cls := "RelayTransfer", name := "isBlockSet", desc := "(I)Z" } : Jvm.MethodName) ({ cls := "RelayTransfer", name := "isBlockSet", desc := "(I)Z" } : Jvm.MethodName)) ∈ TB := TB_in 11 (by decide +kernel) (by decide +kernel)
theorem q_12 : (Jvm.Cond.selects "RelayTransfer" ({ cls := "RelayTransfer", name := "ticksOfTrial", desc := "(II)I" } : Jvm.MethodName) ({ cls := "RelayTransfer", name := "ticksOfTrial", desc := "(II)I" } : Jvm.MethodName)) ∈ TB := TB_in 12 (by decide +kernel) (by decide +kernel)
theorem q_13 : (Jvm.Cond.selects "RelayTransferModel" ({ cls := "RelayTransferModel", name := "lay", desc := "(II)V" } : Jvm.MethodName) ({ cls := "RelayTransferModel", name := "lay", desc := "(II)V" } : Jvm.MethodName)) ∈ TB := TB_in 13 (by decide +kernel) (by decide +kernel)
theorem q_14 : (Jvm.Cond.selects "RelayTransferModel" ({ cls := "RelayTransferModel", name := "remember", desc := "()V" } : Jvm.MethodName) ({ cls := "RelayTransferModel", name := "remember", desc := "()V" } : Jvm.MethodName)) ∈ TB := TB_in 14 (by decide +kernel) (by decide +kernel)
theorem q_15 : (Jvm.Cond.selects "RelayTransferModel" ({ cls := "RelayTransferModel", name := "isBlock", desc := "(I)Z" } : Jvm.MethodName) ({ cls := "RelayTransferModel", name := "isBlock", desc := "(I)Z" } : Jvm.MethodName)) ∈ TB := TB_in 15 (by decide +kernel) (by decide +kernel)
theorem q_16 : (Jvm.Cond.selects "RelayTransferModel" ({ cls := "RelayTransferModel", name := "put", desc := "(II)I" } : Jvm.MethodName) ({ cls := "RelayTransferModel", name := "put", desc := "(II)I" } : Jvm.MethodName)) ∈ TB := TB_in 16 (by decide +kernel) (by decide +kernel)
theorem q_17 : (Jvm.Cond.selects "RelayTransferModel" ({ cls := "RelayTransferModel", name := "weights", desc := "()I" } : Jvm.MethodName) ({ cls := "RelayTransferModel", name := "weights", desc := "()I" } : Jvm.MethodName)) ∈ TB := TB_in 17 (by decide +kernel) (by decide +kernel)
theorem q_18 : (Jvm.Cond.selects "RelayTransferModel" ({ cls := "RelayTransferModel", name := "drop", desc := "(II)V" } : Jvm.MethodName) ({ cls := "RelayTransferModel", name := "drop", desc := "(II)V" } : Jvm.MethodName)) ∈ TB := TB_in 18 (by decide +kernel) (by decide +kernel)
theorem q_19 : (Jvm.Cond.selects "RelayTransferModel" ({ cls := "RelayTransferModel", name := "tick", desc := "()V" } : Jvm.MethodName) ({ cls := "RelayTransferModel", name := "tick", desc := "()V" } : Jvm.MethodName)) ∈ TB := TB_in 19 (by decide +kernel) (by decide +kernel)
theorem q_20 : (Jvm.Cond.selects "RelayTransferModel" ({ cls := "RelayTransferModel", name := "makeAtSource", desc := "()V" } : Jvm.MethodName) ({ cls := "RelayTransferModel", name := "makeAtSource", desc := "()V" } : Jvm.MethodName)) ∈ TB := TB_in 20 (by decide +kernel) (by decide +kernel)
theorem q_21 : (Jvm.Cond.selects "RelayTransferModel" ({ cls := "RelayTransferModel", name := "draw", desc := "(I)I" } : Jvm.MethodName) ({ cls := "RelayTransferModel", name := "draw", desc := "(I)I" } : Jvm.MethodName)) ∈ TB := TB_in 21 (by decide +kernel) (by decide +kernel)
theorem q_22 : (Jvm.Cond.selects "RelayTransferModel" ({ cls := "RelayTransferModel", name := "valueOf", desc := "(I)I" } : Jvm.MethodName) ({ cls := "RelayTransferModel", name := "valueOf", desc := "(I)I" } : Jvm.MethodName)) ∈ TB := TB_in 22 (by decide +kernel) (by decide +kernel)
theorem q_23 : (Jvm.Cond.selects "RelayTransferModel" ({ cls := "RelayTransferModel", name := "makeAtRelay", desc := "(I)V" } : Jvm.MethodName) ({ cls := "RelayTransferModel", name := "makeAtRelay", desc := "(I)V" } : Jvm.MethodName)) ∈ TB := TB_in 23 (by decide +kernel) (by decide +kernel)
theorem q_24 : (Jvm.Cond.selects "RelayTransferModel" ({ cls := "RelayTransferModel", name := "append", desc := "(III)V" } : Jvm.MethodName) ({ cls := "RelayTransferModel", name := "append", desc := "(III)V" } : Jvm.MethodName)) ∈ TB := TB_in 24 (by decide +kernel) (by decide +kernel)
theorem q_25 : (Jvm.Cond.selects "RelayTransferModel" ({ cls := "RelayTransferModel", name := "arriveAtRelay", desc := "(III)V" } : Jvm.MethodName) ({ cls := "RelayTransferModel", name := "arriveAtRelay", desc := "(III)V" } : Jvm.MethodName)) ∈ TB := TB_in 25 (by decide +kernel) (by decide +kernel)
theorem q_26 : (Jvm.Cond.selects "RelayTransferModel" ({ cls := "RelayTransferModel", name := "isNovel", desc := "(II)Z" } : Jvm.MethodName) ({ cls := "RelayTransferModel", name := "isNovel", desc := "(II)Z" } : Jvm.MethodName)) ∈ TB := TB_in 26 (by decide +kernel) (by decide +kernel)
theorem q_27 : (Jvm.Cond.selects "RelayTransferModel" ({ cls := "RelayTransferModel", name := "layBase", desc := "(I)I" } : Jvm.MethodName) ({ cls := "RelayTransferModel", name := "layBase", desc := "(I)I" } : Jvm.MethodName)) ∈ TB := TB_in 27 (by decide +kernel) (by decide +kernel)
theorem q_28 : (Jvm.Cond.selects "RelayTransferModel" ({ cls := "RelayTransferModel", name := "reduce", desc := "(II)V" } : Jvm.MethodName) ({ cls := "RelayTransferModel", name := "reduce", desc := "(II)V" } : Jvm.MethodName)) ∈ TB := TB_in 28 (by decide +kernel) (by decide +kernel)
theorem q_29 : (Jvm.Cond.selects "RelayTransferModel" ({ cls := "RelayTransferModel", name := "highest", desc := "(I)I" } : Jvm.MethodName) ({ cls := "RelayTransferModel", name := "highest", desc := "(I)I" } : Jvm.MethodName)) ∈ TB := TB_in 29 (by decide +kernel) (by decide +kernel)
theorem q_30 : (Jvm.Cond.selects "RelayTransferModel" ({ cls := "RelayTransferModel", name := "mostAlike", desc := "(II)I" } : Jvm.MethodName) ({ cls := "RelayTransferModel", name := "mostAlike", desc := "(II)I" } : Jvm.MethodName)) ∈ TB := TB_in 30 (by decide +kernel) (by decide +kernel)
theorem q_31 : (Jvm.Cond.selects "RelayTransferModel" ({ cls := "RelayTransferModel", name := "arriveAtReceiver", desc := "(II)I" } : Jvm.MethodName) ({ cls := "RelayTransferModel", name := "arriveAtReceiver", desc := "(II)I" } : Jvm.MethodName)) ∈ TB := TB_in 31 (by decide +kernel) (by decide +kernel)
theorem q_32 : (Jvm.Cond.selects "RelayTransferModel" ({ cls := "RelayTransferModel", name := "peel", desc := "(II)V" } : Jvm.MethodName) ({ cls := "RelayTransferModel", name := "peel", desc := "(II)V" } : Jvm.MethodName)) ∈ TB := TB_in 32 (by decide +kernel) (by decide +kernel)
theorem q_33 : (Jvm.Cond.selects "RelayTransferModel" ({ cls := "RelayTransferModel", name := "learn", desc := "(II)V" } : Jvm.MethodName) ({ cls := "RelayTransferModel", name := "learn", desc := "(II)V" } : Jvm.MethodName)) ∈ TB := TB_in 33 (by decide +kernel) (by decide +kernel)
theorem q_34 : (Jvm.Cond.selects "RelayTransferModel" ({ cls := "RelayTransferModel", name := "firstAlone", desc := "()I" } : Jvm.MethodName) ({ cls := "RelayTransferModel", name := "firstAlone", desc := "()I" } : Jvm.MethodName)) ∈ TB := TB_in 34 (by decide +kernel) (by decide +kernel)
theorem q_35 : (Jvm.Cond.selects "RelayTransferModel" ({ cls := "RelayTransferModel", name := "solved", desc := "(I)I" } : Jvm.MethodName) ({ cls := "RelayTransferModel", name := "solved", desc := "(I)I" } : Jvm.MethodName)) ∈ TB := TB_in 35 (by decide +kernel) (by decide +kernel)
theorem q_36 : (Jvm.Cond.selects "RelayTransferModel" ({ cls := "RelayTransferModel", name := "note", desc := "()V" } : Jvm.MethodName) ({ cls := "RelayTransferModel", name := "note", desc := "()V" } : Jvm.MethodName)) ∈ TB := TB_in 36 (by decide +kernel) (by decide +kernel)
theorem q_37 : (Jvm.Cond.selects "RelayTransferModel" ({ cls := "RelayTransferModel", name := "isSet", desc := "(I)Z" } : Jvm.MethodName) ({ cls := "RelayTransferModel", name := "isSet", desc := "(I)Z" } : Jvm.MethodName)) ∈ TB := TB_in 37 (by decide +kernel) (by decide +kernel)
theorem q_38 : (Jvm.Cond.selects "RelayTransferModel" ({ cls := "RelayTransferModel", name := "known", desc := "()I" } : Jvm.MethodName) ({ cls := "RelayTransferModel", name := "known", desc := "()I" } : Jvm.MethodName)) ∈ TB := TB_in 38 (by decide +kernel) (by decide +kernel)
theorem q_39 : (Jvm.Cond.selects "RelayTransferModel" ({ cls := "RelayTransferModel", name := "solvedBlocks", desc := "()I" } : Jvm.MethodName) ({ cls := "RelayTransferModel", name := "solvedBlocks", desc := "()I" } : Jvm.MethodName)) ∈ TB := TB_in 39 (by decide +kernel) (by decide +kernel)
theorem q_40 : (Jvm.Cond.selects "RelayTransferModel" ({ cls := "RelayTransferModel", name := "hasList", desc := "(I)Z" } : Jvm.MethodName) ({ cls := "RelayTransferModel", name := "hasList", desc := "(I)Z" } : Jvm.MethodName)) ∈ TB := TB_in 40 (by decide +kernel) (by decide +kernel)
theorem q_41 : (Jvm.Cond.selects "RelayTransferModel" ({ cls := "RelayTransferModel", name := "listOf", desc := "(I)I" } : Jvm.MethodName) ({ cls := "RelayTransferModel", name := "listOf", desc := "(I)I" } : Jvm.MethodName)) ∈ TB := TB_in 41 (by decide +kernel) (by decide +kernel)
theorem q_42 : (Jvm.Cond.selects "RelayTransferModel" ({ cls := "RelayTransferModel", name := "part", desc := "(III)I" } : Jvm.MethodName) ({ cls := "RelayTransferModel", name := "part", desc := "(III)I" } : Jvm.MethodName)) ∈ TB := TB_in 42 (by decide +kernel) (by decide +kernel)
theorem q_43 : (Jvm.Cond.selects "RelayTransferModel" ({ cls := "RelayTransferModel", name := "hold", desc := "()V" } : Jvm.MethodName) ({ cls := "RelayTransferModel", name := "hold", desc := "()V" } : Jvm.MethodName)) ∈ TB := TB_in 43 (by decide +kernel) (by decide +kernel)
theorem q_44 : (Jvm.Cond.selects "RelayTransferModel" ({ cls := "RelayTransferModel", name := "ticksTo", desc := "(II)I" } : Jvm.MethodName) ({ cls := "RelayTransferModel", name := "ticksTo", desc := "(II)I" } : Jvm.MethodName)) ∈ TB := TB_in 44 (by decide +kernel) (by decide +kernel)
theorem q_45 : (Jvm.Cond.selects "RelayTransferModel" ({ cls := "RelayTransferModel", name := "isWhole", desc := "(I)Z" } : Jvm.MethodName) ({ cls := "RelayTransferModel", name := "isWhole", desc := "(I)Z" } : Jvm.MethodName)) ∈ TB := TB_in 45 (by decide +kernel) (by decide +kernel)
theorem q_46 : (Jvm.Cond.selects "RelayTransferModel" ({ cls := "RelayTransferModel", name := "release", desc := "()V" } : Jvm.MethodName) ({ cls := "RelayTransferModel", name := "release", desc := "()V" } : Jvm.MethodName)) ∈ TB := TB_in 46 (by decide +kernel) (by decide +kernel)
theorem q_47 : (Jvm.Cond.initialized "RelayTransferLaw") ∈ TB := TB_in 47 (by decide +kernel) (by decide +kernel)
theorem q_48 : (Jvm.Cond.initialized "RelayTransfer") ∈ TB := TB_in 48 (by decide +kernel) (by decide +kernel)
theorem q_49 : (Jvm.Cond.initialized "RelayTransfer$Transfer") ∈ TB := TB_in 49 (by decide +kernel) (by decide +kernel)
theorem q_50 : (Jvm.Cond.initialized "RelayTransfer$Setup") ∈ TB := TB_in 50 (by decide +kernel) (by decide +kernel)
theorem q_51 : (Jvm.Cond.initialized "java/lang/Math") ∈ TB := TB_in 51 (by decide +kernel) (by decide +kernel)
theorem q_52 : (Jvm.Cond.initialized "java/lang/System") ∈ TB := TB_in 52 (by decide +kernel) (by decide +kernel)
theorem q_53 : (Jvm.Cond.initialized "RelayTransfer$Receiver") ∈ TB := TB_in 53 (by decide +kernel) (by decide +kernel)
theorem q_54 : (Jvm.Cond.initialized "RelayTransfer$PacketList") ∈ TB := TB_in 54 (by decide +kernel) (by decide +kernel)
theorem q_55 : (Jvm.Cond.initialized "RelayTransfer$Span") ∈ TB := TB_in 55 (by decide +kernel) (by decide +kernel)
theorem q_56 : (Jvm.Cond.initialized "RelayTransfer$Findings") ∈ TB := TB_in 56 (by decide +kernel) (by decide +kernel)
theorem q_57 : (Jvm.Cond.initialized "RelayTransferModel") ∈ TB := TB_in 57 (by decide +kernel) (by decide +kernel)
theorem q_58 : (Jvm.Cond.initialized "java/lang/Integer") ∈ TB := TB_in 58 (by decide +kernel) (by decide +kernel)
theorem q_59 : (Jvm.Cond.classLink "RelayTransferLaw" (7 : Nat) "RelayTransfer") ∈ TB := TB_in 59 (by decide +kernel) (by decide +kernel)
theorem q_60 : (Jvm.Cond.instantiable "RelayTransfer" (6 : Nat)) ∈ TB := TB_in 60 (by decide +kernel) (by decide +kernel)
theorem q_61 : (Jvm.Cond.methodLink "RelayTransferLaw" (9 : Nat) ({ cls := "RelayTransfer", name := "<init>", desc := "()V" } : Jvm.MethodName)) ∈ TB := TB_in 61 (by decide +kernel) (by decide +kernel)
theorem q_62 : (Jvm.Cond.instanceMethod ({ cls := "RelayTransfer", name := "<init>", desc := "()V" } : Jvm.MethodName)) ∈ TB := TB_in 62 (by decide +kernel) (by decide +kernel)
theorem q_63 : (Jvm.Cond.code ({ cls := "RelayTransfer", name := "<init>", desc := "()V" } : Jvm.MethodName) prog_1_method_1_code (2 : Nat) (Option.none : Option Jvm.ClassFile.FieldType)) ∈ TB := TB_in 63 (by decide +kernel) (by decide +kernel)
theorem q_64 : (Jvm.Cond.methodLink "RelayTransfer" (1 : Nat) ({ cls := "java/lang/Object", name := "<init>", desc := "()V" } : Jvm.MethodName)) ∈ TB := TB_in 64 (by decide +kernel) (by decide +kernel)
theorem q_65 : (Jvm.Cond.instanceMethod ({ cls := "java/lang/Object", name := "<init>", desc := "()V" } : Jvm.MethodName)) ∈ TB := TB_in 65 (by decide +kernel) (by decide +kernel)
theorem q_66 : (Jvm.Cond.code ({ cls := "java/lang/Object", name := "<init>", desc := "()V" } : Jvm.MethodName) object_method_1_code (1 : Nat) (Option.none : Option Jvm.ClassFile.FieldType)) ∈ TB := TB_in 66 (by decide +kernel) (by decide +kernel)
theorem q_67 : (Jvm.Cond.classLink "RelayTransfer" (7 : Nat) "RelayTransfer$Transfer") ∈ TB := TB_in 67 (by decide +kernel) (by decide +kernel)
theorem q_68 : (Jvm.Cond.instantiable "RelayTransfer$Transfer" (8 : Nat)) ∈ TB := TB_in 68 (by decide +kernel) (by decide +kernel)
theorem q_69 : (Jvm.Cond.methodLink "RelayTransfer" (9 : Nat) ({ cls := "RelayTransfer$Transfer", name := "<init>", desc := "()V" } : Jvm.MethodName)) ∈ TB := TB_in 69 (by decide +kernel) (by decide +kernel)
theorem q_70 : (Jvm.Cond.instanceMethod ({ cls := "RelayTransfer$Transfer", name := "<init>", desc := "()V" } : Jvm.MethodName)) ∈ TB := TB_in 70 (by decide +kernel) (by decide +kernel)
theorem q_71 : (Jvm.Cond.code ({ cls := "RelayTransfer$Transfer", name := "<init>", desc := "()V" } : Jvm.MethodName) prog_7_method_1_code (2 : Nat) (Option.none : Option Jvm.ClassFile.FieldType)) ∈ TB := TB_in 71 (by decide +kernel) (by decide +kernel)
theorem q_72 : (Jvm.Cond.methodLink "RelayTransfer$Transfer" (3 : Nat) ({ cls := "java/lang/Object", name := "<init>", desc := "()V" } : Jvm.MethodName)) ∈ TB := TB_in 72 (by decide +kernel) (by decide +kernel)
theorem q_73 : (Jvm.Cond.classLink "RelayTransfer$Transfer" (9 : Nat) "RelayTransfer$Setup") ∈ TB := TB_in 73 (by decide +kernel) (by decide +kernel)
theorem q_74 : (Jvm.Cond.instantiable "RelayTransfer$Setup" (9 : Nat)) ∈ TB := TB_in 74 (by decide +kernel) (by decide +kernel)
theorem q_75 : (Jvm.Cond.methodLink "RelayTransfer$Transfer" (11 : Nat) ({ cls := "RelayTransfer$Setup", name := "<init>", desc := "()V" } : Jvm.MethodName)) ∈ TB := TB_in 75 (by decide +kernel) (by decide +kernel)
theorem q_76 : (Jvm.Cond.instanceMethod ({ cls := "RelayTransfer$Setup", name := "<init>", desc := "()V" } : Jvm.MethodName)) ∈ TB := TB_in 76 (by decide +kernel) (by decide +kernel)
theorem q_77 : (Jvm.Cond.code ({ cls := "RelayTransfer$Setup", name := "<init>", desc := "()V" } : Jvm.MethodName) prog_5_method_1_code (1 : Nat) (Option.none : Option Jvm.ClassFile.FieldType)) ∈ TB := TB_in 77 (by decide +kernel) (by decide +kernel)
theorem q_78 : (Jvm.Cond.methodLink "RelayTransfer$Setup" (3 : Nat) ({ cls := "java/lang/Object", name := "<init>", desc := "()V" } : Jvm.MethodName)) ∈ TB := TB_in 78 (by decide +kernel) (by decide +kernel)
theorem q_79 : (Jvm.Cond.fieldLink "RelayTransfer$Setup" (40 : Nat) "RelayTransfer$Setup" "FIRST_WEIGHTS" "[I") ∈ TB := TB_in 79 (by decide +kernel) (by decide +kernel)
theorem q_81 : (Jvm.Cond.methodLinkNest "RelayTransfer$Setup" (43 : Nat) ({ cls := "RelayTransfer", name := "copyRow", desc := "([I[I)V" } : Jvm.MethodName) "RelayTransfer") ∈ NB := NB_in 81 (by decide +kernel) rfl
theorem q_82 : (Jvm.Cond.static ({ cls := "RelayTransfer", name := "copyRow", desc := "([I[I)V" } : Jvm.MethodName)) ∈ TB := TB_in 82 (by decide +kernel) (by decide +kernel)
theorem q_83 : (Jvm.Cond.code ({ cls := "RelayTransfer", name := "copyRow", desc := "([I[I)V" } : Jvm.MethodName) prog_1_method_36_code (2 : Nat) (Option.none : Option Jvm.ClassFile.FieldType)) ∈ TB := TB_in 83 (by decide +kernel) (by decide +kernel)
theorem q_84 : (Jvm.Cond.methodLink "RelayTransfer" (220 : Nat) ({ cls := "java/lang/Math", name := "min", desc := "(II)I" } : Jvm.MethodName)) ∈ TB := TB_in 84 (by decide +kernel) (by decide +kernel)
theorem q_85 : (Jvm.Cond.static ({ cls := "java/lang/Math", name := "min", desc := "(II)I" } : Jvm.MethodName)) ∈ TB := TB_in 85 (by decide +kernel) (by decide +kernel)
theorem q_86 : (Jvm.Cond.code ({ cls := "java/lang/Math", name := "min", desc := "(II)I" } : Jvm.MethodName) prog_11_method_69_code (2 : Nat) (Option.some Jvm.ClassFile.FieldType.int)) ∈ TB := TB_in 86 (by decide +kernel) (by decide +kernel)
theorem q_87 : (Jvm.Cond.methodLink "RelayTransfer" (225 : Nat) ({ cls := "java/lang/System", name := "arraycopy", desc := "(Ljava/lang/Object;ILjava/lang/Object;II)V" } : Jvm.MethodName)) ∈ TB := TB_in 87 (by decide +kernel) (by decide +kernel)
theorem q_88 : (Jvm.Cond.static ({ cls := "java/lang/System", name := "arraycopy", desc := "(Ljava/lang/Object;ILjava/lang/Object;II)V" } : Jvm.MethodName)) ∈ TB := TB_in 88 (by decide +kernel) (by decide +kernel)
theorem q_89 : (Jvm.Cond.native ({ cls := "java/lang/System", name := "arraycopy", desc := "(Ljava/lang/Object;ILjava/lang/Object;II)V" } : Jvm.MethodName)) ∈ TB := TB_in 89 (by decide +kernel) (by decide +kernel)
theorem q_90 : (Jvm.Cond.methodLink "RelayTransfer$Setup" (47 : Nat) ({ cls := "RelayTransfer$Setup", name := "giveFirstValues", desc := "()V" } : Jvm.MethodName)) ∈ TB := TB_in 90 (by decide +kernel) (by decide +kernel)
theorem q_92 : (Jvm.Cond.instanceMethod ({ cls := "RelayTransfer$Setup", name := "giveFirstValues", desc := "()V" } : Jvm.MethodName)) ∈ TB := TB_in 92 (by decide +kernel) (by decide +kernel)
theorem q_93 : (Jvm.Cond.code ({ cls := "RelayTransfer$Setup", name := "giveFirstValues", desc := "()V" } : Jvm.MethodName) prog_5_method_2_code (2 : Nat) (Option.none : Option Jvm.ClassFile.FieldType)) ∈ TB := TB_in 93 (by decide +kernel) (by decide +kernel)
theorem q_94 : (Jvm.Cond.fieldLink "RelayTransfer$Setup" (9 : Nat) "RelayTransfer$Setup" "values" "[I") ∈ TB := TB_in 94 (by decide +kernel) (by decide +kernel)
theorem q_95 : (Jvm.Cond.fieldLinkNest "RelayTransfer" (65 : Nat) "RelayTransfer$Setup" "values" "[I" "RelayTransfer") ∈ NB := NB_in 95 (by decide +kernel) rfl
theorem q_96 : (Jvm.Cond.fieldLink "RelayTransfer$Setup" (15 : Nat) "RelayTransfer$Setup" "losses" "[I") ∈ TB := TB_in 96 (by decide +kernel) (by decide +kernel)
theorem q_97 : (Jvm.Cond.fieldLinkNest "RelayTransfer" (74 : Nat) "RelayTransfer$Setup" "losses" "[I" "RelayTransfer") ∈ NB := NB_in 97 (by decide +kernel) rfl
theorem q_98 : (Jvm.Cond.fieldLink "RelayTransfer$Setup" (18 : Nat) "RelayTransfer$Setup" "weights" "[I") ∈ TB := TB_in 98 (by decide +kernel) (by decide +kernel)
theorem q_99 : (Jvm.Cond.fieldLinkNest "RelayTransfer" (77 : Nat) "RelayTransfer$Setup" "weights" "[I" "RelayTransfer") ∈ NB := NB_in 99 (by decide +kernel) rfl
theorem q_100 : (Jvm.Cond.fieldLink "RelayTransfer$Setup" (21 : Nat) "RelayTransfer$Setup" "blocks" "I") ∈ TB := TB_in 100 (by decide +kernel) (by decide +kernel)
theorem q_101 : (Jvm.Cond.fieldLinkNest "RelayTransfer$Transfer" (81 : Nat) "RelayTransfer$Setup" "blocks" "I" "RelayTransfer") ∈ NB := NB_in 101 (by decide +kernel) rfl
theorem q_102 : (Jvm.Cond.fieldLinkNest "RelayTransfer" (126 : Nat) "RelayTransfer$Setup" "blocks" "I" "RelayTransfer") ∈ NB := NB_in 102 (by decide +kernel) rfl
theorem q_103 : (Jvm.Cond.fieldLink "RelayTransfer$Setup" (25 : Nat) "RelayTransfer$Setup" "relays" "I") ∈ TB := TB_in 103 (by decide +kernel) (by decide +kernel)
theorem q_104 : (Jvm.Cond.fieldLinkNest "RelayTransfer$Transfer" (84 : Nat) "RelayTransfer$Setup" "relays" "I" "RelayTransfer") ∈ NB := NB_in 104 (by decide +kernel) rfl
theorem q_105 : (Jvm.Cond.fieldLinkNest "RelayTransfer" (129 : Nat) "RelayTransfer$Setup" "relays" "I" "RelayTransfer") ∈ NB := NB_in 105 (by decide +kernel) rfl
theorem q_106 : (Jvm.Cond.fieldLink "RelayTransfer$Setup" (28 : Nat) "RelayTransfer$Setup" "room" "I") ∈ TB := TB_in 106 (by decide +kernel) (by decide +kernel)
theorem q_107 : (Jvm.Cond.fieldLinkNest "RelayTransfer$Transfer" (63 : Nat) "RelayTransfer$Setup" "room" "I" "RelayTransfer") ∈ NB := NB_in 107 (by decide +kernel) rfl
theorem q_108 : (Jvm.Cond.fieldLinkNest "RelayTransfer" (132 : Nat) "RelayTransfer$Setup" "room" "I" "RelayTransfer") ∈ NB := NB_in 108 (by decide +kernel) rfl
theorem q_109 : (Jvm.Cond.fieldLink "RelayTransfer$Setup" (31 : Nat) "RelayTransfer$Setup" "policy" "I") ∈ TB := TB_in 109 (by decide +kernel) (by decide +kernel)
theorem q_110 : (Jvm.Cond.fieldLinkNest "RelayTransfer" (135 : Nat) "RelayTransfer$Setup" "policy" "I" "RelayTransfer") ∈ NB := NB_in 110 (by decide +kernel) rfl
theorem q_111 : (Jvm.Cond.fieldLinkNest "RelayTransfer$Transfer" (156 : Nat) "RelayTransfer$Setup" "policy" "I" "RelayTransfer") ∈ NB := NB_in 111 (by decide +kernel) rfl
theorem q_112 : (Jvm.Cond.fieldLink "RelayTransfer$Setup" (34 : Nat) "RelayTransfer$Setup" "style" "I") ∈ TB := TB_in 112 (by decide +kernel) (by decide +kernel)
theorem q_113 : (Jvm.Cond.fieldLinkNest "RelayTransfer$Transfer" (138 : Nat) "RelayTransfer$Setup" "style" "I" "RelayTransfer") ∈ NB := NB_in 113 (by decide +kernel) rfl
theorem q_114 : (Jvm.Cond.fieldLinkNest "RelayTransfer" (138 : Nat) "RelayTransfer$Setup" "style" "I" "RelayTransfer") ∈ NB := NB_in 114 (by decide +kernel) rfl
theorem q_115 : (Jvm.Cond.fieldLink "RelayTransfer$Setup" (37 : Nat) "RelayTransfer$Setup" "seed" "I") ∈ TB := TB_in 115 (by decide +kernel) (by decide +kernel)
theorem q_116 : (Jvm.Cond.fieldLinkNest "RelayTransfer" (141 : Nat) "RelayTransfer$Setup" "seed" "I" "RelayTransfer") ∈ NB := NB_in 116 (by decide +kernel) rfl
theorem q_117 : (Jvm.Cond.laysFinal "RelayTransfer$Setup" "RelayTransfer$Setup" "values" "[I") ∈ TB := TB_in 117 (by decide +kernel) (by decide +kernel)
theorem q_119 : (Jvm.Cond.laysFinal "RelayTransfer$Setup" "RelayTransfer$Setup" "losses" "[I") ∈ TB := TB_in 119 (by decide +kernel) (by decide +kernel)
theorem q_121 : (Jvm.Cond.laysFinal "RelayTransfer$Setup" "RelayTransfer$Setup" "weights" "[I") ∈ TB := TB_in 121 (by decide +kernel) (by decide +kernel)
theorem q_123 : (Jvm.Cond.lays "RelayTransfer$Setup" "RelayTransfer$Setup" "blocks" "I") ∈ TB := TB_in 123 (by decide +kernel) (by decide +kernel)
theorem q_125 : (Jvm.Cond.lays "RelayTransfer$Setup" "RelayTransfer$Setup" "relays" "I") ∈ TB := TB_in 125 (by decide +kernel) (by decide +kernel)
theorem q_127 : (Jvm.Cond.lays "RelayTransfer$Setup" "RelayTransfer$Setup" "room" "I") ∈ TB := TB_in 127 (by decide +kernel) (by decide +kernel)
theorem q_129 : (Jvm.Cond.lays "RelayTransfer$Setup" "RelayTransfer$Setup" "policy" "I") ∈ TB := TB_in 129 (by decide +kernel) (by decide +kernel)
theorem q_131 : (Jvm.Cond.lays "RelayTransfer$Setup" "RelayTransfer$Setup" "style" "I") ∈ TB := TB_in 131 (by decide +kernel) (by decide +kernel)
theorem q_133 : (Jvm.Cond.lays "RelayTransfer$Setup" "RelayTransfer$Setup" "seed" "I") ∈ TB := TB_in 133 (by decide +kernel) (by decide +kernel)
theorem q_136 : (Jvm.Cond.arrayClass Jvm.ClassFile.FieldType.int) ∈ TB := TB_in 136 (by decide +kernel) (by decide +kernel)
theorem q_137 : (Jvm.Cond.classLink "RelayTransfer$Transfer" (18 : Nat) "RelayTransfer$PacketList") ∈ TB := TB_in 137 (by decide +kernel) (by decide +kernel)
theorem q_138 : (Jvm.Cond.arrayOver (Jvm.ClassFile.FieldType.object "RelayTransfer$PacketList")) ∈ lw_tbl := List.mem_of_getElem? (i := 138) (by decide +kernel)
theorem q_139 : (Jvm.Cond.classLink "RelayTransfer$Transfer" (24 : Nat) "RelayTransfer$Receiver") ∈ TB := TB_in 139 (by decide +kernel) (by decide +kernel)
theorem q_140 : (Jvm.Cond.instantiable "RelayTransfer$Receiver" (8 : Nat)) ∈ TB := TB_in 140 (by decide +kernel) (by decide +kernel)
theorem q_141 : (Jvm.Cond.methodLinkNest "RelayTransfer$Transfer" (26 : Nat) ({ cls := "RelayTransfer$Receiver", name := "<init>", desc := "()V" } : Jvm.MethodName) "RelayTransfer") ∈ NB := NB_in 141 (by decide +kernel) rfl
theorem q_142 : (Jvm.Cond.instanceMethod ({ cls := "RelayTransfer$Receiver", name := "<init>", desc := "()V" } : Jvm.MethodName)) ∈ TB := TB_in 142 (by decide +kernel) (by decide +kernel)
theorem q_143 : (Jvm.Cond.code ({ cls := "RelayTransfer$Receiver", name := "<init>", desc := "()V" } : Jvm.MethodName) prog_4_method_1_code (1 : Nat) (Option.none : Option Jvm.ClassFile.FieldType)) ∈ TB := TB_in 143 (by decide +kernel) (by decide +kernel)
theorem q_144 : (Jvm.Cond.methodLink "RelayTransfer$Receiver" (3 : Nat) ({ cls := "java/lang/Object", name := "<init>", desc := "()V" } : Jvm.MethodName)) ∈ TB := TB_in 144 (by decide +kernel) (by decide +kernel)
theorem q_145 : (Jvm.Cond.classLink "RelayTransfer$Receiver" (9 : Nat) "RelayTransfer$PacketList") ∈ TB := TB_in 145 (by decide +kernel) (by decide +kernel)
theorem q_146 : (Jvm.Cond.instantiable "RelayTransfer$PacketList" (2 : Nat)) ∈ TB := TB_in 146 (by decide +kernel) (by decide +kernel)
theorem q_147 : (Jvm.Cond.methodLink "RelayTransfer$Receiver" (11 : Nat) ({ cls := "RelayTransfer$PacketList", name := "<init>", desc := "(I)V" } : Jvm.MethodName)) ∈ TB := TB_in 147 (by decide +kernel) (by decide +kernel)
theorem q_148 : (Jvm.Cond.instanceMethod ({ cls := "RelayTransfer$PacketList", name := "<init>", desc := "(I)V" } : Jvm.MethodName)) ∈ TB := TB_in 148 (by decide +kernel) (by decide +kernel)
theorem q_149 : (Jvm.Cond.code ({ cls := "RelayTransfer$PacketList", name := "<init>", desc := "(I)V" } : Jvm.MethodName) prog_3_method_1_code (2 : Nat) (Option.none : Option Jvm.ClassFile.FieldType)) ∈ TB := TB_in 149 (by decide +kernel) (by decide +kernel)
theorem q_150 : (Jvm.Cond.methodLink "RelayTransfer$PacketList" (3 : Nat) ({ cls := "java/lang/Object", name := "<init>", desc := "()V" } : Jvm.MethodName)) ∈ TB := TB_in 150 (by decide +kernel) (by decide +kernel)
theorem q_151 : (Jvm.Cond.methodLink "RelayTransfer$PacketList" (15 : Nat) ({ cls := "java/lang/Math", name := "max", desc := "(II)I" } : Jvm.MethodName)) ∈ TB := TB_in 151 (by decide +kernel) (by decide +kernel)
theorem q_152 : (Jvm.Cond.static ({ cls := "java/lang/Math", name := "max", desc := "(II)I" } : Jvm.MethodName)) ∈ TB := TB_in 152 (by decide +kernel) (by decide +kernel)
theorem q_153 : (Jvm.Cond.code ({ cls := "java/lang/Math", name := "max", desc := "(II)I" } : Jvm.MethodName) prog_11_method_65_code (2 : Nat) (Option.some Jvm.ClassFile.FieldType.int)) ∈ TB := TB_in 153 (by decide +kernel) (by decide +kernel)
theorem q_154 : (Jvm.Cond.fieldLink "RelayTransfer$PacketList" (21 : Nat) "RelayTransfer$PacketList" "packets" "[I") ∈ TB := TB_in 154 (by decide +kernel) (by decide +kernel)
theorem q_155 : (Jvm.Cond.fieldLink "RelayTransfer$PacketList" (9 : Nat) "RelayTransfer$PacketList" "size" "I") ∈ TB := TB_in 155 (by decide +kernel) (by decide +kernel)
theorem q_156 : (Jvm.Cond.fieldLinkNest "RelayTransfer$Receiver" (54 : Nat) "RelayTransfer$PacketList" "size" "I" "RelayTransfer") ∈ NB := NB_in 156 (by decide +kernel) rfl
theorem q_157 : (Jvm.Cond.fieldLinkNest "RelayTransfer$Transfer" (92 : Nat) "RelayTransfer$PacketList" "size" "I" "RelayTransfer") ∈ NB := NB_in 157 (by decide +kernel) rfl
theorem q_158 : (Jvm.Cond.fieldLinkNest "RelayTransfer" (108 : Nat) "RelayTransfer$PacketList" "size" "I" "RelayTransfer") ∈ NB := NB_in 158 (by decide +kernel) rfl
theorem q_159 : (Jvm.Cond.laysFinal "RelayTransfer$PacketList" "RelayTransfer$PacketList" "packets" "[I") ∈ TB := TB_in 159 (by decide +kernel) (by decide +kernel)
theorem q_161 : (Jvm.Cond.lays "RelayTransfer$PacketList" "RelayTransfer$PacketList" "size" "I") ∈ TB := TB_in 161 (by decide +kernel) (by decide +kernel)
theorem q_164 : (Jvm.Cond.classLink "RelayTransfer$Receiver" (20 : Nat) "RelayTransfer$Span") ∈ TB := TB_in 164 (by decide +kernel) (by decide +kernel)
theorem q_165 : (Jvm.Cond.instantiable "RelayTransfer$Span" (2 : Nat)) ∈ TB := TB_in 165 (by decide +kernel) (by decide +kernel)
theorem q_166 : (Jvm.Cond.methodLinkNest "RelayTransfer$Receiver" (22 : Nat) ({ cls := "RelayTransfer$Span", name := "<init>", desc := "()V" } : Jvm.MethodName) "RelayTransfer") ∈ NB := NB_in 166 (by decide +kernel) rfl
theorem q_167 : (Jvm.Cond.instanceMethod ({ cls := "RelayTransfer$Span", name := "<init>", desc := "()V" } : Jvm.MethodName)) ∈ TB := TB_in 167 (by decide +kernel) (by decide +kernel)
theorem q_168 : (Jvm.Cond.code ({ cls := "RelayTransfer$Span", name := "<init>", desc := "()V" } : Jvm.MethodName) prog_6_method_1_code (1 : Nat) (Option.none : Option Jvm.ClassFile.FieldType)) ∈ TB := TB_in 168 (by decide +kernel) (by decide +kernel)
theorem q_169 : (Jvm.Cond.methodLink "RelayTransfer$Span" (3 : Nat) ({ cls := "java/lang/Object", name := "<init>", desc := "()V" } : Jvm.MethodName)) ∈ TB := TB_in 169 (by decide +kernel) (by decide +kernel)
theorem q_170 : (Jvm.Cond.fieldLink "RelayTransfer$Span" (9 : Nat) "RelayTransfer$Span" "rows" "[I") ∈ TB := TB_in 170 (by decide +kernel) (by decide +kernel)
theorem q_171 : (Jvm.Cond.fieldLink "RelayTransfer$Span" (15 : Nat) "RelayTransfer$Span" "rank" "I") ∈ TB := TB_in 171 (by decide +kernel) (by decide +kernel)
theorem q_172 : (Jvm.Cond.fieldLinkNest "RelayTransfer$Transfer" (103 : Nat) "RelayTransfer$Span" "rank" "I" "RelayTransfer") ∈ NB := NB_in 172 (by decide +kernel) rfl
theorem q_173 : (Jvm.Cond.laysFinal "RelayTransfer$Span" "RelayTransfer$Span" "rows" "[I") ∈ TB := TB_in 173 (by decide +kernel) (by decide +kernel)
theorem q_175 : (Jvm.Cond.lays "RelayTransfer$Span" "RelayTransfer$Span" "rank" "I") ∈ TB := TB_in 175 (by decide +kernel) (by decide +kernel)
theorem q_178 : (Jvm.Cond.classLink "RelayTransfer$Receiver" (27 : Nat) "RelayTransfer$Findings") ∈ TB := TB_in 178 (by decide +kernel) (by decide +kernel)
theorem q_179 : (Jvm.Cond.instantiable "RelayTransfer$Findings" (3 : Nat)) ∈ TB := TB_in 179 (by decide +kernel) (by decide +kernel)
theorem q_180 : (Jvm.Cond.methodLink "RelayTransfer$Receiver" (29 : Nat) ({ cls := "RelayTransfer$Findings", name := "<init>", desc := "()V" } : Jvm.MethodName)) ∈ TB := TB_in 180 (by decide +kernel) (by decide +kernel)
theorem q_181 : (Jvm.Cond.instanceMethod ({ cls := "RelayTransfer$Findings", name := "<init>", desc := "()V" } : Jvm.MethodName)) ∈ TB := TB_in 181 (by decide +kernel) (by decide +kernel)
theorem q_182 : (Jvm.Cond.code ({ cls := "RelayTransfer$Findings", name := "<init>", desc := "()V" } : Jvm.MethodName) prog_2_method_1_code (2 : Nat) (Option.none : Option Jvm.ClassFile.FieldType)) ∈ TB := TB_in 182 (by decide +kernel) (by decide +kernel)
theorem q_183 : (Jvm.Cond.methodLink "RelayTransfer$Findings" (3 : Nat) ({ cls := "java/lang/Object", name := "<init>", desc := "()V" } : Jvm.MethodName)) ∈ TB := TB_in 183 (by decide +kernel) (by decide +kernel)
theorem q_184 : (Jvm.Cond.fieldLink "RelayTransfer$Findings" (9 : Nat) "RelayTransfer$Findings" "singles" "[I") ∈ TB := TB_in 184 (by decide +kernel) (by decide +kernel)
theorem q_185 : (Jvm.Cond.fieldLink "RelayTransfer$Findings" (15 : Nat) "RelayTransfer$Findings" "times" "[I") ∈ TB := TB_in 185 (by decide +kernel) (by decide +kernel)
theorem q_186 : (Jvm.Cond.fieldLinkNest "RelayTransfer" (174 : Nat) "RelayTransfer$Findings" "times" "[I" "RelayTransfer") ∈ NB := NB_in 186 (by decide +kernel) rfl
theorem q_187 : (Jvm.Cond.fieldLink "RelayTransfer$Findings" (18 : Nat) "RelayTransfer$Findings" "count" "I") ∈ TB := TB_in 187 (by decide +kernel) (by decide +kernel)
theorem q_188 : (Jvm.Cond.fieldLinkNest "RelayTransfer$Transfer" (76 : Nat) "RelayTransfer$Findings" "count" "I" "RelayTransfer") ∈ NB := NB_in 188 (by decide +kernel) rfl
theorem q_189 : (Jvm.Cond.fieldLinkNest "RelayTransfer" (157 : Nat) "RelayTransfer$Findings" "count" "I" "RelayTransfer") ∈ NB := NB_in 189 (by decide +kernel) rfl
theorem q_190 : (Jvm.Cond.laysFinal "RelayTransfer$Findings" "RelayTransfer$Findings" "singles" "[I") ∈ TB := TB_in 190 (by decide +kernel) (by decide +kernel)
theorem q_192 : (Jvm.Cond.laysFinal "RelayTransfer$Findings" "RelayTransfer$Findings" "times" "[I") ∈ TB := TB_in 192 (by decide +kernel) (by decide +kernel)
theorem q_194 : (Jvm.Cond.lays "RelayTransfer$Findings" "RelayTransfer$Findings" "count" "I") ∈ TB := TB_in 194 (by decide +kernel) (by decide +kernel)
theorem q_197 : (Jvm.Cond.fieldLink "RelayTransfer$Receiver" (14 : Nat) "RelayTransfer$Receiver" "kept" "LRelayTransfer$PacketList;") ∈ TB := TB_in 197 (by decide +kernel) (by decide +kernel)
theorem q_198 : (Jvm.Cond.fieldLinkNest "RelayTransfer$Transfer" (87 : Nat) "RelayTransfer$Receiver" "kept" "LRelayTransfer$PacketList;" "RelayTransfer") ∈ NB := NB_in 198 (by decide +kernel) rfl
theorem q_199 : (Jvm.Cond.fieldLinkNest "RelayTransfer" (104 : Nat) "RelayTransfer$Receiver" "kept" "LRelayTransfer$PacketList;" "RelayTransfer") ∈ NB := NB_in 199 (by decide +kernel) rfl
theorem q_200 : (Jvm.Cond.fieldLink "RelayTransfer$Receiver" (23 : Nat) "RelayTransfer$Receiver" "span" "LRelayTransfer$Span;") ∈ TB := TB_in 200 (by decide +kernel) (by decide +kernel)
theorem q_201 : (Jvm.Cond.fieldLink "RelayTransfer$Receiver" (30 : Nat) "RelayTransfer$Receiver" "solved" "LRelayTransfer$Findings;") ∈ TB := TB_in 201 (by decide +kernel) (by decide +kernel)
theorem q_202 : (Jvm.Cond.fieldLinkNest "RelayTransfer$Transfer" (73 : Nat) "RelayTransfer$Receiver" "solved" "LRelayTransfer$Findings;" "RelayTransfer") ∈ NB := NB_in 202 (by decide +kernel) rfl
theorem q_203 : (Jvm.Cond.fieldLinkNest "RelayTransfer" (165 : Nat) "RelayTransfer$Receiver" "solved" "LRelayTransfer$Findings;" "RelayTransfer") ∈ NB := NB_in 203 (by decide +kernel) rfl
theorem q_204 : (Jvm.Cond.fieldLink "RelayTransfer$Receiver" (34 : Nat) "RelayTransfer$Receiver" "waiting" "LRelayTransfer$PacketList;") ∈ TB := TB_in 204 (by decide +kernel) (by decide +kernel)
theorem q_205 : (Jvm.Cond.fieldLinkNest "RelayTransfer" (162 : Nat) "RelayTransfer$Receiver" "waiting" "LRelayTransfer$PacketList;" "RelayTransfer") ∈ NB := NB_in 205 (by decide +kernel) rfl
theorem q_206 : (Jvm.Cond.fieldLink "RelayTransfer$Receiver" (37 : Nat) "RelayTransfer$Receiver" "peeled" "LRelayTransfer$Findings;") ∈ TB := TB_in 206 (by decide +kernel) (by decide +kernel)
theorem q_207 : (Jvm.Cond.fieldLinkNest "RelayTransfer$Transfer" (69 : Nat) "RelayTransfer$Receiver" "peeled" "LRelayTransfer$Findings;" "RelayTransfer") ∈ NB := NB_in 207 (by decide +kernel) rfl
theorem q_208 : (Jvm.Cond.fieldLinkNest "RelayTransfer" (153 : Nat) "RelayTransfer$Receiver" "peeled" "LRelayTransfer$Findings;" "RelayTransfer") ∈ NB := NB_in 208 (by decide +kernel) rfl
theorem q_209 : (Jvm.Cond.fieldLink "RelayTransfer$Receiver" (40 : Nat) "RelayTransfer$Receiver" "arrived" "I") ∈ TB := TB_in 209 (by decide +kernel) (by decide +kernel)
theorem q_210 : (Jvm.Cond.fieldLinkNest "RelayTransfer" (56 : Nat) "RelayTransfer$Receiver" "arrived" "I" "RelayTransfer") ∈ NB := NB_in 210 (by decide +kernel) rfl
theorem q_211 : (Jvm.Cond.fieldLink "RelayTransfer$Receiver" (44 : Nat) "RelayTransfer$Receiver" "stale" "I") ∈ TB := TB_in 211 (by decide +kernel) (by decide +kernel)
theorem q_212 : (Jvm.Cond.fieldLinkNest "RelayTransfer" (150 : Nat) "RelayTransfer$Receiver" "stale" "I" "RelayTransfer") ∈ NB := NB_in 212 (by decide +kernel) rfl
theorem q_213 : (Jvm.Cond.fieldLink "RelayTransfer$Receiver" (47 : Nat) "RelayTransfer$Receiver" "mostWaiting" "I") ∈ TB := TB_in 213 (by decide +kernel) (by decide +kernel)
theorem q_214 : (Jvm.Cond.fieldLinkNest "RelayTransfer" (168 : Nat) "RelayTransfer$Receiver" "mostWaiting" "I" "RelayTransfer") ∈ NB := NB_in 214 (by decide +kernel) rfl
theorem q_215 : (Jvm.Cond.laysFinal "RelayTransfer$Receiver" "RelayTransfer$Receiver" "kept" "LRelayTransfer$PacketList;") ∈ TB := TB_in 215 (by decide +kernel) (by decide +kernel)
theorem q_217 : (Jvm.Cond.laysFinal "RelayTransfer$Receiver" "RelayTransfer$Receiver" "span" "LRelayTransfer$Span;") ∈ TB := TB_in 217 (by decide +kernel) (by decide +kernel)
theorem q_219 : (Jvm.Cond.laysFinal "RelayTransfer$Receiver" "RelayTransfer$Receiver" "solved" "LRelayTransfer$Findings;") ∈ TB := TB_in 219 (by decide +kernel) (by decide +kernel)
theorem q_221 : (Jvm.Cond.laysFinal "RelayTransfer$Receiver" "RelayTransfer$Receiver" "waiting" "LRelayTransfer$PacketList;") ∈ TB := TB_in 221 (by decide +kernel) (by decide +kernel)
theorem q_223 : (Jvm.Cond.laysFinal "RelayTransfer$Receiver" "RelayTransfer$Receiver" "peeled" "LRelayTransfer$Findings;") ∈ TB := TB_in 223 (by decide +kernel) (by decide +kernel)
theorem q_225 : (Jvm.Cond.lays "RelayTransfer$Receiver" "RelayTransfer$Receiver" "arrived" "I") ∈ TB := TB_in 225 (by decide +kernel) (by decide +kernel)
theorem q_227 : (Jvm.Cond.lays "RelayTransfer$Receiver" "RelayTransfer$Receiver" "stale" "I") ∈ TB := TB_in 227 (by decide +kernel) (by decide +kernel)
theorem q_229 : (Jvm.Cond.lays "RelayTransfer$Receiver" "RelayTransfer$Receiver" "mostWaiting" "I") ∈ TB := TB_in 229 (by decide +kernel) (by decide +kernel)
theorem q_232 : (Jvm.Cond.classLink "RelayTransfer$Transfer" (45 : Nat) "RelayTransfer$Span") ∈ TB := TB_in 232 (by decide +kernel) (by decide +kernel)
theorem q_233 : (Jvm.Cond.methodLinkNest "RelayTransfer$Transfer" (47 : Nat) ({ cls := "RelayTransfer$Span", name := "<init>", desc := "()V" } : Jvm.MethodName) "RelayTransfer") ∈ NB := NB_in 233 (by decide +kernel) rfl
theorem q_234 : (Jvm.Cond.methodLink "RelayTransfer$Transfer" (52 : Nat) ({ cls := "RelayTransfer$PacketList", name := "<init>", desc := "(I)V" } : Jvm.MethodName)) ∈ TB := TB_in 234 (by decide +kernel) (by decide +kernel)
theorem q_235 : (Jvm.Cond.fieldLink "RelayTransfer$Transfer" (12 : Nat) "RelayTransfer$Transfer" "setup" "LRelayTransfer$Setup;") ∈ TB := TB_in 235 (by decide +kernel) (by decide +kernel)
theorem q_236 : (Jvm.Cond.fieldLinkNest "RelayTransfer" (61 : Nat) "RelayTransfer$Transfer" "setup" "LRelayTransfer$Setup;" "RelayTransfer") ∈ NB := NB_in 236 (by decide +kernel) rfl
theorem q_237 : (Jvm.Cond.fieldLink "RelayTransfer$Transfer" (20 : Nat) "RelayTransfer$Transfer" "stores" "[LRelayTransfer$PacketList;") ∈ TB := TB_in 237 (by decide +kernel) (by decide +kernel)
theorem q_238 : (Jvm.Cond.fieldLink "RelayTransfer$Transfer" (27 : Nat) "RelayTransfer$Transfer" "receiver" "LRelayTransfer$Receiver;") ∈ TB := TB_in 238 (by decide +kernel) (by decide +kernel)
theorem q_239 : (Jvm.Cond.fieldLinkNest "RelayTransfer" (52 : Nat) "RelayTransfer$Transfer" "receiver" "LRelayTransfer$Receiver;" "RelayTransfer") ∈ NB := NB_in 239 (by decide +kernel) rfl
theorem q_240 : (Jvm.Cond.fieldLink "RelayTransfer$Transfer" (31 : Nat) "RelayTransfer$Transfer" "time" "I") ∈ TB := TB_in 240 (by decide +kernel) (by decide +kernel)
theorem q_241 : (Jvm.Cond.fieldLinkNest "RelayTransfer" (41 : Nat) "RelayTransfer$Transfer" "time" "I" "RelayTransfer") ∈ NB := NB_in 241 (by decide +kernel) rfl
theorem q_242 : (Jvm.Cond.fieldLink "RelayTransfer$Transfer" (35 : Nat) "RelayTransfer$Transfer" "made" "I") ∈ TB := TB_in 242 (by decide +kernel) (by decide +kernel)
theorem q_243 : (Jvm.Cond.fieldLinkNest "RelayTransfer" (144 : Nat) "RelayTransfer$Transfer" "made" "I" "RelayTransfer") ∈ NB := NB_in 243 (by decide +kernel) rfl
theorem q_244 : (Jvm.Cond.fieldLink "RelayTransfer$Transfer" (38 : Nat) "RelayTransfer$Transfer" "lost" "I") ∈ TB := TB_in 244 (by decide +kernel) (by decide +kernel)
theorem q_245 : (Jvm.Cond.fieldLinkNest "RelayTransfer" (147 : Nat) "RelayTransfer$Transfer" "lost" "I" "RelayTransfer") ∈ NB := NB_in 245 (by decide +kernel) rfl
theorem q_246 : (Jvm.Cond.fieldLink "RelayTransfer$Transfer" (41 : Nat) "RelayTransfer$Transfer" "onLinks" "[I") ∈ TB := TB_in 246 (by decide +kernel) (by decide +kernel)
theorem q_247 : (Jvm.Cond.fieldLink "RelayTransfer$Transfer" (48 : Nat) "RelayTransfer$Transfer" "work" "LRelayTransfer$Span;") ∈ TB := TB_in 247 (by decide +kernel) (by decide +kernel)
theorem q_248 : (Jvm.Cond.laysFinal "RelayTransfer$Transfer" "RelayTransfer$Transfer" "setup" "LRelayTransfer$Setup;") ∈ TB := TB_in 248 (by decide +kernel) (by decide +kernel)
theorem q_250 : (Jvm.Cond.laysFinal "RelayTransfer$Transfer" "RelayTransfer$Transfer" "stores" "[LRelayTransfer$PacketList;") ∈ TB := TB_in 250 (by decide +kernel) (by decide +kernel)
theorem q_252 : (Jvm.Cond.laysFinal "RelayTransfer$Transfer" "RelayTransfer$Transfer" "receiver" "LRelayTransfer$Receiver;") ∈ TB := TB_in 252 (by decide +kernel) (by decide +kernel)
theorem q_254 : (Jvm.Cond.lays "RelayTransfer$Transfer" "RelayTransfer$Transfer" "time" "I") ∈ TB := TB_in 254 (by decide +kernel) (by decide +kernel)
theorem q_256 : (Jvm.Cond.lays "RelayTransfer$Transfer" "RelayTransfer$Transfer" "made" "I") ∈ TB := TB_in 256 (by decide +kernel) (by decide +kernel)
theorem q_258 : (Jvm.Cond.lays "RelayTransfer$Transfer" "RelayTransfer$Transfer" "lost" "I") ∈ TB := TB_in 258 (by decide +kernel) (by decide +kernel)
theorem q_260 : (Jvm.Cond.laysFinal "RelayTransfer$Transfer" "RelayTransfer$Transfer" "onLinks" "[I") ∈ TB := TB_in 260 (by decide +kernel) (by decide +kernel)
theorem q_262 : (Jvm.Cond.laysFinal "RelayTransfer$Transfer" "RelayTransfer$Transfer" "work" "LRelayTransfer$Span;") ∈ TB := TB_in 262 (by decide +kernel) (by decide +kernel)
theorem q_265 : (Jvm.Cond.arrayOver (Jvm.ClassFile.FieldType.object "RelayTransfer$Transfer")) ∈ lw_tbl := List.mem_of_getElem? (i := 265) (by decide +kernel)
theorem q_266 : (Jvm.Cond.fieldLink "RelayTransfer" (10 : Nat) "RelayTransfer" "now" "LRelayTransfer$Transfer;") ∈ TB := TB_in 266 (by decide +kernel) (by decide +kernel)
theorem q_267 : (Jvm.Cond.fieldLink "RelayTransfer" (16 : Nat) "RelayTransfer" "trial" "LRelayTransfer$Transfer;") ∈ TB := TB_in 267 (by decide +kernel) (by decide +kernel)
theorem q_268 : (Jvm.Cond.fieldLink "RelayTransfer" (19 : Nat) "RelayTransfer" "history" "[LRelayTransfer$Transfer;") ∈ TB := TB_in 268 (by decide +kernel) (by decide +kernel)
theorem q_269 : (Jvm.Cond.fieldLink "RelayTransfer" (23 : Nat) "RelayTransfer" "images" "[LRelayTransfer$Transfer;") ∈ TB := TB_in 269 (by decide +kernel) (by decide +kernel)
theorem q_270 : (Jvm.Cond.fieldLink "RelayTransfer" (26 : Nat) "RelayTransfer" "filled" "[Z") ∈ TB := TB_in 270 (by decide +kernel) (by decide +kernel)
theorem q_271 : (Jvm.Cond.fieldLink "RelayTransfer" (30 : Nat) "RelayTransfer" "recorded" "I") ∈ TB := TB_in 271 (by decide +kernel) (by decide +kernel)
theorem q_272 : (Jvm.Cond.laysFinal "RelayTransfer" "RelayTransfer" "now" "LRelayTransfer$Transfer;") ∈ TB := TB_in 272 (by decide +kernel) (by decide +kernel)
theorem q_274 : (Jvm.Cond.laysFinal "RelayTransfer" "RelayTransfer" "trial" "LRelayTransfer$Transfer;") ∈ TB := TB_in 274 (by decide +kernel) (by decide +kernel)
theorem q_276 : (Jvm.Cond.laysFinal "RelayTransfer" "RelayTransfer" "history" "[LRelayTransfer$Transfer;") ∈ TB := TB_in 276 (by decide +kernel) (by decide +kernel)
theorem q_278 : (Jvm.Cond.laysFinal "RelayTransfer" "RelayTransfer" "images" "[LRelayTransfer$Transfer;") ∈ TB := TB_in 278 (by decide +kernel) (by decide +kernel)
theorem q_280 : (Jvm.Cond.laysFinal "RelayTransfer" "RelayTransfer" "filled" "[Z") ∈ TB := TB_in 280 (by decide +kernel) (by decide +kernel)
theorem q_282 : (Jvm.Cond.lays "RelayTransfer" "RelayTransfer" "recorded" "I") ∈ TB := TB_in 282 (by decide +kernel) (by decide +kernel)
theorem q_285 : (Jvm.Cond.arrayClass Jvm.ClassFile.FieldType.boolean) ∈ TB := TB_in 285 (by decide +kernel) (by decide +kernel)
theorem q_286 : (Jvm.Cond.methodLink "RelayTransferLaw" (13 : Nat) ({ cls := "RelayTransfer", name := "begin", desc := "(II)I" } : Jvm.MethodName)) ∈ TB := TB_in 286 (by decide +kernel) (by decide +kernel)
theorem q_287 : (Jvm.Cond.instanceMethod ({ cls := "RelayTransfer", name := "begin", desc := "(II)I" } : Jvm.MethodName)) ∈ TB := TB_in 287 (by decide +kernel) (by decide +kernel)
theorem q_288 : (Jvm.Cond.selects "RelayTransfer" ({ cls := "RelayTransfer", name := "begin", desc := "(II)I" } : Jvm.MethodName) ({ cls := "RelayTransfer", name := "begin", desc := "(II)I" } : Jvm.MethodName)) ∈ TB := TB_in 288 (by decide +kernel) (by decide +kernel)
theorem q_289 : (Jvm.Cond.code ({ cls := "RelayTransfer", name := "begin", desc := "(II)I" } : Jvm.MethodName) prog_1_method_2_code (4 : Nat) (Option.some Jvm.ClassFile.FieldType.int)) ∈ TB := TB_in 289 (by decide +kernel) (by decide +kernel)
theorem q_290 : (Jvm.Cond.methodLink "RelayTransfer" (34 : Nat) ({ cls := "RelayTransfer", name := "isWithin", desc := "(III)Z" } : Jvm.MethodName)) ∈ TB := TB_in 290 (by decide +kernel) (by decide +kernel)
theorem q_291 : (Jvm.Cond.static ({ cls := "RelayTransfer", name := "isWithin", desc := "(III)Z" } : Jvm.MethodName)) ∈ TB := TB_in 291 (by decide +kernel) (by decide +kernel)
theorem q_292 : (Jvm.Cond.code ({ cls := "RelayTransfer", name := "isWithin", desc := "(III)Z" } : Jvm.MethodName) prog_1_method_29_code (3 : Nat) (Option.some Jvm.ClassFile.FieldType.boolean)) ∈ TB := TB_in 292 (by decide +kernel) (by decide +kernel)
theorem q_293 : (Jvm.Cond.methodLink "RelayTransfer" (38 : Nat) ({ cls := "RelayTransfer", name := "remember", desc := "()V" } : Jvm.MethodName)) ∈ TB := TB_in 293 (by decide +kernel) (by decide +kernel)
theorem q_295 : (Jvm.Cond.instanceMethod ({ cls := "RelayTransfer", name := "remember", desc := "()V" } : Jvm.MethodName)) ∈ TB := TB_in 295 (by decide +kernel) (by decide +kernel)
theorem q_296 : (Jvm.Cond.code ({ cls := "RelayTransfer", name := "remember", desc := "()V" } : Jvm.MethodName) prog_1_method_22_code (1 : Nat) (Option.none : Option Jvm.ClassFile.FieldType)) ∈ TB := TB_in 296 (by decide +kernel) (by decide +kernel)
theorem q_297 : (Jvm.Cond.methodLink "RelayTransfer" (197 : Nat) ({ cls := "RelayTransfer", name := "dropOldestRecord", desc := "()V" } : Jvm.MethodName)) ∈ TB := TB_in 297 (by decide +kernel) (by decide +kernel)
theorem q_299 : (Jvm.Cond.instanceMethod ({ cls := "RelayTransfer", name := "dropOldestRecord", desc := "()V" } : Jvm.MethodName)) ∈ TB := TB_in 299 (by decide +kernel) (by decide +kernel)
theorem q_300 : (Jvm.Cond.code ({ cls := "RelayTransfer", name := "dropOldestRecord", desc := "()V" } : Jvm.MethodName) prog_1_method_23_code (3 : Nat) (Option.none : Option Jvm.ClassFile.FieldType)) ∈ TB := TB_in 300 (by decide +kernel) (by decide +kernel)
theorem q_301 : (Jvm.Cond.methodLink "RelayTransfer" (122 : Nat) ({ cls := "RelayTransfer$Transfer", name := "copyFrom", desc := "(LRelayTransfer$Transfer;)V" } : Jvm.MethodName)) ∈ TB := TB_in 301 (by decide +kernel) (by decide +kernel)
theorem q_302 : (Jvm.Cond.instanceMethod ({ cls := "RelayTransfer$Transfer", name := "copyFrom", desc := "(LRelayTransfer$Transfer;)V" } : Jvm.MethodName)) ∈ TB := TB_in 302 (by decide +kernel) (by decide +kernel)
theorem q_303 : (Jvm.Cond.selects "RelayTransfer$Transfer" ({ cls := "RelayTransfer$Transfer", name := "copyFrom", desc := "(LRelayTransfer$Transfer;)V" } : Jvm.MethodName) ({ cls := "RelayTransfer$Transfer", name := "copyFrom", desc := "(LRelayTransfer$Transfer;)V" } : Jvm.MethodName)) ∈ TB := TB_in 303 (by decide +kernel) (by decide +kernel)
theorem q_304 : (Jvm.Cond.code ({ cls := "RelayTransfer$Transfer", name := "copyFrom", desc := "(LRelayTransfer$Transfer;)V" } : Jvm.MethodName) prog_7_method_13_code (3 : Nat) (Option.none : Option Jvm.ClassFile.FieldType)) ∈ TB := TB_in 304 (by decide +kernel) (by decide +kernel)
theorem q_305 : (Jvm.Cond.methodLink "RelayTransfer$Transfer" (166 : Nat) ({ cls := "RelayTransfer$Setup", name := "copyFrom", desc := "(LRelayTransfer$Setup;)V" } : Jvm.MethodName)) ∈ TB := TB_in 305 (by decide +kernel) (by decide +kernel)
theorem q_306 : (Jvm.Cond.instanceMethod ({ cls := "RelayTransfer$Setup", name := "copyFrom", desc := "(LRelayTransfer$Setup;)V" } : Jvm.MethodName)) ∈ TB := TB_in 306 (by decide +kernel) (by decide +kernel)
theorem q_307 : (Jvm.Cond.selects "RelayTransfer$Setup" ({ cls := "RelayTransfer$Setup", name := "copyFrom", desc := "(LRelayTransfer$Setup;)V" } : Jvm.MethodName) ({ cls := "RelayTransfer$Setup", name := "copyFrom", desc := "(LRelayTransfer$Setup;)V" } : Jvm.MethodName)) ∈ TB := TB_in 307 (by decide +kernel) (by decide +kernel)
theorem q_308 : (Jvm.Cond.code ({ cls := "RelayTransfer$Setup", name := "copyFrom", desc := "(LRelayTransfer$Setup;)V" } : Jvm.MethodName) prog_5_method_13_code (2 : Nat) (Option.none : Option Jvm.ClassFile.FieldType)) ∈ TB := TB_in 308 (by decide +kernel) (by decide +kernel)
theorem q_309 : (Jvm.Cond.methodLink "RelayTransfer$Transfer" (170 : Nat) ({ cls := "RelayTransfer$PacketList", name := "copyFrom", desc := "(LRelayTransfer$PacketList;)V" } : Jvm.MethodName)) ∈ TB := TB_in 309 (by decide +kernel) (by decide +kernel)
theorem q_310 : (Jvm.Cond.instanceMethod ({ cls := "RelayTransfer$PacketList", name := "copyFrom", desc := "(LRelayTransfer$PacketList;)V" } : Jvm.MethodName)) ∈ TB := TB_in 310 (by decide +kernel) (by decide +kernel)
theorem q_311 : (Jvm.Cond.selects "RelayTransfer$PacketList" ({ cls := "RelayTransfer$PacketList", name := "copyFrom", desc := "(LRelayTransfer$PacketList;)V" } : Jvm.MethodName) ({ cls := "RelayTransfer$PacketList", name := "copyFrom", desc := "(LRelayTransfer$PacketList;)V" } : Jvm.MethodName)) ∈ TB := TB_in 311 (by decide +kernel) (by decide +kernel)
theorem q_312 : (Jvm.Cond.code ({ cls := "RelayTransfer$PacketList", name := "copyFrom", desc := "(LRelayTransfer$PacketList;)V" } : Jvm.MethodName) prog_3_method_10_code (2 : Nat) (Option.none : Option Jvm.ClassFile.FieldType)) ∈ TB := TB_in 312 (by decide +kernel) (by decide +kernel)
theorem q_313 : (Jvm.Cond.methodLinkNest "RelayTransfer$PacketList" (43 : Nat) ({ cls := "RelayTransfer", name := "copyRow", desc := "([I[I)V" } : Jvm.MethodName) "RelayTransfer") ∈ NB := NB_in 313 (by decide +kernel) rfl
theorem q_314 : (Jvm.Cond.methodLink "RelayTransfer$PacketList" (47 : Nat) ({ cls := "java/lang/Math", name := "min", desc := "(II)I" } : Jvm.MethodName)) ∈ TB := TB_in 314 (by decide +kernel) (by decide +kernel)
theorem q_315 : (Jvm.Cond.methodLink "RelayTransfer$Transfer" (173 : Nat) ({ cls := "RelayTransfer$Receiver", name := "copyFrom", desc := "(LRelayTransfer$Receiver;)V" } : Jvm.MethodName)) ∈ TB := TB_in 315 (by decide +kernel) (by decide +kernel)
theorem q_316 : (Jvm.Cond.instanceMethod ({ cls := "RelayTransfer$Receiver", name := "copyFrom", desc := "(LRelayTransfer$Receiver;)V" } : Jvm.MethodName)) ∈ TB := TB_in 316 (by decide +kernel) (by decide +kernel)
theorem q_317 : (Jvm.Cond.selects "RelayTransfer$Receiver" ({ cls := "RelayTransfer$Receiver", name := "copyFrom", desc := "(LRelayTransfer$Receiver;)V" } : Jvm.MethodName) ({ cls := "RelayTransfer$Receiver", name := "copyFrom", desc := "(LRelayTransfer$Receiver;)V" } : Jvm.MethodName)) ∈ TB := TB_in 317 (by decide +kernel) (by decide +kernel)
theorem q_318 : (Jvm.Cond.code ({ cls := "RelayTransfer$Receiver", name := "copyFrom", desc := "(LRelayTransfer$Receiver;)V" } : Jvm.MethodName) prog_4_method_6_code (2 : Nat) (Option.none : Option Jvm.ClassFile.FieldType)) ∈ TB := TB_in 318 (by decide +kernel) (by decide +kernel)
theorem q_319 : (Jvm.Cond.methodLink "RelayTransfer$Receiver" (110 : Nat) ({ cls := "RelayTransfer$PacketList", name := "copyFrom", desc := "(LRelayTransfer$PacketList;)V" } : Jvm.MethodName)) ∈ TB := TB_in 319 (by decide +kernel) (by decide +kernel)
theorem q_320 : (Jvm.Cond.methodLink "RelayTransfer$Receiver" (114 : Nat) ({ cls := "RelayTransfer$Span", name := "copyFrom", desc := "(LRelayTransfer$Span;)V" } : Jvm.MethodName)) ∈ TB := TB_in 320 (by decide +kernel) (by decide +kernel)
theorem q_321 : (Jvm.Cond.instanceMethod ({ cls := "RelayTransfer$Span", name := "copyFrom", desc := "(LRelayTransfer$Span;)V" } : Jvm.MethodName)) ∈ TB := TB_in 321 (by decide +kernel) (by decide +kernel)
theorem q_322 : (Jvm.Cond.selects "RelayTransfer$Span" ({ cls := "RelayTransfer$Span", name := "copyFrom", desc := "(LRelayTransfer$Span;)V" } : Jvm.MethodName) ({ cls := "RelayTransfer$Span", name := "copyFrom", desc := "(LRelayTransfer$Span;)V" } : Jvm.MethodName)) ∈ TB := TB_in 322 (by decide +kernel) (by decide +kernel)
theorem q_323 : (Jvm.Cond.code ({ cls := "RelayTransfer$Span", name := "copyFrom", desc := "(LRelayTransfer$Span;)V" } : Jvm.MethodName) prog_6_method_5_code (2 : Nat) (Option.none : Option Jvm.ClassFile.FieldType)) ∈ TB := TB_in 323 (by decide +kernel) (by decide +kernel)
theorem q_324 : (Jvm.Cond.methodLinkNest "RelayTransfer$Span" (19 : Nat) ({ cls := "RelayTransfer", name := "copyRow", desc := "([I[I)V" } : Jvm.MethodName) "RelayTransfer") ∈ NB := NB_in 324 (by decide +kernel) rfl
theorem q_325 : (Jvm.Cond.methodLink "RelayTransfer$Receiver" (117 : Nat) ({ cls := "RelayTransfer$Findings", name := "copyFrom", desc := "(LRelayTransfer$Findings;)V" } : Jvm.MethodName)) ∈ TB := TB_in 325 (by decide +kernel) (by decide +kernel)
theorem q_326 : (Jvm.Cond.instanceMethod ({ cls := "RelayTransfer$Findings", name := "copyFrom", desc := "(LRelayTransfer$Findings;)V" } : Jvm.MethodName)) ∈ TB := TB_in 326 (by decide +kernel) (by decide +kernel)
theorem q_327 : (Jvm.Cond.selects "RelayTransfer$Findings" ({ cls := "RelayTransfer$Findings", name := "copyFrom", desc := "(LRelayTransfer$Findings;)V" } : Jvm.MethodName) ({ cls := "RelayTransfer$Findings", name := "copyFrom", desc := "(LRelayTransfer$Findings;)V" } : Jvm.MethodName)) ∈ TB := TB_in 327 (by decide +kernel) (by decide +kernel)
theorem q_328 : (Jvm.Cond.code ({ cls := "RelayTransfer$Findings", name := "copyFrom", desc := "(LRelayTransfer$Findings;)V" } : Jvm.MethodName) prog_2_method_7_code (2 : Nat) (Option.none : Option Jvm.ClassFile.FieldType)) ∈ TB := TB_in 328 (by decide +kernel) (by decide +kernel)
theorem q_329 : (Jvm.Cond.methodLinkNest "RelayTransfer$Findings" (34 : Nat) ({ cls := "RelayTransfer", name := "copyRow", desc := "([I[I)V" } : Jvm.MethodName) "RelayTransfer") ∈ NB := NB_in 329 (by decide +kernel) rfl
theorem q_330 : (Jvm.Cond.methodLink "RelayTransfer" (44 : Nat) ({ cls := "RelayTransfer$Transfer", name := "restart", desc := "(II)V" } : Jvm.MethodName)) ∈ TB := TB_in 330 (by decide +kernel) (by decide +kernel)
theorem q_331 : (Jvm.Cond.instanceMethod ({ cls := "RelayTransfer$Transfer", name := "restart", desc := "(II)V" } : Jvm.MethodName)) ∈ TB := TB_in 331 (by decide +kernel) (by decide +kernel)
theorem q_332 : (Jvm.Cond.selects "RelayTransfer$Transfer" ({ cls := "RelayTransfer$Transfer", name := "restart", desc := "(II)V" } : Jvm.MethodName) ({ cls := "RelayTransfer$Transfer", name := "restart", desc := "(II)V" } : Jvm.MethodName)) ∈ TB := TB_in 332 (by decide +kernel) (by decide +kernel)
theorem q_333 : (Jvm.Cond.code ({ cls := "RelayTransfer$Transfer", name := "restart", desc := "(II)V" } : Jvm.MethodName) prog_7_method_2_code (7 : Nat) (Option.none : Option Jvm.ClassFile.FieldType)) ∈ TB := TB_in 333 (by decide +kernel) (by decide +kernel)
theorem q_334 : (Jvm.Cond.methodLink "RelayTransfer$Transfer" (55 : Nat) ({ cls := "RelayTransfer$Setup", name := "restart", desc := "(II)V" } : Jvm.MethodName)) ∈ TB := TB_in 334 (by decide +kernel) (by decide +kernel)
theorem q_335 : (Jvm.Cond.instanceMethod ({ cls := "RelayTransfer$Setup", name := "restart", desc := "(II)V" } : Jvm.MethodName)) ∈ TB := TB_in 335 (by decide +kernel) (by decide +kernel)
theorem q_336 : (Jvm.Cond.selects "RelayTransfer$Setup" ({ cls := "RelayTransfer$Setup", name := "restart", desc := "(II)V" } : Jvm.MethodName) ({ cls := "RelayTransfer$Setup", name := "restart", desc := "(II)V" } : Jvm.MethodName)) ∈ TB := TB_in 336 (by decide +kernel) (by decide +kernel)
theorem q_337 : (Jvm.Cond.code ({ cls := "RelayTransfer$Setup", name := "restart", desc := "(II)V" } : Jvm.MethodName) prog_5_method_3_code (4 : Nat) (Option.none : Option Jvm.ClassFile.FieldType)) ∈ TB := TB_in 337 (by decide +kernel) (by decide +kernel)
theorem q_338 : (Jvm.Cond.methodLink "RelayTransfer$Transfer" (59 : Nat) ({ cls := "RelayTransfer$PacketList", name := "clear", desc := "()V" } : Jvm.MethodName)) ∈ TB := TB_in 338 (by decide +kernel) (by decide +kernel)
theorem q_339 : (Jvm.Cond.instanceMethod ({ cls := "RelayTransfer$PacketList", name := "clear", desc := "()V" } : Jvm.MethodName)) ∈ TB := TB_in 339 (by decide +kernel) (by decide +kernel)
theorem q_340 : (Jvm.Cond.selects "RelayTransfer$PacketList" ({ cls := "RelayTransfer$PacketList", name := "clear", desc := "()V" } : Jvm.MethodName) ({ cls := "RelayTransfer$PacketList", name := "clear", desc := "()V" } : Jvm.MethodName)) ∈ TB := TB_in 340 (by decide +kernel) (by decide +kernel)
theorem q_341 : (Jvm.Cond.code ({ cls := "RelayTransfer$PacketList", name := "clear", desc := "()V" } : Jvm.MethodName) prog_3_method_9_code (1 : Nat) (Option.none : Option Jvm.ClassFile.FieldType)) ∈ TB := TB_in 341 (by decide +kernel) (by decide +kernel)
theorem q_342 : (Jvm.Cond.methodLink "RelayTransfer$Transfer" (62 : Nat) ({ cls := "RelayTransfer$Receiver", name := "clear", desc := "()V" } : Jvm.MethodName)) ∈ TB := TB_in 342 (by decide +kernel) (by decide +kernel)
theorem q_343 : (Jvm.Cond.instanceMethod ({ cls := "RelayTransfer$Receiver", name := "clear", desc := "()V" } : Jvm.MethodName)) ∈ TB := TB_in 343 (by decide +kernel) (by decide +kernel)
theorem q_344 : (Jvm.Cond.selects "RelayTransfer$Receiver" ({ cls := "RelayTransfer$Receiver", name := "clear", desc := "()V" } : Jvm.MethodName) ({ cls := "RelayTransfer$Receiver", name := "clear", desc := "()V" } : Jvm.MethodName)) ∈ TB := TB_in 344 (by decide +kernel) (by decide +kernel)
theorem q_345 : (Jvm.Cond.code ({ cls := "RelayTransfer$Receiver", name := "clear", desc := "()V" } : Jvm.MethodName) prog_4_method_5_code (1 : Nat) (Option.none : Option Jvm.ClassFile.FieldType)) ∈ TB := TB_in 345 (by decide +kernel) (by decide +kernel)
theorem q_346 : (Jvm.Cond.methodLink "RelayTransfer$Receiver" (105 : Nat) ({ cls := "RelayTransfer$PacketList", name := "clear", desc := "()V" } : Jvm.MethodName)) ∈ TB := TB_in 346 (by decide +kernel) (by decide +kernel)
theorem q_347 : (Jvm.Cond.methodLink "RelayTransfer$Receiver" (108 : Nat) ({ cls := "RelayTransfer$Span", name := "clear", desc := "()V" } : Jvm.MethodName)) ∈ TB := TB_in 347 (by decide +kernel) (by decide +kernel)
theorem q_348 : (Jvm.Cond.instanceMethod ({ cls := "RelayTransfer$Span", name := "clear", desc := "()V" } : Jvm.MethodName)) ∈ TB := TB_in 348 (by decide +kernel) (by decide +kernel)
theorem q_349 : (Jvm.Cond.selects "RelayTransfer$Span" ({ cls := "RelayTransfer$Span", name := "clear", desc := "()V" } : Jvm.MethodName) ({ cls := "RelayTransfer$Span", name := "clear", desc := "()V" } : Jvm.MethodName)) ∈ TB := TB_in 349 (by decide +kernel) (by decide +kernel)
theorem q_350 : (Jvm.Cond.code ({ cls := "RelayTransfer$Span", name := "clear", desc := "()V" } : Jvm.MethodName) prog_6_method_4_code (2 : Nat) (Option.none : Option Jvm.ClassFile.FieldType)) ∈ TB := TB_in 350 (by decide +kernel) (by decide +kernel)
theorem q_351 : (Jvm.Cond.methodLink "RelayTransfer$Receiver" (109 : Nat) ({ cls := "RelayTransfer$Findings", name := "clear", desc := "()V" } : Jvm.MethodName)) ∈ TB := TB_in 351 (by decide +kernel) (by decide +kernel)
theorem q_352 : (Jvm.Cond.instanceMethod ({ cls := "RelayTransfer$Findings", name := "clear", desc := "()V" } : Jvm.MethodName)) ∈ TB := TB_in 352 (by decide +kernel) (by decide +kernel)
theorem q_353 : (Jvm.Cond.selects "RelayTransfer$Findings" ({ cls := "RelayTransfer$Findings", name := "clear", desc := "()V" } : Jvm.MethodName) ({ cls := "RelayTransfer$Findings", name := "clear", desc := "()V" } : Jvm.MethodName)) ∈ TB := TB_in 353 (by decide +kernel) (by decide +kernel)
theorem q_354 : (Jvm.Cond.code ({ cls := "RelayTransfer$Findings", name := "clear", desc := "()V" } : Jvm.MethodName) prog_2_method_6_code (2 : Nat) (Option.none : Option Jvm.ClassFile.FieldType)) ∈ TB := TB_in 354 (by decide +kernel) (by decide +kernel)
theorem q_355 : (Jvm.Cond.methodLink "RelayTransferLaw" (18 : Nat) ({ cls := "RelayTransfer", name := "setBlock", desc := "(II)I" } : Jvm.MethodName)) ∈ TB := TB_in 355 (by decide +kernel) (by decide +kernel)
theorem q_356 : (Jvm.Cond.instanceMethod ({ cls := "RelayTransfer", name := "setBlock", desc := "(II)I" } : Jvm.MethodName)) ∈ TB := TB_in 356 (by decide +kernel) (by decide +kernel)
theorem q_357 : (Jvm.Cond.selects "RelayTransfer" ({ cls := "RelayTransfer", name := "setBlock", desc := "(II)I" } : Jvm.MethodName) ({ cls := "RelayTransfer", name := "setBlock", desc := "(II)I" } : Jvm.MethodName)) ∈ TB := TB_in 357 (by decide +kernel) (by decide +kernel)
theorem q_358 : (Jvm.Cond.code ({ cls := "RelayTransfer", name := "setBlock", desc := "(II)I" } : Jvm.MethodName) prog_1_method_3_code (4 : Nat) (Option.some Jvm.ClassFile.FieldType.int)) ∈ TB := TB_in 358 (by decide +kernel) (by decide +kernel)
theorem q_359 : (Jvm.Cond.methodLink "RelayTransfer" (48 : Nat) ({ cls := "RelayTransfer", name := "isBlock", desc := "(I)Z" } : Jvm.MethodName)) ∈ TB := TB_in 359 (by decide +kernel) (by decide +kernel)
theorem q_361 : (Jvm.Cond.instanceMethod ({ cls := "RelayTransfer", name := "isBlock", desc := "(I)Z" } : Jvm.MethodName)) ∈ TB := TB_in 361 (by decide +kernel) (by decide +kernel)
theorem q_362 : (Jvm.Cond.code ({ cls := "RelayTransfer", name := "isBlock", desc := "(I)Z" } : Jvm.MethodName) prog_1_method_25_code (2 : Nat) (Option.some Jvm.ClassFile.FieldType.boolean)) ∈ TB := TB_in 362 (by decide +kernel) (by decide +kernel)
theorem q_363 : (Jvm.Cond.methodLink "RelayTransferLaw" (22 : Nat) ({ cls := "RelayTransfer", name := "setLoss", desc := "(II)I" } : Jvm.MethodName)) ∈ TB := TB_in 363 (by decide +kernel) (by decide +kernel)
theorem q_364 : (Jvm.Cond.instanceMethod ({ cls := "RelayTransfer", name := "setLoss", desc := "(II)I" } : Jvm.MethodName)) ∈ TB := TB_in 364 (by decide +kernel) (by decide +kernel)
theorem q_365 : (Jvm.Cond.selects "RelayTransfer" ({ cls := "RelayTransfer", name := "setLoss", desc := "(II)I" } : Jvm.MethodName) ({ cls := "RelayTransfer", name := "setLoss", desc := "(II)I" } : Jvm.MethodName)) ∈ TB := TB_in 365 (by decide +kernel) (by decide +kernel)
theorem q_366 : (Jvm.Cond.code ({ cls := "RelayTransfer", name := "setLoss", desc := "(II)I" } : Jvm.MethodName) prog_1_method_4_code (4 : Nat) (Option.some Jvm.ClassFile.FieldType.int)) ∈ TB := TB_in 366 (by decide +kernel) (by decide +kernel)
theorem q_367 : (Jvm.Cond.methodLink "RelayTransfer" (71 : Nat) ({ cls := "RelayTransfer", name := "isLink", desc := "(I)Z" } : Jvm.MethodName)) ∈ TB := TB_in 367 (by decide +kernel) (by decide +kernel)
theorem q_369 : (Jvm.Cond.instanceMethod ({ cls := "RelayTransfer", name := "isLink", desc := "(I)Z" } : Jvm.MethodName)) ∈ TB := TB_in 369 (by decide +kernel) (by decide +kernel)
theorem q_370 : (Jvm.Cond.code ({ cls := "RelayTransfer", name := "isLink", desc := "(I)Z" } : Jvm.MethodName) prog_1_method_26_code (2 : Nat) (Option.some Jvm.ClassFile.FieldType.boolean)) ∈ TB := TB_in 370 (by decide +kernel) (by decide +kernel)
theorem q_371 : (Jvm.Cond.methodLink "RelayTransferLaw" (26 : Nat) ({ cls := "RelayTransfer", name := "setWeight", desc := "(II)I" } : Jvm.MethodName)) ∈ TB := TB_in 371 (by decide +kernel) (by decide +kernel)
theorem q_372 : (Jvm.Cond.instanceMethod ({ cls := "RelayTransfer", name := "setWeight", desc := "(II)I" } : Jvm.MethodName)) ∈ TB := TB_in 372 (by decide +kernel) (by decide +kernel)
theorem q_373 : (Jvm.Cond.selects "RelayTransfer" ({ cls := "RelayTransfer", name := "setWeight", desc := "(II)I" } : Jvm.MethodName) ({ cls := "RelayTransfer", name := "setWeight", desc := "(II)I" } : Jvm.MethodName)) ∈ TB := TB_in 373 (by decide +kernel) (by decide +kernel)
theorem q_374 : (Jvm.Cond.code ({ cls := "RelayTransfer", name := "setWeight", desc := "(II)I" } : Jvm.MethodName) prog_1_method_5_code (4 : Nat) (Option.some Jvm.ClassFile.FieldType.int)) ∈ TB := TB_in 374 (by decide +kernel) (by decide +kernel)
theorem q_375 : (Jvm.Cond.methodLink "RelayTransfer" (80 : Nat) ({ cls := "RelayTransfer$Setup", name := "weightSum", desc := "()I" } : Jvm.MethodName)) ∈ TB := TB_in 375 (by decide +kernel) (by decide +kernel)
theorem q_376 : (Jvm.Cond.instanceMethod ({ cls := "RelayTransfer$Setup", name := "weightSum", desc := "()I" } : Jvm.MethodName)) ∈ TB := TB_in 376 (by decide +kernel) (by decide +kernel)
theorem q_377 : (Jvm.Cond.selects "RelayTransfer$Setup" ({ cls := "RelayTransfer$Setup", name := "weightSum", desc := "()I" } : Jvm.MethodName) ({ cls := "RelayTransfer$Setup", name := "weightSum", desc := "()I" } : Jvm.MethodName)) ∈ TB := TB_in 377 (by decide +kernel) (by decide +kernel)
theorem q_378 : (Jvm.Cond.code ({ cls := "RelayTransfer$Setup", name := "weightSum", desc := "()I" } : Jvm.MethodName) prog_5_method_9_code (3 : Nat) (Option.some Jvm.ClassFile.FieldType.int)) ∈ TB := TB_in 378 (by decide +kernel) (by decide +kernel)
theorem q_379 : (Jvm.Cond.methodLink "RelayTransferLaw" (30 : Nat) ({ cls := "RelayTransfer", name := "set", desc := "(II)I" } : Jvm.MethodName)) ∈ TB := TB_in 379 (by decide +kernel) (by decide +kernel)
theorem q_380 : (Jvm.Cond.instanceMethod ({ cls := "RelayTransfer", name := "set", desc := "(II)I" } : Jvm.MethodName)) ∈ TB := TB_in 380 (by decide +kernel) (by decide +kernel)
theorem q_381 : (Jvm.Cond.selects "RelayTransfer" ({ cls := "RelayTransfer", name := "set", desc := "(II)I" } : Jvm.MethodName) ({ cls := "RelayTransfer", name := "set", desc := "(II)I" } : Jvm.MethodName)) ∈ TB := TB_in 381 (by decide +kernel) (by decide +kernel)
theorem q_382 : (Jvm.Cond.code ({ cls := "RelayTransfer", name := "set", desc := "(II)I" } : Jvm.MethodName) prog_1_method_6_code (3 : Nat) (Option.some Jvm.ClassFile.FieldType.int)) ∈ TB := TB_in 382 (by decide +kernel) (by decide +kernel)
theorem q_383 : (Jvm.Cond.methodLink "RelayTransfer" (84 : Nat) ({ cls := "RelayTransfer", name := "isSetting", desc := "(II)Z" } : Jvm.MethodName)) ∈ TB := TB_in 383 (by decide +kernel) (by decide +kernel)
theorem q_384 : (Jvm.Cond.static ({ cls := "RelayTransfer", name := "isSetting", desc := "(II)Z" } : Jvm.MethodName)) ∈ TB := TB_in 384 (by decide +kernel) (by decide +kernel)
theorem q_385 : (Jvm.Cond.code ({ cls := "RelayTransfer", name := "isSetting", desc := "(II)Z" } : Jvm.MethodName) prog_1_method_28_code (2 : Nat) (Option.some Jvm.ClassFile.FieldType.boolean)) ∈ TB := TB_in 385 (by decide +kernel) (by decide +kernel)
theorem q_386 : (Jvm.Cond.methodLink "RelayTransfer" (88 : Nat) ({ cls := "RelayTransfer$Transfer", name := "changeRoom", desc := "(I)I" } : Jvm.MethodName)) ∈ TB := TB_in 386 (by decide +kernel) (by decide +kernel)
theorem q_387 : (Jvm.Cond.instanceMethod ({ cls := "RelayTransfer$Transfer", name := "changeRoom", desc := "(I)I" } : Jvm.MethodName)) ∈ TB := TB_in 387 (by decide +kernel) (by decide +kernel)
theorem q_388 : (Jvm.Cond.selects "RelayTransfer$Transfer" ({ cls := "RelayTransfer$Transfer", name := "changeRoom", desc := "(I)I" } : Jvm.MethodName) ({ cls := "RelayTransfer$Transfer", name := "changeRoom", desc := "(I)I" } : Jvm.MethodName)) ∈ TB := TB_in 388 (by decide +kernel) (by decide +kernel)
theorem q_389 : (Jvm.Cond.code ({ cls := "RelayTransfer$Transfer", name := "changeRoom", desc := "(I)I" } : Jvm.MethodName) prog_7_method_3_code (7 : Nat) (Option.some Jvm.ClassFile.FieldType.int)) ∈ TB := TB_in 389 (by decide +kernel) (by decide +kernel)
theorem q_390 : (Jvm.Cond.methodLink "RelayTransfer$Transfer" (66 : Nat) ({ cls := "RelayTransfer$PacketList", name := "removeFrontsBeyond", desc := "(I)V" } : Jvm.MethodName)) ∈ TB := TB_in 390 (by decide +kernel) (by decide +kernel)
theorem q_391 : (Jvm.Cond.instanceMethod ({ cls := "RelayTransfer$PacketList", name := "removeFrontsBeyond", desc := "(I)V" } : Jvm.MethodName)) ∈ TB := TB_in 391 (by decide +kernel) (by decide +kernel)
theorem q_392 : (Jvm.Cond.selects "RelayTransfer$PacketList" ({ cls := "RelayTransfer$PacketList", name := "removeFrontsBeyond", desc := "(I)V" } : Jvm.MethodName) ({ cls := "RelayTransfer$PacketList", name := "removeFrontsBeyond", desc := "(I)V" } : Jvm.MethodName)) ∈ TB := TB_in 392 (by decide +kernel) (by decide +kernel)
theorem q_393 : (Jvm.Cond.code ({ cls := "RelayTransfer$PacketList", name := "removeFrontsBeyond", desc := "(I)V" } : Jvm.MethodName) prog_3_method_5_code (3 : Nat) (Option.none : Option Jvm.ClassFile.FieldType)) ∈ TB := TB_in 393 (by decide +kernel) (by decide +kernel)
theorem q_394 : (Jvm.Cond.methodLink "RelayTransfer$PacketList" (25 : Nat) ({ cls := "RelayTransfer$PacketList", name := "removeAt", desc := "(I)I" } : Jvm.MethodName)) ∈ TB := TB_in 394 (by decide +kernel) (by decide +kernel)
theorem q_395 : (Jvm.Cond.instanceMethod ({ cls := "RelayTransfer$PacketList", name := "removeAt", desc := "(I)I" } : Jvm.MethodName)) ∈ TB := TB_in 395 (by decide +kernel) (by decide +kernel)
theorem q_396 : (Jvm.Cond.selects "RelayTransfer$PacketList" ({ cls := "RelayTransfer$PacketList", name := "removeAt", desc := "(I)I" } : Jvm.MethodName) ({ cls := "RelayTransfer$PacketList", name := "removeAt", desc := "(I)I" } : Jvm.MethodName)) ∈ TB := TB_in 396 (by decide +kernel) (by decide +kernel)
theorem q_397 : (Jvm.Cond.code ({ cls := "RelayTransfer$PacketList", name := "removeAt", desc := "(I)I" } : Jvm.MethodName) prog_3_method_4_code (4 : Nat) (Option.some Jvm.ClassFile.FieldType.int)) ∈ TB := TB_in 397 (by decide +kernel) (by decide +kernel)
theorem q_398 : (Jvm.Cond.methodLink "RelayTransfer" (92 : Nat) ({ cls := "RelayTransfer$Setup", name := "changePolicy", desc := "(I)I" } : Jvm.MethodName)) ∈ TB := TB_in 398 (by decide +kernel) (by decide +kernel)
theorem q_399 : (Jvm.Cond.instanceMethod ({ cls := "RelayTransfer$Setup", name := "changePolicy", desc := "(I)I" } : Jvm.MethodName)) ∈ TB := TB_in 399 (by decide +kernel) (by decide +kernel)
theorem q_400 : (Jvm.Cond.selects "RelayTransfer$Setup" ({ cls := "RelayTransfer$Setup", name := "changePolicy", desc := "(I)I" } : Jvm.MethodName) ({ cls := "RelayTransfer$Setup", name := "changePolicy", desc := "(I)I" } : Jvm.MethodName)) ∈ TB := TB_in 400 (by decide +kernel) (by decide +kernel)
theorem q_401 : (Jvm.Cond.code ({ cls := "RelayTransfer$Setup", name := "changePolicy", desc := "(I)I" } : Jvm.MethodName) prog_5_method_4_code (3 : Nat) (Option.some Jvm.ClassFile.FieldType.int)) ∈ TB := TB_in 401 (by decide +kernel) (by decide +kernel)
theorem q_402 : (Jvm.Cond.methodLink "RelayTransfer" (95 : Nat) ({ cls := "RelayTransfer$Setup", name := "changeStyle", desc := "(I)I" } : Jvm.MethodName)) ∈ TB := TB_in 402 (by decide +kernel) (by decide +kernel)
theorem q_403 : (Jvm.Cond.instanceMethod ({ cls := "RelayTransfer$Setup", name := "changeStyle", desc := "(I)I" } : Jvm.MethodName)) ∈ TB := TB_in 403 (by decide +kernel) (by decide +kernel)
theorem q_404 : (Jvm.Cond.selects "RelayTransfer$Setup" ({ cls := "RelayTransfer$Setup", name := "changeStyle", desc := "(I)I" } : Jvm.MethodName) ({ cls := "RelayTransfer$Setup", name := "changeStyle", desc := "(I)I" } : Jvm.MethodName)) ∈ TB := TB_in 404 (by decide +kernel) (by decide +kernel)
theorem q_405 : (Jvm.Cond.code ({ cls := "RelayTransfer$Setup", name := "changeStyle", desc := "(I)I" } : Jvm.MethodName) prog_5_method_5_code (3 : Nat) (Option.some Jvm.ClassFile.FieldType.int)) ∈ TB := TB_in 405 (by decide +kernel) (by decide +kernel)
theorem q_406 : (Jvm.Cond.methodLink "RelayTransfer" (98 : Nat) ({ cls := "RelayTransfer$Setup", name := "changeSeed", desc := "(I)I" } : Jvm.MethodName)) ∈ TB := TB_in 406 (by decide +kernel) (by decide +kernel)
theorem q_407 : (Jvm.Cond.instanceMethod ({ cls := "RelayTransfer$Setup", name := "changeSeed", desc := "(I)I" } : Jvm.MethodName)) ∈ TB := TB_in 407 (by decide +kernel) (by decide +kernel)
theorem q_408 : (Jvm.Cond.selects "RelayTransfer$Setup" ({ cls := "RelayTransfer$Setup", name := "changeSeed", desc := "(I)I" } : Jvm.MethodName) ({ cls := "RelayTransfer$Setup", name := "changeSeed", desc := "(I)I" } : Jvm.MethodName)) ∈ TB := TB_in 408 (by decide +kernel) (by decide +kernel)
theorem q_409 : (Jvm.Cond.code ({ cls := "RelayTransfer$Setup", name := "changeSeed", desc := "(I)I" } : Jvm.MethodName) prog_5_method_6_code (3 : Nat) (Option.some Jvm.ClassFile.FieldType.int)) ∈ TB := TB_in 409 (by decide +kernel) (by decide +kernel)
theorem q_410 : (Jvm.Cond.methodLink "RelayTransferLaw" (34 : Nat) ({ cls := "RelayTransfer", name := "run", desc := "(I)I" } : Jvm.MethodName)) ∈ TB := TB_in 410 (by decide +kernel) (by decide +kernel)
theorem q_411 : (Jvm.Cond.instanceMethod ({ cls := "RelayTransfer", name := "run", desc := "(I)I" } : Jvm.MethodName)) ∈ TB := TB_in 411 (by decide +kernel) (by decide +kernel)
theorem q_412 : (Jvm.Cond.selects "RelayTransfer" ({ cls := "RelayTransfer", name := "run", desc := "(I)I" } : Jvm.MethodName) ({ cls := "RelayTransfer", name := "run", desc := "(I)I" } : Jvm.MethodName)) ∈ TB := TB_in 412 (by decide +kernel) (by decide +kernel)
theorem q_413 : (Jvm.Cond.code ({ cls := "RelayTransfer", name := "run", desc := "(I)I" } : Jvm.MethodName) prog_1_method_7_code (3 : Nat) (Option.some Jvm.ClassFile.FieldType.int)) ∈ TB := TB_in 413 (by decide +kernel) (by decide +kernel)
theorem q_414 : (Jvm.Cond.methodLink "RelayTransfer" (101 : Nat) ({ cls := "RelayTransfer$Transfer", name := "tick", desc := "()V" } : Jvm.MethodName)) ∈ TB := TB_in 414 (by decide +kernel) (by decide +kernel)
theorem q_415 : (Jvm.Cond.instanceMethod ({ cls := "RelayTransfer$Transfer", name := "tick", desc := "()V" } : Jvm.MethodName)) ∈ TB := TB_in 415 (by decide +kernel) (by decide +kernel)
theorem q_416 : (Jvm.Cond.selects "RelayTransfer$Transfer" ({ cls := "RelayTransfer$Transfer", name := "tick", desc := "()V" } : Jvm.MethodName) ({ cls := "RelayTransfer$Transfer", name := "tick", desc := "()V" } : Jvm.MethodName)) ∈ TB := TB_in 416 (by decide +kernel) (by decide +kernel)
theorem q_417 : (Jvm.Cond.code ({ cls := "RelayTransfer$Transfer", name := "tick", desc := "()V" } : Jvm.MethodName) prog_7_method_8_code (2 : Nat) (Option.none : Option Jvm.ClassFile.FieldType)) ∈ TB := TB_in 417 (by decide +kernel) (by decide +kernel)
theorem q_418 : (Jvm.Cond.methodLink "RelayTransfer$Transfer" (116 : Nat) ({ cls := "RelayTransfer$Transfer", name := "make", desc := "(I)I" } : Jvm.MethodName)) ∈ TB := TB_in 418 (by decide +kernel) (by decide +kernel)
theorem q_420 : (Jvm.Cond.instanceMethod ({ cls := "RelayTransfer$Transfer", name := "make", desc := "(I)I" } : Jvm.MethodName)) ∈ TB := TB_in 420 (by decide +kernel) (by decide +kernel)
theorem q_421 : (Jvm.Cond.code ({ cls := "RelayTransfer$Transfer", name := "make", desc := "(I)I" } : Jvm.MethodName) prog_7_method_9_code (3 : Nat) (Option.some Jvm.ClassFile.FieldType.int)) ∈ TB := TB_in 421 (by decide +kernel) (by decide +kernel)
theorem q_422 : (Jvm.Cond.methodLink "RelayTransfer$Transfer" (134 : Nat) ({ cls := "RelayTransfer$Setup", name := "drawPacket", desc := "()I" } : Jvm.MethodName)) ∈ TB := TB_in 422 (by decide +kernel) (by decide +kernel)
theorem q_423 : (Jvm.Cond.instanceMethod ({ cls := "RelayTransfer$Setup", name := "drawPacket", desc := "()I" } : Jvm.MethodName)) ∈ TB := TB_in 423 (by decide +kernel) (by decide +kernel)
theorem q_424 : (Jvm.Cond.selects "RelayTransfer$Setup" ({ cls := "RelayTransfer$Setup", name := "drawPacket", desc := "()I" } : Jvm.MethodName) ({ cls := "RelayTransfer$Setup", name := "drawPacket", desc := "()I" } : Jvm.MethodName)) ∈ TB := TB_in 424 (by decide +kernel) (by decide +kernel)
theorem q_425 : (Jvm.Cond.code ({ cls := "RelayTransfer$Setup", name := "drawPacket", desc := "()I" } : Jvm.MethodName) prog_5_method_11_code (4 : Nat) (Option.some Jvm.ClassFile.FieldType.int)) ∈ TB := TB_in 425 (by decide +kernel) (by decide +kernel)
theorem q_426 : (Jvm.Cond.methodLink "RelayTransfer$Setup" (71 : Nat) ({ cls := "RelayTransfer$Setup", name := "drawDegree", desc := "()I" } : Jvm.MethodName)) ∈ TB := TB_in 426 (by decide +kernel) (by decide +kernel)
theorem q_427 : (Jvm.Cond.instanceMethod ({ cls := "RelayTransfer$Setup", name := "drawDegree", desc := "()I" } : Jvm.MethodName)) ∈ TB := TB_in 427 (by decide +kernel) (by decide +kernel)
theorem q_428 : (Jvm.Cond.selects "RelayTransfer$Setup" ({ cls := "RelayTransfer$Setup", name := "drawDegree", desc := "()I" } : Jvm.MethodName) ({ cls := "RelayTransfer$Setup", name := "drawDegree", desc := "()I" } : Jvm.MethodName)) ∈ TB := TB_in 428 (by decide +kernel) (by decide +kernel)
theorem q_429 : (Jvm.Cond.code ({ cls := "RelayTransfer$Setup", name := "drawDegree", desc := "()I" } : Jvm.MethodName) prog_5_method_10_code (4 : Nat) (Option.some Jvm.ClassFile.FieldType.int)) ∈ TB := TB_in 429 (by decide +kernel) (by decide +kernel)
theorem q_430 : (Jvm.Cond.methodLink "RelayTransfer$Setup" (61 : Nat) ({ cls := "RelayTransfer$Setup", name := "weightSum", desc := "()I" } : Jvm.MethodName)) ∈ TB := TB_in 430 (by decide +kernel) (by decide +kernel)
theorem q_431 : (Jvm.Cond.methodLink "RelayTransfer$Setup" (57 : Nat) ({ cls := "RelayTransfer$Setup", name := "draw", desc := "(I)I" } : Jvm.MethodName)) ∈ TB := TB_in 431 (by decide +kernel) (by decide +kernel)
theorem q_432 : (Jvm.Cond.instanceMethod ({ cls := "RelayTransfer$Setup", name := "draw", desc := "(I)I" } : Jvm.MethodName)) ∈ TB := TB_in 432 (by decide +kernel) (by decide +kernel)
theorem q_433 : (Jvm.Cond.selects "RelayTransfer$Setup" ({ cls := "RelayTransfer$Setup", name := "draw", desc := "(I)I" } : Jvm.MethodName) ({ cls := "RelayTransfer$Setup", name := "draw", desc := "(I)I" } : Jvm.MethodName)) ∈ TB := TB_in 433 (by decide +kernel) (by decide +kernel)
theorem q_434 : (Jvm.Cond.code ({ cls := "RelayTransfer$Setup", name := "draw", desc := "(I)I" } : Jvm.MethodName) prog_5_method_7_code (2 : Nat) (Option.some Jvm.ClassFile.FieldType.int)) ∈ TB := TB_in 434 (by decide +kernel) (by decide +kernel)
theorem q_435 : (Jvm.Cond.constantLong "RelayTransfer$Setup" (50 : Nat) (1103515245 : Int64)) ∈ TB := TB_in 435 (by decide +kernel) (by decide +kernel)
theorem q_436 : (Jvm.Cond.constantLong "RelayTransfer$Setup" (52 : Nat) (12345 : Int64)) ∈ TB := TB_in 436 (by decide +kernel) (by decide +kernel)
theorem q_437 : (Jvm.Cond.constantLong "RelayTransfer$Setup" (54 : Nat) (2147483648 : Int64)) ∈ TB := TB_in 437 (by decide +kernel) (by decide +kernel)
theorem q_438 : (Jvm.Cond.constant "RelayTransfer$Setup" (56 : Nat) (65536 : Int32)) ∈ TB := TB_in 438 (by decide +kernel) (by decide +kernel)
theorem q_439 : (Jvm.Cond.methodLink "RelayTransfer$Setup" (65 : Nat) ({ cls := "java/lang/Math", name := "min", desc := "(II)I" } : Jvm.MethodName)) ∈ TB := TB_in 439 (by decide +kernel) (by decide +kernel)
theorem q_440 : (Jvm.Cond.methodLink "RelayTransfer$Setup" (74 : Nat) ({ cls := "RelayTransfer$Setup", name := "packetOf", desc := "(I)I" } : Jvm.MethodName)) ∈ TB := TB_in 440 (by decide +kernel) (by decide +kernel)
theorem q_441 : (Jvm.Cond.instanceMethod ({ cls := "RelayTransfer$Setup", name := "packetOf", desc := "(I)I" } : Jvm.MethodName)) ∈ TB := TB_in 441 (by decide +kernel) (by decide +kernel)
theorem q_442 : (Jvm.Cond.selects "RelayTransfer$Setup" ({ cls := "RelayTransfer$Setup", name := "packetOf", desc := "(I)I" } : Jvm.MethodName) ({ cls := "RelayTransfer$Setup", name := "packetOf", desc := "(I)I" } : Jvm.MethodName)) ∈ TB := TB_in 442 (by decide +kernel) (by decide +kernel)
theorem q_443 : (Jvm.Cond.code ({ cls := "RelayTransfer$Setup", name := "packetOf", desc := "(I)I" } : Jvm.MethodName) prog_5_method_12_code (4 : Nat) (Option.some Jvm.ClassFile.FieldType.int)) ∈ TB := TB_in 443 (by decide +kernel) (by decide +kernel)
theorem q_444 : (Jvm.Cond.methodLinkNest "RelayTransfer$Setup" (77 : Nat) ({ cls := "RelayTransfer", name := "packetWith", desc := "(II)I" } : Jvm.MethodName) "RelayTransfer") ∈ NB := NB_in 444 (by decide +kernel) rfl
theorem q_445 : (Jvm.Cond.static ({ cls := "RelayTransfer", name := "packetWith", desc := "(II)I" } : Jvm.MethodName)) ∈ TB := TB_in 445 (by decide +kernel) (by decide +kernel)
theorem q_446 : (Jvm.Cond.code ({ cls := "RelayTransfer", name := "packetWith", desc := "(II)I" } : Jvm.MethodName) prog_1_method_35_code (2 : Nat) (Option.some Jvm.ClassFile.FieldType.int)) ∈ TB := TB_in 446 (by decide +kernel) (by decide +kernel)
theorem q_447 : (Jvm.Cond.methodLink "RelayTransfer$Transfer" (126 : Nat) ({ cls := "RelayTransfer$Transfer", name := "listOf", desc := "(I)LRelayTransfer$PacketList;" } : Jvm.MethodName)) ∈ TB := TB_in 447 (by decide +kernel) (by decide +kernel)
theorem q_448 : (Jvm.Cond.instanceMethod ({ cls := "RelayTransfer$Transfer", name := "listOf", desc := "(I)LRelayTransfer$PacketList;" } : Jvm.MethodName)) ∈ TB := TB_in 448 (by decide +kernel) (by decide +kernel)
theorem q_449 : (Jvm.Cond.selects "RelayTransfer$Transfer" ({ cls := "RelayTransfer$Transfer", name := "listOf", desc := "(I)LRelayTransfer$PacketList;" } : Jvm.MethodName) ({ cls := "RelayTransfer$Transfer", name := "listOf", desc := "(I)LRelayTransfer$PacketList;" } : Jvm.MethodName)) ∈ TB := TB_in 449 (by decide +kernel) (by decide +kernel)
theorem q_450 : (Jvm.Cond.code ({ cls := "RelayTransfer$Transfer", name := "listOf", desc := "(I)LRelayTransfer$PacketList;" } : Jvm.MethodName) prog_7_method_5_code (2 : Nat) (Option.some (Jvm.ClassFile.FieldType.object "RelayTransfer$PacketList"))) ∈ TB := TB_in 450 (by decide +kernel) (by decide +kernel)
theorem q_451 : (Jvm.Cond.methodLink "RelayTransfer$Transfer" (141 : Nat) ({ cls := "RelayTransfer$Transfer", name := "recode", desc := "(LRelayTransfer$PacketList;)I" } : Jvm.MethodName)) ∈ TB := TB_in 451 (by decide +kernel) (by decide +kernel)
theorem q_453 : (Jvm.Cond.instanceMethod ({ cls := "RelayTransfer$Transfer", name := "recode", desc := "(LRelayTransfer$PacketList;)I" } : Jvm.MethodName)) ∈ TB := TB_in 453 (by decide +kernel) (by decide +kernel)
theorem q_454 : (Jvm.Cond.code ({ cls := "RelayTransfer$Transfer", name := "recode", desc := "(LRelayTransfer$PacketList;)I" } : Jvm.MethodName) prog_7_method_11_code (5 : Nat) (Option.some Jvm.ClassFile.FieldType.int)) ∈ TB := TB_in 454 (by decide +kernel) (by decide +kernel)
theorem q_455 : (Jvm.Cond.methodLink "RelayTransfer$Transfer" (153 : Nat) ({ cls := "RelayTransfer$Setup", name := "draw", desc := "(I)I" } : Jvm.MethodName)) ∈ TB := TB_in 455 (by decide +kernel) (by decide +kernel)
theorem q_456 : (Jvm.Cond.methodLink "RelayTransfer$Transfer" (95 : Nat) ({ cls := "RelayTransfer$PacketList", name := "at", desc := "(I)I" } : Jvm.MethodName)) ∈ TB := TB_in 456 (by decide +kernel) (by decide +kernel)
theorem q_457 : (Jvm.Cond.instanceMethod ({ cls := "RelayTransfer$PacketList", name := "at", desc := "(I)I" } : Jvm.MethodName)) ∈ TB := TB_in 457 (by decide +kernel) (by decide +kernel)
theorem q_458 : (Jvm.Cond.selects "RelayTransfer$PacketList" ({ cls := "RelayTransfer$PacketList", name := "at", desc := "(I)I" } : Jvm.MethodName) ({ cls := "RelayTransfer$PacketList", name := "at", desc := "(I)I" } : Jvm.MethodName)) ∈ TB := TB_in 458 (by decide +kernel) (by decide +kernel)
theorem q_459 : (Jvm.Cond.code ({ cls := "RelayTransfer$PacketList", name := "at", desc := "(I)I" } : Jvm.MethodName) prog_3_method_2_code (2 : Nat) (Option.some Jvm.ClassFile.FieldType.int)) ∈ TB := TB_in 459 (by decide +kernel) (by decide +kernel)
theorem q_460 : (Jvm.Cond.methodLinkNest "RelayTransfer$Transfer" (113 : Nat) ({ cls := "RelayTransfer", name := "setIn", desc := "(I)I" } : Jvm.MethodName) "RelayTransfer") ∈ NB := NB_in 460 (by decide +kernel) rfl
theorem q_461 : (Jvm.Cond.static ({ cls := "RelayTransfer", name := "setIn", desc := "(I)I" } : Jvm.MethodName)) ∈ TB := TB_in 461 (by decide +kernel) (by decide +kernel)
theorem q_462 : (Jvm.Cond.code ({ cls := "RelayTransfer", name := "setIn", desc := "(I)I" } : Jvm.MethodName) prog_1_method_31_code (1 : Nat) (Option.some Jvm.ClassFile.FieldType.int)) ∈ TB := TB_in 462 (by decide +kernel) (by decide +kernel)
theorem q_463 : (Jvm.Cond.methodLink "RelayTransfer$Transfer" (144 : Nat) ({ cls := "RelayTransfer$Transfer", name := "forward", desc := "(LRelayTransfer$PacketList;)I" } : Jvm.MethodName)) ∈ TB := TB_in 463 (by decide +kernel) (by decide +kernel)
theorem q_465 : (Jvm.Cond.instanceMethod ({ cls := "RelayTransfer$Transfer", name := "forward", desc := "(LRelayTransfer$PacketList;)I" } : Jvm.MethodName)) ∈ TB := TB_in 465 (by decide +kernel) (by decide +kernel)
theorem q_466 : (Jvm.Cond.code ({ cls := "RelayTransfer$Transfer", name := "forward", desc := "(LRelayTransfer$PacketList;)I" } : Jvm.MethodName) prog_7_method_10_code (3 : Nat) (Option.some Jvm.ClassFile.FieldType.int)) ∈ TB := TB_in 466 (by decide +kernel) (by decide +kernel)
theorem q_467 : (Jvm.Cond.methodLink "RelayTransfer$Transfer" (147 : Nat) ({ cls := "RelayTransfer$PacketList", name := "removeAt", desc := "(I)I" } : Jvm.MethodName)) ∈ TB := TB_in 467 (by decide +kernel) (by decide +kernel)
theorem q_468 : (Jvm.Cond.methodLink "RelayTransfer$Transfer" (150 : Nat) ({ cls := "RelayTransfer$PacketList", name := "append", desc := "(I)V" } : Jvm.MethodName)) ∈ TB := TB_in 468 (by decide +kernel) (by decide +kernel)
theorem q_469 : (Jvm.Cond.instanceMethod ({ cls := "RelayTransfer$PacketList", name := "append", desc := "(I)V" } : Jvm.MethodName)) ∈ TB := TB_in 469 (by decide +kernel) (by decide +kernel)
theorem q_470 : (Jvm.Cond.selects "RelayTransfer$PacketList" ({ cls := "RelayTransfer$PacketList", name := "append", desc := "(I)V" } : Jvm.MethodName) ({ cls := "RelayTransfer$PacketList", name := "append", desc := "(I)V" } : Jvm.MethodName)) ∈ TB := TB_in 470 (by decide +kernel) (by decide +kernel)
theorem q_471 : (Jvm.Cond.code ({ cls := "RelayTransfer$PacketList", name := "append", desc := "(I)V" } : Jvm.MethodName) prog_3_method_3_code (2 : Nat) (Option.none : Option Jvm.ClassFile.FieldType)) ∈ TB := TB_in 471 (by decide +kernel) (by decide +kernel)
theorem q_472 : (Jvm.Cond.methodLink "RelayTransfer$Transfer" (119 : Nat) ({ cls := "RelayTransfer$Setup", name := "isLostOn", desc := "(I)Z" } : Jvm.MethodName)) ∈ TB := TB_in 472 (by decide +kernel) (by decide +kernel)
theorem q_473 : (Jvm.Cond.instanceMethod ({ cls := "RelayTransfer$Setup", name := "isLostOn", desc := "(I)Z" } : Jvm.MethodName)) ∈ TB := TB_in 473 (by decide +kernel) (by decide +kernel)
theorem q_474 : (Jvm.Cond.selects "RelayTransfer$Setup" ({ cls := "RelayTransfer$Setup", name := "isLostOn", desc := "(I)Z" } : Jvm.MethodName) ({ cls := "RelayTransfer$Setup", name := "isLostOn", desc := "(I)Z" } : Jvm.MethodName)) ∈ TB := TB_in 474 (by decide +kernel) (by decide +kernel)
theorem q_475 : (Jvm.Cond.code ({ cls := "RelayTransfer$Setup", name := "isLostOn", desc := "(I)Z" } : Jvm.MethodName) prog_5_method_8_code (3 : Nat) (Option.some Jvm.ClassFile.FieldType.boolean)) ∈ TB := TB_in 475 (by decide +kernel) (by decide +kernel)
theorem q_476 : (Jvm.Cond.methodLink "RelayTransfer$Transfer" (122 : Nat) ({ cls := "RelayTransfer$Receiver", name := "accept", desc := "(II)Z" } : Jvm.MethodName)) ∈ TB := TB_in 476 (by decide +kernel) (by decide +kernel)
theorem q_477 : (Jvm.Cond.instanceMethod ({ cls := "RelayTransfer$Receiver", name := "accept", desc := "(II)Z" } : Jvm.MethodName)) ∈ TB := TB_in 477 (by decide +kernel) (by decide +kernel)
theorem q_478 : (Jvm.Cond.selects "RelayTransfer$Receiver" ({ cls := "RelayTransfer$Receiver", name := "accept", desc := "(II)Z" } : Jvm.MethodName) ({ cls := "RelayTransfer$Receiver", name := "accept", desc := "(II)Z" } : Jvm.MethodName)) ∈ TB := TB_in 478 (by decide +kernel) (by decide +kernel)
theorem q_479 : (Jvm.Cond.code ({ cls := "RelayTransfer$Receiver", name := "accept", desc := "(II)Z" } : Jvm.MethodName) prog_4_method_2_code (3 : Nat) (Option.some Jvm.ClassFile.FieldType.boolean)) ∈ TB := TB_in 479 (by decide +kernel) (by decide +kernel)
theorem q_480 : (Jvm.Cond.methodLink "RelayTransfer$Receiver" (50 : Nat) ({ cls := "RelayTransfer$Receiver", name := "peel", desc := "(II)V" } : Jvm.MethodName)) ∈ TB := TB_in 480 (by decide +kernel) (by decide +kernel)
theorem q_482 : (Jvm.Cond.instanceMethod ({ cls := "RelayTransfer$Receiver", name := "peel", desc := "(II)V" } : Jvm.MethodName)) ∈ TB := TB_in 482 (by decide +kernel) (by decide +kernel)
theorem q_483 : (Jvm.Cond.code ({ cls := "RelayTransfer$Receiver", name := "peel", desc := "(II)V" } : Jvm.MethodName) prog_4_method_3_code (5 : Nat) (Option.none : Option Jvm.ClassFile.FieldType)) ∈ TB := TB_in 483 (by decide +kernel) (by decide +kernel)
theorem q_484 : (Jvm.Cond.methodLink "RelayTransfer$Receiver" (73 : Nat) ({ cls := "RelayTransfer$Findings", name := "takenOutOf", desc := "(I)I" } : Jvm.MethodName)) ∈ TB := TB_in 484 (by decide +kernel) (by decide +kernel)
theorem q_485 : (Jvm.Cond.instanceMethod ({ cls := "RelayTransfer$Findings", name := "takenOutOf", desc := "(I)I" } : Jvm.MethodName)) ∈ TB := TB_in 485 (by decide +kernel) (by decide +kernel)
theorem q_486 : (Jvm.Cond.selects "RelayTransfer$Findings" ({ cls := "RelayTransfer$Findings", name := "takenOutOf", desc := "(I)I" } : Jvm.MethodName) ({ cls := "RelayTransfer$Findings", name := "takenOutOf", desc := "(I)I" } : Jvm.MethodName)) ∈ TB := TB_in 486 (by decide +kernel) (by decide +kernel)
theorem q_487 : (Jvm.Cond.code ({ cls := "RelayTransfer$Findings", name := "takenOutOf", desc := "(I)I" } : Jvm.MethodName) prog_2_method_5_code (4 : Nat) (Option.some Jvm.ClassFile.FieldType.int)) ∈ TB := TB_in 487 (by decide +kernel) (by decide +kernel)
theorem q_488 : (Jvm.Cond.methodLinkNest "RelayTransfer$Findings" (22 : Nat) ({ cls := "RelayTransfer", name := "hasBlock", desc := "(II)Z" } : Jvm.MethodName) "RelayTransfer") ∈ NB := NB_in 488 (by decide +kernel) rfl
theorem q_489 : (Jvm.Cond.static ({ cls := "RelayTransfer", name := "hasBlock", desc := "(II)Z" } : Jvm.MethodName)) ∈ TB := TB_in 489 (by decide +kernel) (by decide +kernel)
theorem q_490 : (Jvm.Cond.code ({ cls := "RelayTransfer", name := "hasBlock", desc := "(II)Z" } : Jvm.MethodName) prog_1_method_34_code (2 : Nat) (Option.some Jvm.ClassFile.FieldType.boolean)) ∈ TB := TB_in 490 (by decide +kernel) (by decide +kernel)
theorem q_491 : (Jvm.Cond.methodLinkNest "RelayTransfer$Receiver" (77 : Nat) ({ cls := "RelayTransfer", name := "degreeOf", desc := "(I)I" } : Jvm.MethodName) "RelayTransfer") ∈ NB := NB_in 491 (by decide +kernel) rfl
theorem q_492 : (Jvm.Cond.static ({ cls := "RelayTransfer", name := "degreeOf", desc := "(I)I" } : Jvm.MethodName)) ∈ TB := TB_in 492 (by decide +kernel) (by decide +kernel)
theorem q_493 : (Jvm.Cond.code ({ cls := "RelayTransfer", name := "degreeOf", desc := "(I)I" } : Jvm.MethodName) prog_1_method_33_code (1 : Nat) (Option.some Jvm.ClassFile.FieldType.int)) ∈ TB := TB_in 493 (by decide +kernel) (by decide +kernel)
theorem q_494 : (Jvm.Cond.methodLink "RelayTransfer" (215 : Nat) ({ cls := "java/lang/Integer", name := "bitCount", desc := "(I)I" } : Jvm.MethodName)) ∈ TB := TB_in 494 (by decide +kernel) (by decide +kernel)
theorem q_495 : (Jvm.Cond.static ({ cls := "java/lang/Integer", name := "bitCount", desc := "(I)I" } : Jvm.MethodName)) ∈ TB := TB_in 495 (by decide +kernel) (by decide +kernel)
theorem q_496 : (Jvm.Cond.code ({ cls := "java/lang/Integer", name := "bitCount", desc := "(I)I" } : Jvm.MethodName) prog_10_method_49_code (1 : Nat) (Option.some Jvm.ClassFile.FieldType.int)) ∈ TB := TB_in 496 (by decide +kernel) (by decide +kernel)
theorem q_497 : (Jvm.Cond.constant "java/lang/Integer" (265 : Nat) (1431655765 : Int32)) ∈ TB := TB_in 497 (by decide +kernel) (by decide +kernel)
theorem q_498 : (Jvm.Cond.constant "java/lang/Integer" (266 : Nat) (858993459 : Int32)) ∈ TB := TB_in 498 (by decide +kernel) (by decide +kernel)
theorem q_499 : (Jvm.Cond.constant "java/lang/Integer" (267 : Nat) (252645135 : Int32)) ∈ TB := TB_in 499 (by decide +kernel) (by decide +kernel)
theorem q_500 : (Jvm.Cond.methodLink "RelayTransfer$Receiver" (80 : Nat) ({ cls := "RelayTransfer$PacketList", name := "removeFrontsBeyond", desc := "(I)V" } : Jvm.MethodName)) ∈ TB := TB_in 500 (by decide +kernel) (by decide +kernel)
theorem q_501 : (Jvm.Cond.methodLink "RelayTransfer$Receiver" (67 : Nat) ({ cls := "RelayTransfer$PacketList", name := "append", desc := "(I)V" } : Jvm.MethodName)) ∈ TB := TB_in 501 (by decide +kernel) (by decide +kernel)
theorem q_502 : (Jvm.Cond.methodLinkNest "RelayTransfer$Receiver" (83 : Nat) ({ cls := "RelayTransfer", name := "setIn", desc := "(I)I" } : Jvm.MethodName) "RelayTransfer") ∈ NB := NB_in 502 (by decide +kernel) rfl
theorem q_503 : (Jvm.Cond.methodLink "RelayTransfer$Receiver" (86 : Nat) ({ cls := "RelayTransfer$Findings", name := "add", desc := "(II)V" } : Jvm.MethodName)) ∈ TB := TB_in 503 (by decide +kernel) (by decide +kernel)
theorem q_504 : (Jvm.Cond.instanceMethod ({ cls := "RelayTransfer$Findings", name := "add", desc := "(II)V" } : Jvm.MethodName)) ∈ TB := TB_in 504 (by decide +kernel) (by decide +kernel)
theorem q_505 : (Jvm.Cond.selects "RelayTransfer$Findings" ({ cls := "RelayTransfer$Findings", name := "add", desc := "(II)V" } : Jvm.MethodName) ({ cls := "RelayTransfer$Findings", name := "add", desc := "(II)V" } : Jvm.MethodName)) ∈ TB := TB_in 505 (by decide +kernel) (by decide +kernel)
theorem q_506 : (Jvm.Cond.code ({ cls := "RelayTransfer$Findings", name := "add", desc := "(II)V" } : Jvm.MethodName) prog_2_method_3_code (4 : Nat) (Option.none : Option Jvm.ClassFile.FieldType)) ∈ TB := TB_in 506 (by decide +kernel) (by decide +kernel)
theorem q_507 : (Jvm.Cond.methodLink "RelayTransfer$Receiver" (89 : Nat) ({ cls := "RelayTransfer$PacketList", name := "takeOut", desc := "(I)V" } : Jvm.MethodName)) ∈ TB := TB_in 507 (by decide +kernel) (by decide +kernel)
theorem q_508 : (Jvm.Cond.instanceMethod ({ cls := "RelayTransfer$PacketList", name := "takeOut", desc := "(I)V" } : Jvm.MethodName)) ∈ TB := TB_in 508 (by decide +kernel) (by decide +kernel)
theorem q_509 : (Jvm.Cond.selects "RelayTransfer$PacketList" ({ cls := "RelayTransfer$PacketList", name := "takeOut", desc := "(I)V" } : Jvm.MethodName) ({ cls := "RelayTransfer$PacketList", name := "takeOut", desc := "(I)V" } : Jvm.MethodName)) ∈ TB := TB_in 509 (by decide +kernel) (by decide +kernel)
theorem q_510 : (Jvm.Cond.code ({ cls := "RelayTransfer$PacketList", name := "takeOut", desc := "(I)V" } : Jvm.MethodName) prog_3_method_6_code (5 : Nat) (Option.none : Option Jvm.ClassFile.FieldType)) ∈ TB := TB_in 510 (by decide +kernel) (by decide +kernel)
theorem q_511 : (Jvm.Cond.methodLinkNest "RelayTransfer$PacketList" (29 : Nat) ({ cls := "RelayTransfer", name := "setIn", desc := "(I)I" } : Jvm.MethodName) "RelayTransfer") ∈ NB := NB_in 511 (by decide +kernel) rfl
theorem q_512 : (Jvm.Cond.methodLink "RelayTransfer$Receiver" (92 : Nat) ({ cls := "RelayTransfer$PacketList", name := "removeFirstSingle", desc := "()I" } : Jvm.MethodName)) ∈ TB := TB_in 512 (by decide +kernel) (by decide +kernel)
theorem q_513 : (Jvm.Cond.instanceMethod ({ cls := "RelayTransfer$PacketList", name := "removeFirstSingle", desc := "()I" } : Jvm.MethodName)) ∈ TB := TB_in 513 (by decide +kernel) (by decide +kernel)
theorem q_514 : (Jvm.Cond.selects "RelayTransfer$PacketList" ({ cls := "RelayTransfer$PacketList", name := "removeFirstSingle", desc := "()I" } : Jvm.MethodName) ({ cls := "RelayTransfer$PacketList", name := "removeFirstSingle", desc := "()I" } : Jvm.MethodName)) ∈ TB := TB_in 514 (by decide +kernel) (by decide +kernel)
theorem q_515 : (Jvm.Cond.code ({ cls := "RelayTransfer$PacketList", name := "removeFirstSingle", desc := "()I" } : Jvm.MethodName) prog_3_method_7_code (2 : Nat) (Option.some Jvm.ClassFile.FieldType.int)) ∈ TB := TB_in 515 (by decide +kernel) (by decide +kernel)
theorem q_516 : (Jvm.Cond.methodLink "RelayTransfer$PacketList" (32 : Nat) ({ cls := "RelayTransfer$PacketList", name := "at", desc := "(I)I" } : Jvm.MethodName)) ∈ TB := TB_in 516 (by decide +kernel) (by decide +kernel)
theorem q_517 : (Jvm.Cond.methodLinkNest "RelayTransfer$PacketList" (35 : Nat) ({ cls := "RelayTransfer", name := "degreeOf", desc := "(I)I" } : Jvm.MethodName) "RelayTransfer") ∈ NB := NB_in 517 (by decide +kernel) rfl
theorem q_518 : (Jvm.Cond.methodLink "RelayTransfer$Receiver" (57 : Nat) ({ cls := "java/lang/Math", name := "max", desc := "(II)I" } : Jvm.MethodName)) ∈ TB := TB_in 518 (by decide +kernel) (by decide +kernel)
theorem q_519 : (Jvm.Cond.methodLink "RelayTransfer$Receiver" (63 : Nat) ({ cls := "RelayTransfer$Span", name := "take", desc := "(I)Z" } : Jvm.MethodName)) ∈ TB := TB_in 519 (by decide +kernel) (by decide +kernel)
theorem q_520 : (Jvm.Cond.instanceMethod ({ cls := "RelayTransfer$Span", name := "take", desc := "(I)Z" } : Jvm.MethodName)) ∈ TB := TB_in 520 (by decide +kernel) (by decide +kernel)
theorem q_521 : (Jvm.Cond.selects "RelayTransfer$Span" ({ cls := "RelayTransfer$Span", name := "take", desc := "(I)Z" } : Jvm.MethodName) ({ cls := "RelayTransfer$Span", name := "take", desc := "(I)Z" } : Jvm.MethodName)) ∈ TB := TB_in 521 (by decide +kernel) (by decide +kernel)
theorem q_522 : (Jvm.Cond.code ({ cls := "RelayTransfer$Span", name := "take", desc := "(I)Z" } : Jvm.MethodName) prog_6_method_2_code (5 : Nat) (Option.some Jvm.ClassFile.FieldType.boolean)) ∈ TB := TB_in 522 (by decide +kernel) (by decide +kernel)
theorem q_523 : (Jvm.Cond.methodLink "RelayTransfer$Receiver" (70 : Nat) ({ cls := "RelayTransfer$Receiver", name := "solve", desc := "(I)V" } : Jvm.MethodName)) ∈ TB := TB_in 523 (by decide +kernel) (by decide +kernel)
theorem q_525 : (Jvm.Cond.instanceMethod ({ cls := "RelayTransfer$Receiver", name := "solve", desc := "(I)V" } : Jvm.MethodName)) ∈ TB := TB_in 525 (by decide +kernel) (by decide +kernel)
theorem q_526 : (Jvm.Cond.code ({ cls := "RelayTransfer$Receiver", name := "solve", desc := "(I)V" } : Jvm.MethodName) prog_4_method_4_code (4 : Nat) (Option.none : Option Jvm.ClassFile.FieldType)) ∈ TB := TB_in 526 (by decide +kernel) (by decide +kernel)
theorem q_527 : (Jvm.Cond.methodLinkNest "RelayTransfer$Receiver" (96 : Nat) ({ cls := "RelayTransfer", name := "packetWith", desc := "(II)I" } : Jvm.MethodName) "RelayTransfer") ∈ NB := NB_in 527 (by decide +kernel) rfl
theorem q_528 : (Jvm.Cond.methodLink "RelayTransfer$Receiver" (99 : Nat) ({ cls := "RelayTransfer$Span", name := "reduce", desc := "(I)I" } : Jvm.MethodName)) ∈ TB := TB_in 528 (by decide +kernel) (by decide +kernel)
theorem q_529 : (Jvm.Cond.instanceMethod ({ cls := "RelayTransfer$Span", name := "reduce", desc := "(I)I" } : Jvm.MethodName)) ∈ TB := TB_in 529 (by decide +kernel) (by decide +kernel)
theorem q_530 : (Jvm.Cond.selects "RelayTransfer$Span" ({ cls := "RelayTransfer$Span", name := "reduce", desc := "(I)I" } : Jvm.MethodName) ({ cls := "RelayTransfer$Span", name := "reduce", desc := "(I)I" } : Jvm.MethodName)) ∈ TB := TB_in 530 (by decide +kernel) (by decide +kernel)
theorem q_531 : (Jvm.Cond.code ({ cls := "RelayTransfer$Span", name := "reduce", desc := "(I)I" } : Jvm.MethodName) prog_6_method_3_code (5 : Nat) (Option.some Jvm.ClassFile.FieldType.int)) ∈ TB := TB_in 531 (by decide +kernel) (by decide +kernel)
theorem q_532 : (Jvm.Cond.methodLinkNest "RelayTransfer$Receiver" (102 : Nat) ({ cls := "RelayTransfer", name := "valueIn", desc := "(I)I" } : Jvm.MethodName) "RelayTransfer") ∈ NB := NB_in 532 (by decide +kernel) rfl
theorem q_533 : (Jvm.Cond.static ({ cls := "RelayTransfer", name := "valueIn", desc := "(I)I" } : Jvm.MethodName)) ∈ TB := TB_in 533 (by decide +kernel) (by decide +kernel)
theorem q_534 : (Jvm.Cond.code ({ cls := "RelayTransfer", name := "valueIn", desc := "(I)I" } : Jvm.MethodName) prog_1_method_32_code (1 : Nat) (Option.some Jvm.ClassFile.FieldType.int)) ∈ TB := TB_in 534 (by decide +kernel) (by decide +kernel)
theorem q_535 : (Jvm.Cond.methodLink "RelayTransfer$Transfer" (130 : Nat) ({ cls := "RelayTransfer$Transfer", name := "store", desc := "(LRelayTransfer$PacketList;I)V" } : Jvm.MethodName)) ∈ TB := TB_in 535 (by decide +kernel) (by decide +kernel)
theorem q_537 : (Jvm.Cond.instanceMethod ({ cls := "RelayTransfer$Transfer", name := "store", desc := "(LRelayTransfer$PacketList;I)V" } : Jvm.MethodName)) ∈ TB := TB_in 537 (by decide +kernel) (by decide +kernel)
theorem q_538 : (Jvm.Cond.code ({ cls := "RelayTransfer$Transfer", name := "store", desc := "(LRelayTransfer$PacketList;I)V" } : Jvm.MethodName) prog_7_method_12_code (4 : Nat) (Option.none : Option Jvm.ClassFile.FieldType)) ∈ TB := TB_in 538 (by decide +kernel) (by decide +kernel)
theorem q_539 : (Jvm.Cond.methodLink "RelayTransfer$Transfer" (159 : Nat) ({ cls := "RelayTransfer$Transfer", name := "isNovelFor", desc := "(LRelayTransfer$PacketList;I)Z" } : Jvm.MethodName)) ∈ TB := TB_in 539 (by decide +kernel) (by decide +kernel)
theorem q_540 : (Jvm.Cond.instanceMethod ({ cls := "RelayTransfer$Transfer", name := "isNovelFor", desc := "(LRelayTransfer$PacketList;I)Z" } : Jvm.MethodName)) ∈ TB := TB_in 540 (by decide +kernel) (by decide +kernel)
theorem q_541 : (Jvm.Cond.selects "RelayTransfer$Transfer" ({ cls := "RelayTransfer$Transfer", name := "isNovelFor", desc := "(LRelayTransfer$PacketList;I)Z" } : Jvm.MethodName) ({ cls := "RelayTransfer$Transfer", name := "isNovelFor", desc := "(LRelayTransfer$PacketList;I)Z" } : Jvm.MethodName)) ∈ TB := TB_in 541 (by decide +kernel) (by decide +kernel)
theorem q_542 : (Jvm.Cond.code ({ cls := "RelayTransfer$Transfer", name := "isNovelFor", desc := "(LRelayTransfer$PacketList;I)Z" } : Jvm.MethodName) prog_7_method_7_code (3 : Nat) (Option.some Jvm.ClassFile.FieldType.boolean)) ∈ TB := TB_in 542 (by decide +kernel) (by decide +kernel)
theorem q_543 : (Jvm.Cond.methodLink "RelayTransfer$Transfer" (106 : Nat) ({ cls := "RelayTransfer$Transfer", name := "rankOf", desc := "(LRelayTransfer$PacketList;)I" } : Jvm.MethodName)) ∈ TB := TB_in 543 (by decide +kernel) (by decide +kernel)
theorem q_544 : (Jvm.Cond.instanceMethod ({ cls := "RelayTransfer$Transfer", name := "rankOf", desc := "(LRelayTransfer$PacketList;)I" } : Jvm.MethodName)) ∈ TB := TB_in 544 (by decide +kernel) (by decide +kernel)
theorem q_545 : (Jvm.Cond.selects "RelayTransfer$Transfer" ({ cls := "RelayTransfer$Transfer", name := "rankOf", desc := "(LRelayTransfer$PacketList;)I" } : Jvm.MethodName) ({ cls := "RelayTransfer$Transfer", name := "rankOf", desc := "(LRelayTransfer$PacketList;)I" } : Jvm.MethodName)) ∈ TB := TB_in 545 (by decide +kernel) (by decide +kernel)
theorem q_546 : (Jvm.Cond.code ({ cls := "RelayTransfer$Transfer", name := "rankOf", desc := "(LRelayTransfer$PacketList;)I" } : Jvm.MethodName) prog_7_method_6_code (3 : Nat) (Option.some Jvm.ClassFile.FieldType.int)) ∈ TB := TB_in 546 (by decide +kernel) (by decide +kernel)
theorem q_547 : (Jvm.Cond.methodLink "RelayTransfer$Transfer" (91 : Nat) ({ cls := "RelayTransfer$Span", name := "clear", desc := "()V" } : Jvm.MethodName)) ∈ TB := TB_in 547 (by decide +kernel) (by decide +kernel)
theorem q_548 : (Jvm.Cond.methodLink "RelayTransfer$Transfer" (99 : Nat) ({ cls := "RelayTransfer$Span", name := "take", desc := "(I)Z" } : Jvm.MethodName)) ∈ TB := TB_in 548 (by decide +kernel) (by decide +kernel)
theorem q_549 : (Jvm.Cond.methodLink "RelayTransfer$Transfer" (110 : Nat) ({ cls := "RelayTransfer$Span", name := "reduce", desc := "(I)I" } : Jvm.MethodName)) ∈ TB := TB_in 549 (by decide +kernel) (by decide +kernel)
theorem q_550 : (Jvm.Cond.methodLink "RelayTransfer$Transfer" (163 : Nat) ({ cls := "RelayTransfer$PacketList", name := "placeOfMostCommon", desc := "(I)I" } : Jvm.MethodName)) ∈ TB := TB_in 550 (by decide +kernel) (by decide +kernel)
theorem q_551 : (Jvm.Cond.instanceMethod ({ cls := "RelayTransfer$PacketList", name := "placeOfMostCommon", desc := "(I)I" } : Jvm.MethodName)) ∈ TB := TB_in 551 (by decide +kernel) (by decide +kernel)
theorem q_552 : (Jvm.Cond.selects "RelayTransfer$PacketList" ({ cls := "RelayTransfer$PacketList", name := "placeOfMostCommon", desc := "(I)I" } : Jvm.MethodName) ({ cls := "RelayTransfer$PacketList", name := "placeOfMostCommon", desc := "(I)I" } : Jvm.MethodName)) ∈ TB := TB_in 552 (by decide +kernel) (by decide +kernel)
theorem q_553 : (Jvm.Cond.code ({ cls := "RelayTransfer$PacketList", name := "placeOfMostCommon", desc := "(I)I" } : Jvm.MethodName) prog_3_method_8_code (6 : Nat) (Option.some Jvm.ClassFile.FieldType.int)) ∈ TB := TB_in 553 (by decide +kernel) (by decide +kernel)
theorem q_554 : (Jvm.Cond.methodLink "RelayTransfer$PacketList" (38 : Nat) ({ cls := "java/lang/Integer", name := "bitCount", desc := "(I)I" } : Jvm.MethodName)) ∈ TB := TB_in 554 (by decide +kernel) (by decide +kernel)
theorem q_555 : (Jvm.Cond.methodLink "RelayTransferLaw" (39 : Nat) ({ cls := "RelayTransfer", name := "inject", desc := "(I)I" } : Jvm.MethodName)) ∈ TB := TB_in 555 (by decide +kernel) (by decide +kernel)
theorem q_556 : (Jvm.Cond.instanceMethod ({ cls := "RelayTransfer", name := "inject", desc := "(I)I" } : Jvm.MethodName)) ∈ TB := TB_in 556 (by decide +kernel) (by decide +kernel)
theorem q_557 : (Jvm.Cond.selects "RelayTransfer" ({ cls := "RelayTransfer", name := "inject", desc := "(I)I" } : Jvm.MethodName) ({ cls := "RelayTransfer", name := "inject", desc := "(I)I" } : Jvm.MethodName)) ∈ TB := TB_in 557 (by decide +kernel) (by decide +kernel)
theorem q_558 : (Jvm.Cond.code ({ cls := "RelayTransfer", name := "inject", desc := "(I)I" } : Jvm.MethodName) prog_1_method_8_code (2 : Nat) (Option.some Jvm.ClassFile.FieldType.int)) ∈ TB := TB_in 558 (by decide +kernel) (by decide +kernel)
theorem q_559 : (Jvm.Cond.methodLink "RelayTransfer" (113 : Nat) ({ cls := "RelayTransfer", name := "isBlockSet", desc := "(I)Z" } : Jvm.MethodName)) ∈ TB := TB_in 559 (by decide +kernel) (by decide +kernel)
theorem q_561 : (Jvm.Cond.instanceMethod ({ cls := "RelayTransfer", name := "isBlockSet", desc := "(I)Z" } : Jvm.MethodName)) ∈ TB := TB_in 561 (by decide +kernel) (by decide +kernel)
theorem q_562 : (Jvm.Cond.code ({ cls := "RelayTransfer", name := "isBlockSet", desc := "(I)Z" } : Jvm.MethodName) prog_1_method_27_code (2 : Nat) (Option.some Jvm.ClassFile.FieldType.boolean)) ∈ TB := TB_in 562 (by decide +kernel) (by decide +kernel)
theorem q_563 : (Jvm.Cond.methodLink "RelayTransfer" (116 : Nat) ({ cls := "RelayTransfer$Setup", name := "packetOf", desc := "(I)I" } : Jvm.MethodName)) ∈ TB := TB_in 563 (by decide +kernel) (by decide +kernel)
theorem q_564 : (Jvm.Cond.methodLink "RelayTransfer" (119 : Nat) ({ cls := "RelayTransfer$Receiver", name := "accept", desc := "(II)Z" } : Jvm.MethodName)) ∈ TB := TB_in 564 (by decide +kernel) (by decide +kernel)
theorem q_565 : (Jvm.Cond.methodLink "RelayTransferLaw" (43 : Nat) ({ cls := "RelayTransfer", name := "undo", desc := "()I" } : Jvm.MethodName)) ∈ TB := TB_in 565 (by decide +kernel) (by decide +kernel)
theorem q_566 : (Jvm.Cond.instanceMethod ({ cls := "RelayTransfer", name := "undo", desc := "()I" } : Jvm.MethodName)) ∈ TB := TB_in 566 (by decide +kernel) (by decide +kernel)
theorem q_567 : (Jvm.Cond.selects "RelayTransfer" ({ cls := "RelayTransfer", name := "undo", desc := "()I" } : Jvm.MethodName) ({ cls := "RelayTransfer", name := "undo", desc := "()I" } : Jvm.MethodName)) ∈ TB := TB_in 567 (by decide +kernel) (by decide +kernel)
theorem q_568 : (Jvm.Cond.code ({ cls := "RelayTransfer", name := "undo", desc := "()I" } : Jvm.MethodName) prog_1_method_9_code (1 : Nat) (Option.some Jvm.ClassFile.FieldType.int)) ∈ TB := TB_in 568 (by decide +kernel) (by decide +kernel)
theorem q_569 : (Jvm.Cond.methodLink "RelayTransferLaw" (48 : Nat) ({ cls := "RelayTransfer", name := "told", desc := "(I)I" } : Jvm.MethodName)) ∈ TB := TB_in 569 (by decide +kernel) (by decide +kernel)
theorem q_570 : (Jvm.Cond.instanceMethod ({ cls := "RelayTransfer", name := "told", desc := "(I)I" } : Jvm.MethodName)) ∈ TB := TB_in 570 (by decide +kernel) (by decide +kernel)
theorem q_571 : (Jvm.Cond.selects "RelayTransfer" ({ cls := "RelayTransfer", name := "told", desc := "(I)I" } : Jvm.MethodName) ({ cls := "RelayTransfer", name := "told", desc := "(I)I" } : Jvm.MethodName)) ∈ TB := TB_in 571 (by decide +kernel) (by decide +kernel)
theorem q_572 : (Jvm.Cond.code ({ cls := "RelayTransfer", name := "told", desc := "(I)I" } : Jvm.MethodName) prog_1_method_10_code (4 : Nat) (Option.some Jvm.ClassFile.FieldType.int)) ∈ TB := TB_in 572 (by decide +kernel) (by decide +kernel)
theorem q_573 : (Jvm.Cond.methodLink "RelayTransferLaw" (52 : Nat) ({ cls := "RelayTransfer", name := "block", desc := "(II)I" } : Jvm.MethodName)) ∈ TB := TB_in 573 (by decide +kernel) (by decide +kernel)
theorem q_574 : (Jvm.Cond.instanceMethod ({ cls := "RelayTransfer", name := "block", desc := "(II)I" } : Jvm.MethodName)) ∈ TB := TB_in 574 (by decide +kernel) (by decide +kernel)
theorem q_575 : (Jvm.Cond.selects "RelayTransfer" ({ cls := "RelayTransfer", name := "block", desc := "(II)I" } : Jvm.MethodName) ({ cls := "RelayTransfer", name := "block", desc := "(II)I" } : Jvm.MethodName)) ∈ TB := TB_in 575 (by decide +kernel) (by decide +kernel)
theorem q_576 : (Jvm.Cond.code ({ cls := "RelayTransfer", name := "block", desc := "(II)I" } : Jvm.MethodName) prog_1_method_11_code (3 : Nat) (Option.some Jvm.ClassFile.FieldType.int)) ∈ TB := TB_in 576 (by decide +kernel) (by decide +kernel)
theorem q_577 : (Jvm.Cond.methodLink "RelayTransfer" (171 : Nat) ({ cls := "RelayTransfer$Findings", name := "valueAt", desc := "(I)I" } : Jvm.MethodName)) ∈ TB := TB_in 577 (by decide +kernel) (by decide +kernel)
theorem q_578 : (Jvm.Cond.instanceMethod ({ cls := "RelayTransfer$Findings", name := "valueAt", desc := "(I)I" } : Jvm.MethodName)) ∈ TB := TB_in 578 (by decide +kernel) (by decide +kernel)
theorem q_579 : (Jvm.Cond.selects "RelayTransfer$Findings" ({ cls := "RelayTransfer$Findings", name := "valueAt", desc := "(I)I" } : Jvm.MethodName) ({ cls := "RelayTransfer$Findings", name := "valueAt", desc := "(I)I" } : Jvm.MethodName)) ∈ TB := TB_in 579 (by decide +kernel) (by decide +kernel)
theorem q_580 : (Jvm.Cond.code ({ cls := "RelayTransfer$Findings", name := "valueAt", desc := "(I)I" } : Jvm.MethodName) prog_2_method_4_code (2 : Nat) (Option.some Jvm.ClassFile.FieldType.int)) ∈ TB := TB_in 580 (by decide +kernel) (by decide +kernel)
theorem q_581 : (Jvm.Cond.methodLink "RelayTransfer$Findings" (26 : Nat) ({ cls := "RelayTransfer$Findings", name := "has", desc := "(I)Z" } : Jvm.MethodName)) ∈ TB := TB_in 581 (by decide +kernel) (by decide +kernel)
theorem q_582 : (Jvm.Cond.instanceMethod ({ cls := "RelayTransfer$Findings", name := "has", desc := "(I)Z" } : Jvm.MethodName)) ∈ TB := TB_in 582 (by decide +kernel) (by decide +kernel)
theorem q_583 : (Jvm.Cond.selects "RelayTransfer$Findings" ({ cls := "RelayTransfer$Findings", name := "has", desc := "(I)Z" } : Jvm.MethodName) ({ cls := "RelayTransfer$Findings", name := "has", desc := "(I)Z" } : Jvm.MethodName)) ∈ TB := TB_in 583 (by decide +kernel) (by decide +kernel)
theorem q_584 : (Jvm.Cond.code ({ cls := "RelayTransfer$Findings", name := "has", desc := "(I)Z" } : Jvm.MethodName) prog_2_method_2_code (2 : Nat) (Option.some Jvm.ClassFile.FieldType.boolean)) ∈ TB := TB_in 584 (by decide +kernel) (by decide +kernel)
theorem q_585 : (Jvm.Cond.methodLinkNest "RelayTransfer$Findings" (30 : Nat) ({ cls := "RelayTransfer", name := "valueIn", desc := "(I)I" } : Jvm.MethodName) "RelayTransfer") ∈ NB := NB_in 585 (by decide +kernel) rfl
theorem q_586 : (Jvm.Cond.methodLink "RelayTransferLaw" (56 : Nat) ({ cls := "RelayTransfer", name := "packet", desc := "(III)I" } : Jvm.MethodName)) ∈ TB := TB_in 586 (by decide +kernel) (by decide +kernel)
theorem q_587 : (Jvm.Cond.instanceMethod ({ cls := "RelayTransfer", name := "packet", desc := "(III)I" } : Jvm.MethodName)) ∈ TB := TB_in 587 (by decide +kernel) (by decide +kernel)
theorem q_588 : (Jvm.Cond.selects "RelayTransfer" ({ cls := "RelayTransfer", name := "packet", desc := "(III)I" } : Jvm.MethodName) ({ cls := "RelayTransfer", name := "packet", desc := "(III)I" } : Jvm.MethodName)) ∈ TB := TB_in 588 (by decide +kernel) (by decide +kernel)
theorem q_589 : (Jvm.Cond.code ({ cls := "RelayTransfer", name := "packet", desc := "(III)I" } : Jvm.MethodName) prog_1_method_12_code (5 : Nat) (Option.some Jvm.ClassFile.FieldType.int)) ∈ TB := TB_in 589 (by decide +kernel) (by decide +kernel)
theorem q_590 : (Jvm.Cond.methodLink "RelayTransfer" (177 : Nat) ({ cls := "RelayTransfer$Transfer", name := "listOf", desc := "(I)LRelayTransfer$PacketList;" } : Jvm.MethodName)) ∈ TB := TB_in 590 (by decide +kernel) (by decide +kernel)
theorem q_591 : (Jvm.Cond.methodLink "RelayTransfer" (181 : Nat) ({ cls := "RelayTransfer", name := "numberOfPacket", desc := "(LRelayTransfer$PacketList;II)I" } : Jvm.MethodName)) ∈ TB := TB_in 591 (by decide +kernel) (by decide +kernel)
theorem q_592 : (Jvm.Cond.static ({ cls := "RelayTransfer", name := "numberOfPacket", desc := "(LRelayTransfer$PacketList;II)I" } : Jvm.MethodName)) ∈ TB := TB_in 592 (by decide +kernel) (by decide +kernel)
theorem q_593 : (Jvm.Cond.code ({ cls := "RelayTransfer", name := "numberOfPacket", desc := "(LRelayTransfer$PacketList;II)I" } : Jvm.MethodName) prog_1_method_30_code (4 : Nat) (Option.some Jvm.ClassFile.FieldType.int)) ∈ TB := TB_in 593 (by decide +kernel) (by decide +kernel)
theorem q_594 : (Jvm.Cond.methodLink "RelayTransfer" (203 : Nat) ({ cls := "RelayTransfer$PacketList", name := "at", desc := "(I)I" } : Jvm.MethodName)) ∈ TB := TB_in 594 (by decide +kernel) (by decide +kernel)
theorem q_595 : (Jvm.Cond.methodLink "RelayTransfer" (206 : Nat) ({ cls := "RelayTransfer", name := "setIn", desc := "(I)I" } : Jvm.MethodName)) ∈ TB := TB_in 595 (by decide +kernel) (by decide +kernel)
theorem q_596 : (Jvm.Cond.methodLink "RelayTransfer" (209 : Nat) ({ cls := "RelayTransfer", name := "valueIn", desc := "(I)I" } : Jvm.MethodName)) ∈ TB := TB_in 596 (by decide +kernel) (by decide +kernel)
theorem q_597 : (Jvm.Cond.methodLink "RelayTransfer" (212 : Nat) ({ cls := "RelayTransfer", name := "degreeOf", desc := "(I)I" } : Jvm.MethodName)) ∈ TB := TB_in 597 (by decide +kernel) (by decide +kernel)
theorem q_598 : (Jvm.Cond.methodLink "RelayTransferLaw" (61 : Nat) ({ cls := "RelayTransfer", name := "waiting", desc := "(II)I" } : Jvm.MethodName)) ∈ TB := TB_in 598 (by decide +kernel) (by decide +kernel)
theorem q_599 : (Jvm.Cond.instanceMethod ({ cls := "RelayTransfer", name := "waiting", desc := "(II)I" } : Jvm.MethodName)) ∈ TB := TB_in 599 (by decide +kernel) (by decide +kernel)
theorem q_600 : (Jvm.Cond.selects "RelayTransfer" ({ cls := "RelayTransfer", name := "waiting", desc := "(II)I" } : Jvm.MethodName) ({ cls := "RelayTransfer", name := "waiting", desc := "(II)I" } : Jvm.MethodName)) ∈ TB := TB_in 600 (by decide +kernel) (by decide +kernel)
theorem q_601 : (Jvm.Cond.code ({ cls := "RelayTransfer", name := "waiting", desc := "(II)I" } : Jvm.MethodName) prog_1_method_13_code (3 : Nat) (Option.some Jvm.ClassFile.FieldType.int)) ∈ TB := TB_in 601 (by decide +kernel) (by decide +kernel)
theorem q_602 : (Jvm.Cond.methodLink "RelayTransferLaw" (65 : Nat) ({ cls := "RelayTransfer", name := "node", desc := "(II)I" } : Jvm.MethodName)) ∈ TB := TB_in 602 (by decide +kernel) (by decide +kernel)
theorem q_603 : (Jvm.Cond.instanceMethod ({ cls := "RelayTransfer", name := "node", desc := "(II)I" } : Jvm.MethodName)) ∈ TB := TB_in 603 (by decide +kernel) (by decide +kernel)
theorem q_604 : (Jvm.Cond.selects "RelayTransfer" ({ cls := "RelayTransfer", name := "node", desc := "(II)I" } : Jvm.MethodName) ({ cls := "RelayTransfer", name := "node", desc := "(II)I" } : Jvm.MethodName)) ∈ TB := TB_in 604 (by decide +kernel) (by decide +kernel)
theorem q_605 : (Jvm.Cond.code ({ cls := "RelayTransfer", name := "node", desc := "(II)I" } : Jvm.MethodName) prog_1_method_14_code (4 : Nat) (Option.some Jvm.ClassFile.FieldType.int)) ∈ TB := TB_in 605 (by decide +kernel) (by decide +kernel)
theorem q_606 : (Jvm.Cond.methodLink "RelayTransfer" (185 : Nat) ({ cls := "RelayTransfer$Transfer", name := "rankOf", desc := "(LRelayTransfer$PacketList;)I" } : Jvm.MethodName)) ∈ TB := TB_in 606 (by decide +kernel) (by decide +kernel)
theorem q_607 : (Jvm.Cond.methodLink "RelayTransferLaw" (69 : Nat) ({ cls := "RelayTransfer", name := "novel", desc := "(II)I" } : Jvm.MethodName)) ∈ TB := TB_in 607 (by decide +kernel) (by decide +kernel)
theorem q_608 : (Jvm.Cond.instanceMethod ({ cls := "RelayTransfer", name := "novel", desc := "(II)I" } : Jvm.MethodName)) ∈ TB := TB_in 608 (by decide +kernel) (by decide +kernel)
theorem q_609 : (Jvm.Cond.selects "RelayTransfer" ({ cls := "RelayTransfer", name := "novel", desc := "(II)I" } : Jvm.MethodName) ({ cls := "RelayTransfer", name := "novel", desc := "(II)I" } : Jvm.MethodName)) ∈ TB := TB_in 609 (by decide +kernel) (by decide +kernel)
theorem q_610 : (Jvm.Cond.code ({ cls := "RelayTransfer", name := "novel", desc := "(II)I" } : Jvm.MethodName) prog_1_method_15_code (4 : Nat) (Option.some Jvm.ClassFile.FieldType.int)) ∈ TB := TB_in 610 (by decide +kernel) (by decide +kernel)
theorem q_611 : (Jvm.Cond.methodLink "RelayTransfer" (189 : Nat) ({ cls := "RelayTransfer$Transfer", name := "isNovelFor", desc := "(LRelayTransfer$PacketList;I)Z" } : Jvm.MethodName)) ∈ TB := TB_in 611 (by decide +kernel) (by decide +kernel)
theorem q_612 : (Jvm.Cond.methodLink "RelayTransferLaw" (73 : Nat) ({ cls := "RelayTransfer", name := "overhead", desc := "()F" } : Jvm.MethodName)) ∈ TB := TB_in 612 (by decide +kernel) (by decide +kernel)
theorem q_613 : (Jvm.Cond.instanceMethod ({ cls := "RelayTransfer", name := "overhead", desc := "()F" } : Jvm.MethodName)) ∈ TB := TB_in 613 (by decide +kernel) (by decide +kernel)
theorem q_614 : (Jvm.Cond.selects "RelayTransfer" ({ cls := "RelayTransfer", name := "overhead", desc := "()F" } : Jvm.MethodName) ({ cls := "RelayTransfer", name := "overhead", desc := "()F" } : Jvm.MethodName)) ∈ TB := TB_in 614 (by decide +kernel) (by decide +kernel)
theorem q_615 : (Jvm.Cond.code ({ cls := "RelayTransfer", name := "overhead", desc := "()F" } : Jvm.MethodName) prog_1_method_16_code (2 : Nat) (Option.some Jvm.ClassFile.FieldType.float)) ∈ TB := TB_in 615 (by decide +kernel) (by decide +kernel)
theorem q_616 : (Jvm.Cond.methodLink "RelayTransferLaw" (78 : Nat) ({ cls := "RelayTransfer", name := "forecast", desc := "(I)I" } : Jvm.MethodName)) ∈ TB := TB_in 616 (by decide +kernel) (by decide +kernel)
theorem q_617 : (Jvm.Cond.instanceMethod ({ cls := "RelayTransfer", name := "forecast", desc := "(I)I" } : Jvm.MethodName)) ∈ TB := TB_in 617 (by decide +kernel) (by decide +kernel)
theorem q_618 : (Jvm.Cond.selects "RelayTransfer" ({ cls := "RelayTransfer", name := "forecast", desc := "(I)I" } : Jvm.MethodName) ({ cls := "RelayTransfer", name := "forecast", desc := "(I)I" } : Jvm.MethodName)) ∈ TB := TB_in 618 (by decide +kernel) (by decide +kernel)
theorem q_619 : (Jvm.Cond.code ({ cls := "RelayTransfer", name := "forecast", desc := "(I)I" } : Jvm.MethodName) prog_1_method_17_code (2 : Nat) (Option.some Jvm.ClassFile.FieldType.int)) ∈ TB := TB_in 619 (by decide +kernel) (by decide +kernel)
theorem q_620 : (Jvm.Cond.methodLink "RelayTransfer" (193 : Nat) ({ cls := "RelayTransfer", name := "ticksOfTrial", desc := "(II)I" } : Jvm.MethodName)) ∈ TB := TB_in 620 (by decide +kernel) (by decide +kernel)
theorem q_622 : (Jvm.Cond.instanceMethod ({ cls := "RelayTransfer", name := "ticksOfTrial", desc := "(II)I" } : Jvm.MethodName)) ∈ TB := TB_in 622 (by decide +kernel) (by decide +kernel)
theorem q_623 : (Jvm.Cond.code ({ cls := "RelayTransfer", name := "ticksOfTrial", desc := "(II)I" } : Jvm.MethodName) prog_1_method_24_code (4 : Nat) (Option.some Jvm.ClassFile.FieldType.int)) ∈ TB := TB_in 623 (by decide +kernel) (by decide +kernel)
theorem q_624 : (Jvm.Cond.methodLink "RelayTransfer" (200 : Nat) ({ cls := "RelayTransfer$Transfer", name := "isComplete", desc := "(I)Z" } : Jvm.MethodName)) ∈ TB := TB_in 624 (by decide +kernel) (by decide +kernel)
theorem q_625 : (Jvm.Cond.instanceMethod ({ cls := "RelayTransfer$Transfer", name := "isComplete", desc := "(I)Z" } : Jvm.MethodName)) ∈ TB := TB_in 625 (by decide +kernel) (by decide +kernel)
theorem q_626 : (Jvm.Cond.selects "RelayTransfer$Transfer" ({ cls := "RelayTransfer$Transfer", name := "isComplete", desc := "(I)Z" } : Jvm.MethodName) ({ cls := "RelayTransfer$Transfer", name := "isComplete", desc := "(I)Z" } : Jvm.MethodName)) ∈ TB := TB_in 626 (by decide +kernel) (by decide +kernel)
theorem q_627 : (Jvm.Cond.code ({ cls := "RelayTransfer$Transfer", name := "isComplete", desc := "(I)Z" } : Jvm.MethodName) prog_7_method_4_code (3 : Nat) (Option.some Jvm.ClassFile.FieldType.boolean)) ∈ TB := TB_in 627 (by decide +kernel) (by decide +kernel)
theorem q_628 : (Jvm.Cond.methodLink "RelayTransferLaw" (82 : Nat) ({ cls := "RelayTransfer", name := "bestPolicy", desc := "()I" } : Jvm.MethodName)) ∈ TB := TB_in 628 (by decide +kernel) (by decide +kernel)
theorem q_629 : (Jvm.Cond.instanceMethod ({ cls := "RelayTransfer", name := "bestPolicy", desc := "()I" } : Jvm.MethodName)) ∈ TB := TB_in 629 (by decide +kernel) (by decide +kernel)
theorem q_630 : (Jvm.Cond.selects "RelayTransfer" ({ cls := "RelayTransfer", name := "bestPolicy", desc := "()I" } : Jvm.MethodName) ({ cls := "RelayTransfer", name := "bestPolicy", desc := "()I" } : Jvm.MethodName)) ∈ TB := TB_in 630 (by decide +kernel) (by decide +kernel)
theorem q_631 : (Jvm.Cond.code ({ cls := "RelayTransfer", name := "bestPolicy", desc := "()I" } : Jvm.MethodName) prog_1_method_18_code (5 : Nat) (Option.some Jvm.ClassFile.FieldType.int)) ∈ TB := TB_in 631 (by decide +kernel) (by decide +kernel)
theorem q_632 : (Jvm.Cond.methodLink "RelayTransferLaw" (86 : Nat) ({ cls := "RelayTransfer", name := "bearable", desc := "(II)I" } : Jvm.MethodName)) ∈ TB := TB_in 632 (by decide +kernel) (by decide +kernel)
theorem q_633 : (Jvm.Cond.instanceMethod ({ cls := "RelayTransfer", name := "bearable", desc := "(II)I" } : Jvm.MethodName)) ∈ TB := TB_in 633 (by decide +kernel) (by decide +kernel)
theorem q_634 : (Jvm.Cond.selects "RelayTransfer" ({ cls := "RelayTransfer", name := "bearable", desc := "(II)I" } : Jvm.MethodName) ({ cls := "RelayTransfer", name := "bearable", desc := "(II)I" } : Jvm.MethodName)) ∈ TB := TB_in 634 (by decide +kernel) (by decide +kernel)
theorem q_635 : (Jvm.Cond.code ({ cls := "RelayTransfer", name := "bearable", desc := "(II)I" } : Jvm.MethodName) prog_1_method_19_code (4 : Nat) (Option.some Jvm.ClassFile.FieldType.int)) ∈ TB := TB_in 635 (by decide +kernel) (by decide +kernel)
theorem q_636 : (Jvm.Cond.methodLink "RelayTransferLaw" (90 : Nat) ({ cls := "RelayTransfer", name := "keep", desc := "(I)I" } : Jvm.MethodName)) ∈ TB := TB_in 636 (by decide +kernel) (by decide +kernel)
theorem q_637 : (Jvm.Cond.instanceMethod ({ cls := "RelayTransfer", name := "keep", desc := "(I)I" } : Jvm.MethodName)) ∈ TB := TB_in 637 (by decide +kernel) (by decide +kernel)
theorem q_638 : (Jvm.Cond.selects "RelayTransfer" ({ cls := "RelayTransfer", name := "keep", desc := "(I)I" } : Jvm.MethodName) ({ cls := "RelayTransfer", name := "keep", desc := "(I)I" } : Jvm.MethodName)) ∈ TB := TB_in 638 (by decide +kernel) (by decide +kernel)
theorem q_639 : (Jvm.Cond.code ({ cls := "RelayTransfer", name := "keep", desc := "(I)I" } : Jvm.MethodName) prog_1_method_20_code (2 : Nat) (Option.some Jvm.ClassFile.FieldType.int)) ∈ TB := TB_in 639 (by decide +kernel) (by decide +kernel)
theorem q_640 : (Jvm.Cond.methodLink "RelayTransferLaw" (94 : Nat) ({ cls := "RelayTransfer", name := "back", desc := "(I)I" } : Jvm.MethodName)) ∈ TB := TB_in 640 (by decide +kernel) (by decide +kernel)
theorem q_641 : (Jvm.Cond.instanceMethod ({ cls := "RelayTransfer", name := "back", desc := "(I)I" } : Jvm.MethodName)) ∈ TB := TB_in 641 (by decide +kernel) (by decide +kernel)
theorem q_642 : (Jvm.Cond.selects "RelayTransfer" ({ cls := "RelayTransfer", name := "back", desc := "(I)I" } : Jvm.MethodName) ({ cls := "RelayTransfer", name := "back", desc := "(I)I" } : Jvm.MethodName)) ∈ TB := TB_in 642 (by decide +kernel) (by decide +kernel)
theorem q_643 : (Jvm.Cond.code ({ cls := "RelayTransfer", name := "back", desc := "(I)I" } : Jvm.MethodName) prog_1_method_21_code (2 : Nat) (Option.some Jvm.ClassFile.FieldType.int)) ∈ TB := TB_in 643 (by decide +kernel) (by decide +kernel)
theorem q_644 : (Jvm.Cond.classLink "RelayTransferLaw" (10 : Nat) "RelayTransferModel") ∈ TB := TB_in 644 (by decide +kernel) (by decide +kernel)
theorem q_645 : (Jvm.Cond.instantiable "RelayTransferModel" (14 : Nat)) ∈ TB := TB_in 645 (by decide +kernel) (by decide +kernel)
theorem q_646 : (Jvm.Cond.methodLink "RelayTransferLaw" (12 : Nat) ({ cls := "RelayTransferModel", name := "<init>", desc := "()V" } : Jvm.MethodName)) ∈ TB := TB_in 646 (by decide +kernel) (by decide +kernel)
theorem q_647 : (Jvm.Cond.instanceMethod ({ cls := "RelayTransferModel", name := "<init>", desc := "()V" } : Jvm.MethodName)) ∈ TB := TB_in 647 (by decide +kernel) (by decide +kernel)
theorem q_648 : (Jvm.Cond.code ({ cls := "RelayTransferModel", name := "<init>", desc := "()V" } : Jvm.MethodName) prog_9_method_1_code (1 : Nat) (Option.none : Option Jvm.ClassFile.FieldType)) ∈ TB := TB_in 648 (by decide +kernel) (by decide +kernel)
theorem q_649 : (Jvm.Cond.methodLink "RelayTransferModel" (1 : Nat) ({ cls := "java/lang/Object", name := "<init>", desc := "()V" } : Jvm.MethodName)) ∈ TB := TB_in 649 (by decide +kernel) (by decide +kernel)
theorem q_650 : (Jvm.Cond.methodLink "RelayTransferModel" (34 : Nat) ({ cls := "RelayTransferModel", name := "lay", desc := "(II)V" } : Jvm.MethodName)) ∈ TB := TB_in 650 (by decide +kernel) (by decide +kernel)
theorem q_652 : (Jvm.Cond.instanceMethod ({ cls := "RelayTransferModel", name := "lay", desc := "(II)V" } : Jvm.MethodName)) ∈ TB := TB_in 652 (by decide +kernel) (by decide +kernel)
theorem q_653 : (Jvm.Cond.code ({ cls := "RelayTransferModel", name := "lay", desc := "(II)V" } : Jvm.MethodName) prog_9_method_4_code (4 : Nat) (Option.none : Option Jvm.ClassFile.FieldType)) ∈ TB := TB_in 653 (by decide +kernel) (by decide +kernel)
theorem q_654 : (Jvm.Cond.fieldLink "RelayTransferModel" (7 : Nat) "RelayTransferModel" "w" "[I") ∈ TB := TB_in 654 (by decide +kernel) (by decide +kernel)
theorem q_655 : (Jvm.Cond.fieldLink "RelayTransferModel" (13 : Nat) "RelayTransferModel" "past" "[I") ∈ TB := TB_in 655 (by decide +kernel) (by decide +kernel)
theorem q_656 : (Jvm.Cond.fieldLink "RelayTransferModel" (38 : Nat) "RelayTransferModel" "pastMany" "I") ∈ TB := TB_in 656 (by decide +kernel) (by decide +kernel)
theorem q_657 : (Jvm.Cond.fieldLink "RelayTransferModel" (16 : Nat) "RelayTransferModel" "images" "[I") ∈ TB := TB_in 657 (by decide +kernel) (by decide +kernel)
theorem q_658 : (Jvm.Cond.fieldLink "RelayTransferModel" (187 : Nat) "RelayTransferModel" "filled" "I") ∈ TB := TB_in 658 (by decide +kernel) (by decide +kernel)
theorem q_659 : (Jvm.Cond.fieldLink "RelayTransferModel" (19 : Nat) "RelayTransferModel" "base" "[I") ∈ TB := TB_in 659 (by decide +kernel) (by decide +kernel)
theorem q_660 : (Jvm.Cond.fieldLink "RelayTransferModel" (22 : Nat) "RelayTransferModel" "baseValue" "[I") ∈ TB := TB_in 660 (by decide +kernel) (by decide +kernel)
theorem q_661 : (Jvm.Cond.fieldLink "RelayTransferModel" (46 : Nat) "RelayTransferModel" "rest" "I") ∈ TB := TB_in 661 (by decide +kernel) (by decide +kernel)
theorem q_662 : (Jvm.Cond.fieldLink "RelayTransferModel" (49 : Nat) "RelayTransferModel" "restValue" "I") ∈ TB := TB_in 662 (by decide +kernel) (by decide +kernel)
theorem q_663 : (Jvm.Cond.fieldLink "RelayTransferModel" (76 : Nat) "RelayTransferModel" "madeSet" "I") ∈ TB := TB_in 663 (by decide +kernel) (by decide +kernel)
theorem q_664 : (Jvm.Cond.fieldLink "RelayTransferModel" (82 : Nat) "RelayTransferModel" "madeValue" "I") ∈ TB := TB_in 664 (by decide +kernel) (by decide +kernel)
theorem q_665 : (Jvm.Cond.fieldLink "RelayTransferModel" (25 : Nat) "RelayTransferModel" "sets" "[I") ∈ TB := TB_in 665 (by decide +kernel) (by decide +kernel)
theorem q_666 : (Jvm.Cond.fieldLink "RelayTransferModel" (28 : Nat) "RelayTransferModel" "values" "[I") ∈ TB := TB_in 666 (by decide +kernel) (by decide +kernel)
theorem q_667 : (Jvm.Cond.fieldLink "RelayTransferModel" (31 : Nat) "RelayTransferModel" "held" "[I") ∈ TB := TB_in 667 (by decide +kernel) (by decide +kernel)
theorem q_668 : (Jvm.Cond.laysFinal "RelayTransferModel" "RelayTransferModel" "w" "[I") ∈ TB := TB_in 668 (by decide +kernel) (by decide +kernel)
theorem q_670 : (Jvm.Cond.laysFinal "RelayTransferModel" "RelayTransferModel" "past" "[I") ∈ TB := TB_in 670 (by decide +kernel) (by decide +kernel)
theorem q_672 : (Jvm.Cond.lays "RelayTransferModel" "RelayTransferModel" "pastMany" "I") ∈ TB := TB_in 672 (by decide +kernel) (by decide +kernel)
theorem q_674 : (Jvm.Cond.laysFinal "RelayTransferModel" "RelayTransferModel" "images" "[I") ∈ TB := TB_in 674 (by decide +kernel) (by decide +kernel)
theorem q_676 : (Jvm.Cond.lays "RelayTransferModel" "RelayTransferModel" "filled" "I") ∈ TB := TB_in 676 (by decide +kernel) (by decide +kernel)
theorem q_678 : (Jvm.Cond.laysFinal "RelayTransferModel" "RelayTransferModel" "base" "[I") ∈ TB := TB_in 678 (by decide +kernel) (by decide +kernel)
theorem q_680 : (Jvm.Cond.laysFinal "RelayTransferModel" "RelayTransferModel" "baseValue" "[I") ∈ TB := TB_in 680 (by decide +kernel) (by decide +kernel)
theorem q_682 : (Jvm.Cond.lays "RelayTransferModel" "RelayTransferModel" "rest" "I") ∈ TB := TB_in 682 (by decide +kernel) (by decide +kernel)
theorem q_684 : (Jvm.Cond.lays "RelayTransferModel" "RelayTransferModel" "restValue" "I") ∈ TB := TB_in 684 (by decide +kernel) (by decide +kernel)
theorem q_686 : (Jvm.Cond.lays "RelayTransferModel" "RelayTransferModel" "madeSet" "I") ∈ TB := TB_in 686 (by decide +kernel) (by decide +kernel)
theorem q_688 : (Jvm.Cond.lays "RelayTransferModel" "RelayTransferModel" "madeValue" "I") ∈ TB := TB_in 688 (by decide +kernel) (by decide +kernel)
theorem q_690 : (Jvm.Cond.laysFinal "RelayTransferModel" "RelayTransferModel" "sets" "[I") ∈ TB := TB_in 690 (by decide +kernel) (by decide +kernel)
theorem q_692 : (Jvm.Cond.laysFinal "RelayTransferModel" "RelayTransferModel" "values" "[I") ∈ TB := TB_in 692 (by decide +kernel) (by decide +kernel)
theorem q_694 : (Jvm.Cond.laysFinal "RelayTransferModel" "RelayTransferModel" "held" "[I") ∈ TB := TB_in 694 (by decide +kernel) (by decide +kernel)
theorem q_697 : (Jvm.Cond.methodLink "RelayTransferLaw" (17 : Nat) ({ cls := "RelayTransferModel", name := "begin", desc := "(II)I" } : Jvm.MethodName)) ∈ TB := TB_in 697 (by decide +kernel) (by decide +kernel)
theorem q_698 : (Jvm.Cond.instanceMethod ({ cls := "RelayTransferModel", name := "begin", desc := "(II)I" } : Jvm.MethodName)) ∈ TB := TB_in 698 (by decide +kernel) (by decide +kernel)
theorem q_699 : (Jvm.Cond.selects "RelayTransferModel" ({ cls := "RelayTransferModel", name := "begin", desc := "(II)I" } : Jvm.MethodName) ({ cls := "RelayTransferModel", name := "begin", desc := "(II)I" } : Jvm.MethodName)) ∈ TB := TB_in 699 (by decide +kernel) (by decide +kernel)
theorem q_700 : (Jvm.Cond.code ({ cls := "RelayTransferModel", name := "begin", desc := "(II)I" } : Jvm.MethodName) prog_9_method_30_code (4 : Nat) (Option.some Jvm.ClassFile.FieldType.int)) ∈ TB := TB_in 700 (by decide +kernel) (by decide +kernel)
theorem q_701 : (Jvm.Cond.methodLink "RelayTransferModel" (136 : Nat) ({ cls := "RelayTransferModel", name := "isIn", desc := "(III)Z" } : Jvm.MethodName)) ∈ TB := TB_in 701 (by decide +kernel) (by decide +kernel)
theorem q_702 : (Jvm.Cond.static ({ cls := "RelayTransferModel", name := "isIn", desc := "(III)Z" } : Jvm.MethodName)) ∈ TB := TB_in 702 (by decide +kernel) (by decide +kernel)
theorem q_703 : (Jvm.Cond.code ({ cls := "RelayTransferModel", name := "isIn", desc := "(III)Z" } : Jvm.MethodName) prog_9_method_3_code (3 : Nat) (Option.some Jvm.ClassFile.FieldType.boolean)) ∈ TB := TB_in 703 (by decide +kernel) (by decide +kernel)
theorem q_704 : (Jvm.Cond.methodLink "RelayTransferModel" (140 : Nat) ({ cls := "RelayTransferModel", name := "remember", desc := "()V" } : Jvm.MethodName)) ∈ TB := TB_in 704 (by decide +kernel) (by decide +kernel)
theorem q_706 : (Jvm.Cond.instanceMethod ({ cls := "RelayTransferModel", name := "remember", desc := "()V" } : Jvm.MethodName)) ∈ TB := TB_in 706 (by decide +kernel) (by decide +kernel)
theorem q_707 : (Jvm.Cond.code ({ cls := "RelayTransferModel", name := "remember", desc := "()V" } : Jvm.MethodName) prog_9_method_5_code (2 : Nat) (Option.none : Option Jvm.ClassFile.FieldType)) ∈ TB := TB_in 707 (by decide +kernel) (by decide +kernel)
theorem q_708 : (Jvm.Cond.methodLink "RelayTransferLaw" (21 : Nat) ({ cls := "RelayTransferModel", name := "setBlock", desc := "(II)I" } : Jvm.MethodName)) ∈ TB := TB_in 708 (by decide +kernel) (by decide +kernel)
theorem q_709 : (Jvm.Cond.instanceMethod ({ cls := "RelayTransferModel", name := "setBlock", desc := "(II)I" } : Jvm.MethodName)) ∈ TB := TB_in 709 (by decide +kernel) (by decide +kernel)
theorem q_710 : (Jvm.Cond.selects "RelayTransferModel" ({ cls := "RelayTransferModel", name := "setBlock", desc := "(II)I" } : Jvm.MethodName) ({ cls := "RelayTransferModel", name := "setBlock", desc := "(II)I" } : Jvm.MethodName)) ∈ TB := TB_in 710 (by decide +kernel) (by decide +kernel)
theorem q_711 : (Jvm.Cond.code ({ cls := "RelayTransferModel", name := "setBlock", desc := "(II)I" } : Jvm.MethodName) prog_9_method_33_code (3 : Nat) (Option.some Jvm.ClassFile.FieldType.int)) ∈ TB := TB_in 711 (by decide +kernel) (by decide +kernel)
theorem q_712 : (Jvm.Cond.methodLink "RelayTransferModel" (143 : Nat) ({ cls := "RelayTransferModel", name := "isBlock", desc := "(I)Z" } : Jvm.MethodName)) ∈ TB := TB_in 712 (by decide +kernel) (by decide +kernel)
theorem q_714 : (Jvm.Cond.instanceMethod ({ cls := "RelayTransferModel", name := "isBlock", desc := "(I)Z" } : Jvm.MethodName)) ∈ TB := TB_in 714 (by decide +kernel) (by decide +kernel)
theorem q_715 : (Jvm.Cond.code ({ cls := "RelayTransferModel", name := "isBlock", desc := "(I)Z" } : Jvm.MethodName) prog_9_method_31_code (2 : Nat) (Option.some Jvm.ClassFile.FieldType.boolean)) ∈ TB := TB_in 715 (by decide +kernel) (by decide +kernel)
theorem q_716 : (Jvm.Cond.methodLink "RelayTransferModel" (147 : Nat) ({ cls := "RelayTransferModel", name := "put", desc := "(II)I" } : Jvm.MethodName)) ∈ TB := TB_in 716 (by decide +kernel) (by decide +kernel)
theorem q_718 : (Jvm.Cond.instanceMethod ({ cls := "RelayTransferModel", name := "put", desc := "(II)I" } : Jvm.MethodName)) ∈ TB := TB_in 718 (by decide +kernel) (by decide +kernel)
theorem q_719 : (Jvm.Cond.code ({ cls := "RelayTransferModel", name := "put", desc := "(II)I" } : Jvm.MethodName) prog_9_method_32_code (4 : Nat) (Option.some Jvm.ClassFile.FieldType.int)) ∈ TB := TB_in 719 (by decide +kernel) (by decide +kernel)
theorem q_720 : (Jvm.Cond.methodLink "RelayTransferLaw" (25 : Nat) ({ cls := "RelayTransferModel", name := "setLoss", desc := "(II)I" } : Jvm.MethodName)) ∈ TB := TB_in 720 (by decide +kernel) (by decide +kernel)
theorem q_721 : (Jvm.Cond.instanceMethod ({ cls := "RelayTransferModel", name := "setLoss", desc := "(II)I" } : Jvm.MethodName)) ∈ TB := TB_in 721 (by decide +kernel) (by decide +kernel)
theorem q_722 : (Jvm.Cond.selects "RelayTransferModel" ({ cls := "RelayTransferModel", name := "setLoss", desc := "(II)I" } : Jvm.MethodName) ({ cls := "RelayTransferModel", name := "setLoss", desc := "(II)I" } : Jvm.MethodName)) ∈ TB := TB_in 722 (by decide +kernel) (by decide +kernel)
theorem q_723 : (Jvm.Cond.code ({ cls := "RelayTransferModel", name := "setLoss", desc := "(II)I" } : Jvm.MethodName) prog_9_method_34_code (3 : Nat) (Option.some Jvm.ClassFile.FieldType.int)) ∈ TB := TB_in 723 (by decide +kernel) (by decide +kernel)
theorem q_724 : (Jvm.Cond.methodLink "RelayTransferLaw" (29 : Nat) ({ cls := "RelayTransferModel", name := "setWeight", desc := "(II)I" } : Jvm.MethodName)) ∈ TB := TB_in 724 (by decide +kernel) (by decide +kernel)
theorem q_725 : (Jvm.Cond.instanceMethod ({ cls := "RelayTransferModel", name := "setWeight", desc := "(II)I" } : Jvm.MethodName)) ∈ TB := TB_in 725 (by decide +kernel) (by decide +kernel)
theorem q_726 : (Jvm.Cond.selects "RelayTransferModel" ({ cls := "RelayTransferModel", name := "setWeight", desc := "(II)I" } : Jvm.MethodName) ({ cls := "RelayTransferModel", name := "setWeight", desc := "(II)I" } : Jvm.MethodName)) ∈ TB := TB_in 726 (by decide +kernel) (by decide +kernel)
theorem q_727 : (Jvm.Cond.code ({ cls := "RelayTransferModel", name := "setWeight", desc := "(II)I" } : Jvm.MethodName) prog_9_method_35_code (4 : Nat) (Option.some Jvm.ClassFile.FieldType.int)) ∈ TB := TB_in 727 (by decide +kernel) (by decide +kernel)
theorem q_728 : (Jvm.Cond.methodLink "RelayTransferModel" (69 : Nat) ({ cls := "RelayTransferModel", name := "weights", desc := "()I" } : Jvm.MethodName)) ∈ TB := TB_in 728 (by decide +kernel) (by decide +kernel)
theorem q_730 : (Jvm.Cond.instanceMethod ({ cls := "RelayTransferModel", name := "weights", desc := "()I" } : Jvm.MethodName)) ∈ TB := TB_in 730 (by decide +kernel) (by decide +kernel)
theorem q_731 : (Jvm.Cond.code ({ cls := "RelayTransferModel", name := "weights", desc := "()I" } : Jvm.MethodName) prog_9_method_17_code (3 : Nat) (Option.some Jvm.ClassFile.FieldType.int)) ∈ TB := TB_in 731 (by decide +kernel) (by decide +kernel)
theorem q_732 : (Jvm.Cond.methodLink "RelayTransferLaw" (33 : Nat) ({ cls := "RelayTransferModel", name := "set", desc := "(II)I" } : Jvm.MethodName)) ∈ TB := TB_in 732 (by decide +kernel) (by decide +kernel)
theorem q_733 : (Jvm.Cond.instanceMethod ({ cls := "RelayTransferModel", name := "set", desc := "(II)I" } : Jvm.MethodName)) ∈ TB := TB_in 733 (by decide +kernel) (by decide +kernel)
theorem q_734 : (Jvm.Cond.selects "RelayTransferModel" ({ cls := "RelayTransferModel", name := "set", desc := "(II)I" } : Jvm.MethodName) ({ cls := "RelayTransferModel", name := "set", desc := "(II)I" } : Jvm.MethodName)) ∈ TB := TB_in 734 (by decide +kernel) (by decide +kernel)
theorem q_735 : (Jvm.Cond.code ({ cls := "RelayTransferModel", name := "set", desc := "(II)I" } : Jvm.MethodName) prog_9_method_36_code (6 : Nat) (Option.some Jvm.ClassFile.FieldType.int)) ∈ TB := TB_in 735 (by decide +kernel) (by decide +kernel)
theorem q_736 : (Jvm.Cond.methodLink "RelayTransferModel" (120 : Nat) ({ cls := "RelayTransferModel", name := "storeOf", desc := "(I)I" } : Jvm.MethodName)) ∈ TB := TB_in 736 (by decide +kernel) (by decide +kernel)
theorem q_737 : (Jvm.Cond.static ({ cls := "RelayTransferModel", name := "storeOf", desc := "(I)I" } : Jvm.MethodName)) ∈ TB := TB_in 737 (by decide +kernel) (by decide +kernel)
theorem q_738 : (Jvm.Cond.code ({ cls := "RelayTransferModel", name := "storeOf", desc := "(I)I" } : Jvm.MethodName) prog_9_method_20_code (1 : Nat) (Option.some Jvm.ClassFile.FieldType.int)) ∈ TB := TB_in 738 (by decide +kernel) (by decide +kernel)
theorem q_739 : (Jvm.Cond.methodLink "RelayTransferModel" (85 : Nat) ({ cls := "RelayTransferModel", name := "drop", desc := "(II)V" } : Jvm.MethodName)) ∈ TB := TB_in 739 (by decide +kernel) (by decide +kernel)
theorem q_741 : (Jvm.Cond.instanceMethod ({ cls := "RelayTransferModel", name := "drop", desc := "(II)V" } : Jvm.MethodName)) ∈ TB := TB_in 741 (by decide +kernel) (by decide +kernel)
theorem q_742 : (Jvm.Cond.code ({ cls := "RelayTransferModel", name := "drop", desc := "(II)V" } : Jvm.MethodName) prog_9_method_8_code (4 : Nat) (Option.none : Option Jvm.ClassFile.FieldType)) ∈ TB := TB_in 742 (by decide +kernel) (by decide +kernel)
theorem q_743 : (Jvm.Cond.methodLink "RelayTransferModel" (42 : Nat) ({ cls := "RelayTransferModel", name := "setAt", desc := "(II)I" } : Jvm.MethodName)) ∈ TB := TB_in 743 (by decide +kernel) (by decide +kernel)
theorem q_744 : (Jvm.Cond.static ({ cls := "RelayTransferModel", name := "setAt", desc := "(II)I" } : Jvm.MethodName)) ∈ TB := TB_in 744 (by decide +kernel) (by decide +kernel)
theorem q_745 : (Jvm.Cond.code ({ cls := "RelayTransferModel", name := "setAt", desc := "(II)I" } : Jvm.MethodName) prog_9_method_6_code (2 : Nat) (Option.some Jvm.ClassFile.FieldType.int)) ∈ TB := TB_in 745 (by decide +kernel) (by decide +kernel)
theorem q_746 : (Jvm.Cond.methodLink "RelayTransferLaw" (38 : Nat) ({ cls := "RelayTransferModel", name := "run", desc := "(I)I" } : Jvm.MethodName)) ∈ TB := TB_in 746 (by decide +kernel) (by decide +kernel)
theorem q_747 : (Jvm.Cond.instanceMethod ({ cls := "RelayTransferModel", name := "run", desc := "(I)I" } : Jvm.MethodName)) ∈ TB := TB_in 747 (by decide +kernel) (by decide +kernel)
theorem q_748 : (Jvm.Cond.selects "RelayTransferModel" ({ cls := "RelayTransferModel", name := "run", desc := "(I)I" } : Jvm.MethodName) ({ cls := "RelayTransferModel", name := "run", desc := "(I)I" } : Jvm.MethodName)) ∈ TB := TB_in 748 (by decide +kernel) (by decide +kernel)
theorem q_749 : (Jvm.Cond.code ({ cls := "RelayTransferModel", name := "run", desc := "(I)I" } : Jvm.MethodName) prog_9_method_37_code (3 : Nat) (Option.some Jvm.ClassFile.FieldType.int)) ∈ TB := TB_in 749 (by decide +kernel) (by decide +kernel)
theorem q_750 : (Jvm.Cond.methodLink "RelayTransferModel" (150 : Nat) ({ cls := "RelayTransferModel", name := "tick", desc := "()V" } : Jvm.MethodName)) ∈ TB := TB_in 750 (by decide +kernel) (by decide +kernel)
theorem q_752 : (Jvm.Cond.instanceMethod ({ cls := "RelayTransferModel", name := "tick", desc := "()V" } : Jvm.MethodName)) ∈ TB := TB_in 752 (by decide +kernel) (by decide +kernel)
theorem q_753 : (Jvm.Cond.code ({ cls := "RelayTransferModel", name := "tick", desc := "()V" } : Jvm.MethodName) prog_9_method_29_code (3 : Nat) (Option.none : Option Jvm.ClassFile.FieldType)) ∈ TB := TB_in 753 (by decide +kernel) (by decide +kernel)
theorem q_754 : (Jvm.Cond.methodLink "RelayTransferModel" (117 : Nat) ({ cls := "RelayTransferModel", name := "makeAtSource", desc := "()V" } : Jvm.MethodName)) ∈ TB := TB_in 754 (by decide +kernel) (by decide +kernel)
theorem q_756 : (Jvm.Cond.instanceMethod ({ cls := "RelayTransferModel", name := "makeAtSource", desc := "()V" } : Jvm.MethodName)) ∈ TB := TB_in 756 (by decide +kernel) (by decide +kernel)
theorem q_757 : (Jvm.Cond.code ({ cls := "RelayTransferModel", name := "makeAtSource", desc := "()V" } : Jvm.MethodName) prog_9_method_18_code (4 : Nat) (Option.none : Option Jvm.ClassFile.FieldType)) ∈ TB := TB_in 757 (by decide +kernel) (by decide +kernel)
theorem q_758 : (Jvm.Cond.methodLink "RelayTransferModel" (73 : Nat) ({ cls := "RelayTransferModel", name := "draw", desc := "(I)I" } : Jvm.MethodName)) ∈ TB := TB_in 758 (by decide +kernel) (by decide +kernel)
theorem q_760 : (Jvm.Cond.instanceMethod ({ cls := "RelayTransferModel", name := "draw", desc := "(I)I" } : Jvm.MethodName)) ∈ TB := TB_in 760 (by decide +kernel) (by decide +kernel)
theorem q_761 : (Jvm.Cond.code ({ cls := "RelayTransferModel", name := "draw", desc := "(I)I" } : Jvm.MethodName) prog_9_method_16_code (4 : Nat) (Option.some Jvm.ClassFile.FieldType.int)) ∈ TB := TB_in 761 (by decide +kernel) (by decide +kernel)
theorem q_762 : (Jvm.Cond.constantLong "RelayTransferModel" (62 : Nat) (1103515245 : Int64)) ∈ TB := TB_in 762 (by decide +kernel) (by decide +kernel)
theorem q_763 : (Jvm.Cond.constantLong "RelayTransferModel" (64 : Nat) (12345 : Int64)) ∈ TB := TB_in 763 (by decide +kernel) (by decide +kernel)
theorem q_764 : (Jvm.Cond.constantLong "RelayTransferModel" (66 : Nat) (2147483648 : Int64)) ∈ TB := TB_in 764 (by decide +kernel) (by decide +kernel)
theorem q_765 : (Jvm.Cond.constant "RelayTransferModel" (68 : Nat) (65536 : Int32)) ∈ TB := TB_in 765 (by decide +kernel) (by decide +kernel)
theorem q_766 : (Jvm.Cond.methodLink "RelayTransferModel" (79 : Nat) ({ cls := "RelayTransferModel", name := "valueOf", desc := "(I)I" } : Jvm.MethodName)) ∈ TB := TB_in 766 (by decide +kernel) (by decide +kernel)
theorem q_768 : (Jvm.Cond.instanceMethod ({ cls := "RelayTransferModel", name := "valueOf", desc := "(I)I" } : Jvm.MethodName)) ∈ TB := TB_in 768 (by decide +kernel) (by decide +kernel)
theorem q_769 : (Jvm.Cond.code ({ cls := "RelayTransferModel", name := "valueOf", desc := "(I)I" } : Jvm.MethodName) prog_9_method_11_code (4 : Nat) (Option.some Jvm.ClassFile.FieldType.int)) ∈ TB := TB_in 769 (by decide +kernel) (by decide +kernel)
theorem q_770 : (Jvm.Cond.methodLink "RelayTransferModel" (123 : Nat) ({ cls := "RelayTransferModel", name := "makeAtRelay", desc := "(I)V" } : Jvm.MethodName)) ∈ TB := TB_in 770 (by decide +kernel) (by decide +kernel)
theorem q_772 : (Jvm.Cond.instanceMethod ({ cls := "RelayTransferModel", name := "makeAtRelay", desc := "(I)V" } : Jvm.MethodName)) ∈ TB := TB_in 772 (by decide +kernel) (by decide +kernel)
theorem q_773 : (Jvm.Cond.code ({ cls := "RelayTransferModel", name := "makeAtRelay", desc := "(I)V" } : Jvm.MethodName) prog_9_method_19_code (6 : Nat) (Option.none : Option Jvm.ClassFile.FieldType)) ∈ TB := TB_in 773 (by decide +kernel) (by decide +kernel)
theorem q_774 : (Jvm.Cond.methodLink "RelayTransferModel" (88 : Nat) ({ cls := "RelayTransferModel", name := "append", desc := "(III)V" } : Jvm.MethodName)) ∈ TB := TB_in 774 (by decide +kernel) (by decide +kernel)
theorem q_776 : (Jvm.Cond.instanceMethod ({ cls := "RelayTransferModel", name := "append", desc := "(III)V" } : Jvm.MethodName)) ∈ TB := TB_in 776 (by decide +kernel) (by decide +kernel)
theorem q_777 : (Jvm.Cond.code ({ cls := "RelayTransferModel", name := "append", desc := "(III)V" } : Jvm.MethodName) prog_9_method_7_code (4 : Nat) (Option.none : Option Jvm.ClassFile.FieldType)) ∈ TB := TB_in 777 (by decide +kernel) (by decide +kernel)
theorem q_778 : (Jvm.Cond.methodLink "RelayTransferModel" (127 : Nat) ({ cls := "RelayTransferModel", name := "arriveAtRelay", desc := "(III)V" } : Jvm.MethodName)) ∈ TB := TB_in 778 (by decide +kernel) (by decide +kernel)
theorem q_780 : (Jvm.Cond.instanceMethod ({ cls := "RelayTransferModel", name := "arriveAtRelay", desc := "(III)V" } : Jvm.MethodName)) ∈ TB := TB_in 780 (by decide +kernel) (by decide +kernel)
theorem q_781 : (Jvm.Cond.code ({ cls := "RelayTransferModel", name := "arriveAtRelay", desc := "(III)V" } : Jvm.MethodName) prog_9_method_22_code (7 : Nat) (Option.none : Option Jvm.ClassFile.FieldType)) ∈ TB := TB_in 781 (by decide +kernel) (by decide +kernel)
theorem q_782 : (Jvm.Cond.methodLink "RelayTransferModel" (95 : Nat) ({ cls := "RelayTransferModel", name := "isNovel", desc := "(II)Z" } : Jvm.MethodName)) ∈ TB := TB_in 782 (by decide +kernel) (by decide +kernel)
theorem q_784 : (Jvm.Cond.instanceMethod ({ cls := "RelayTransferModel", name := "isNovel", desc := "(II)Z" } : Jvm.MethodName)) ∈ TB := TB_in 784 (by decide +kernel) (by decide +kernel)
theorem q_785 : (Jvm.Cond.code ({ cls := "RelayTransferModel", name := "isNovel", desc := "(II)Z" } : Jvm.MethodName) prog_9_method_15_code (4 : Nat) (Option.some Jvm.ClassFile.FieldType.boolean)) ∈ TB := TB_in 785 (by decide +kernel) (by decide +kernel)
theorem q_786 : (Jvm.Cond.methodLink "RelayTransferModel" (59 : Nat) ({ cls := "RelayTransferModel", name := "layBase", desc := "(I)I" } : Jvm.MethodName)) ∈ TB := TB_in 786 (by decide +kernel) (by decide +kernel)
theorem q_788 : (Jvm.Cond.instanceMethod ({ cls := "RelayTransferModel", name := "layBase", desc := "(I)I" } : Jvm.MethodName)) ∈ TB := TB_in 788 (by decide +kernel) (by decide +kernel)
theorem q_789 : (Jvm.Cond.code ({ cls := "RelayTransferModel", name := "layBase", desc := "(I)I" } : Jvm.MethodName) prog_9_method_14_code (4 : Nat) (Option.some Jvm.ClassFile.FieldType.int)) ∈ TB := TB_in 789 (by decide +kernel) (by decide +kernel)
theorem q_790 : (Jvm.Cond.methodLink "RelayTransferModel" (52 : Nat) ({ cls := "RelayTransferModel", name := "reduce", desc := "(II)V" } : Jvm.MethodName)) ∈ TB := TB_in 790 (by decide +kernel) (by decide +kernel)
theorem q_792 : (Jvm.Cond.instanceMethod ({ cls := "RelayTransferModel", name := "reduce", desc := "(II)V" } : Jvm.MethodName)) ∈ TB := TB_in 792 (by decide +kernel) (by decide +kernel)
theorem q_793 : (Jvm.Cond.code ({ cls := "RelayTransferModel", name := "reduce", desc := "(II)V" } : Jvm.MethodName) prog_9_method_12_code (4 : Nat) (Option.none : Option Jvm.ClassFile.FieldType)) ∈ TB := TB_in 793 (by decide +kernel) (by decide +kernel)
theorem q_794 : (Jvm.Cond.methodLink "RelayTransferModel" (55 : Nat) ({ cls := "RelayTransferModel", name := "highest", desc := "(I)I" } : Jvm.MethodName)) ∈ TB := TB_in 794 (by decide +kernel) (by decide +kernel)
theorem q_796 : (Jvm.Cond.instanceMethod ({ cls := "RelayTransferModel", name := "highest", desc := "(I)I" } : Jvm.MethodName)) ∈ TB := TB_in 796 (by decide +kernel) (by decide +kernel)
theorem q_797 : (Jvm.Cond.code ({ cls := "RelayTransferModel", name := "highest", desc := "(I)I" } : Jvm.MethodName) prog_9_method_13_code (3 : Nat) (Option.some Jvm.ClassFile.FieldType.int)) ∈ TB := TB_in 797 (by decide +kernel) (by decide +kernel)
theorem q_798 : (Jvm.Cond.methodLink "RelayTransferModel" (99 : Nat) ({ cls := "RelayTransferModel", name := "mostAlike", desc := "(II)I" } : Jvm.MethodName)) ∈ TB := TB_in 798 (by decide +kernel) (by decide +kernel)
theorem q_800 : (Jvm.Cond.instanceMethod ({ cls := "RelayTransferModel", name := "mostAlike", desc := "(II)I" } : Jvm.MethodName)) ∈ TB := TB_in 800 (by decide +kernel) (by decide +kernel)
theorem q_801 : (Jvm.Cond.code ({ cls := "RelayTransferModel", name := "mostAlike", desc := "(II)I" } : Jvm.MethodName) prog_9_method_21_code (5 : Nat) (Option.some Jvm.ClassFile.FieldType.int)) ∈ TB := TB_in 801 (by decide +kernel) (by decide +kernel)
theorem q_802 : (Jvm.Cond.methodLink "RelayTransferModel" (92 : Nat) ({ cls := "RelayTransferModel", name := "size", desc := "(I)I" } : Jvm.MethodName)) ∈ TB := TB_in 802 (by decide +kernel) (by decide +kernel)
theorem q_803 : (Jvm.Cond.static ({ cls := "RelayTransferModel", name := "size", desc := "(I)I" } : Jvm.MethodName)) ∈ TB := TB_in 803 (by decide +kernel) (by decide +kernel)
theorem q_804 : (Jvm.Cond.code ({ cls := "RelayTransferModel", name := "size", desc := "(I)I" } : Jvm.MethodName) prog_9_method_9_code (3 : Nat) (Option.some Jvm.ClassFile.FieldType.int)) ∈ TB := TB_in 804 (by decide +kernel) (by decide +kernel)
theorem q_805 : (Jvm.Cond.methodLink "RelayTransferModel" (130 : Nat) ({ cls := "RelayTransferModel", name := "arriveAtReceiver", desc := "(II)I" } : Jvm.MethodName)) ∈ TB := TB_in 805 (by decide +kernel) (by decide +kernel)
theorem q_807 : (Jvm.Cond.instanceMethod ({ cls := "RelayTransferModel", name := "arriveAtReceiver", desc := "(II)I" } : Jvm.MethodName)) ∈ TB := TB_in 807 (by decide +kernel) (by decide +kernel)
theorem q_808 : (Jvm.Cond.code ({ cls := "RelayTransferModel", name := "arriveAtReceiver", desc := "(II)I" } : Jvm.MethodName) prog_9_method_27_code (5 : Nat) (Option.some Jvm.ClassFile.FieldType.int)) ∈ TB := TB_in 808 (by decide +kernel) (by decide +kernel)
theorem q_809 : (Jvm.Cond.methodLink "RelayTransferModel" (111 : Nat) ({ cls := "RelayTransferModel", name := "peel", desc := "(II)V" } : Jvm.MethodName)) ∈ TB := TB_in 809 (by decide +kernel) (by decide +kernel)
theorem q_811 : (Jvm.Cond.instanceMethod ({ cls := "RelayTransferModel", name := "peel", desc := "(II)V" } : Jvm.MethodName)) ∈ TB := TB_in 811 (by decide +kernel) (by decide +kernel)
theorem q_812 : (Jvm.Cond.code ({ cls := "RelayTransferModel", name := "peel", desc := "(II)V" } : Jvm.MethodName) prog_9_method_25_code (8 : Nat) (Option.none : Option Jvm.ClassFile.FieldType)) ∈ TB := TB_in 812 (by decide +kernel) (by decide +kernel)
theorem q_813 : (Jvm.Cond.methodLink "RelayTransferModel" (102 : Nat) ({ cls := "RelayTransferModel", name := "lowest", desc := "(I)I" } : Jvm.MethodName)) ∈ TB := TB_in 813 (by decide +kernel) (by decide +kernel)
theorem q_814 : (Jvm.Cond.static ({ cls := "RelayTransferModel", name := "lowest", desc := "(I)I" } : Jvm.MethodName)) ∈ TB := TB_in 814 (by decide +kernel) (by decide +kernel)
theorem q_815 : (Jvm.Cond.code ({ cls := "RelayTransferModel", name := "lowest", desc := "(I)I" } : Jvm.MethodName) prog_9_method_10_code (2 : Nat) (Option.some Jvm.ClassFile.FieldType.int)) ∈ TB := TB_in 815 (by decide +kernel) (by decide +kernel)
theorem q_816 : (Jvm.Cond.methodLink "RelayTransferModel" (105 : Nat) ({ cls := "RelayTransferModel", name := "learn", desc := "(II)V" } : Jvm.MethodName)) ∈ TB := TB_in 816 (by decide +kernel) (by decide +kernel)
theorem q_818 : (Jvm.Cond.instanceMethod ({ cls := "RelayTransferModel", name := "learn", desc := "(II)V" } : Jvm.MethodName)) ∈ TB := TB_in 818 (by decide +kernel) (by decide +kernel)
theorem q_819 : (Jvm.Cond.code ({ cls := "RelayTransferModel", name := "learn", desc := "(II)V" } : Jvm.MethodName) prog_9_method_23_code (5 : Nat) (Option.none : Option Jvm.ClassFile.FieldType)) ∈ TB := TB_in 819 (by decide +kernel) (by decide +kernel)
theorem q_820 : (Jvm.Cond.methodLink "RelayTransferModel" (108 : Nat) ({ cls := "RelayTransferModel", name := "firstAlone", desc := "()I" } : Jvm.MethodName)) ∈ TB := TB_in 820 (by decide +kernel) (by decide +kernel)
theorem q_822 : (Jvm.Cond.instanceMethod ({ cls := "RelayTransferModel", name := "firstAlone", desc := "()I" } : Jvm.MethodName)) ∈ TB := TB_in 822 (by decide +kernel) (by decide +kernel)
theorem q_823 : (Jvm.Cond.code ({ cls := "RelayTransferModel", name := "firstAlone", desc := "()I" } : Jvm.MethodName) prog_9_method_24_code (2 : Nat) (Option.some Jvm.ClassFile.FieldType.int)) ∈ TB := TB_in 823 (by decide +kernel) (by decide +kernel)
theorem q_824 : (Jvm.Cond.methodLink "RelayTransferModel" (114 : Nat) ({ cls := "RelayTransferModel", name := "solved", desc := "(I)I" } : Jvm.MethodName)) ∈ TB := TB_in 824 (by decide +kernel) (by decide +kernel)
theorem q_826 : (Jvm.Cond.instanceMethod ({ cls := "RelayTransferModel", name := "solved", desc := "(I)I" } : Jvm.MethodName)) ∈ TB := TB_in 826 (by decide +kernel) (by decide +kernel)
theorem q_827 : (Jvm.Cond.code ({ cls := "RelayTransferModel", name := "solved", desc := "(I)I" } : Jvm.MethodName) prog_9_method_26_code (2 : Nat) (Option.some Jvm.ClassFile.FieldType.int)) ∈ TB := TB_in 827 (by decide +kernel) (by decide +kernel)
theorem q_828 : (Jvm.Cond.methodLink "RelayTransferModel" (133 : Nat) ({ cls := "RelayTransferModel", name := "note", desc := "()V" } : Jvm.MethodName)) ∈ TB := TB_in 828 (by decide +kernel) (by decide +kernel)
theorem q_830 : (Jvm.Cond.instanceMethod ({ cls := "RelayTransferModel", name := "note", desc := "()V" } : Jvm.MethodName)) ∈ TB := TB_in 830 (by decide +kernel) (by decide +kernel)
theorem q_831 : (Jvm.Cond.code ({ cls := "RelayTransferModel", name := "note", desc := "()V" } : Jvm.MethodName) prog_9_method_28_code (1 : Nat) (Option.none : Option Jvm.ClassFile.FieldType)) ∈ TB := TB_in 831 (by decide +kernel) (by decide +kernel)
theorem q_832 : (Jvm.Cond.methodLink "RelayTransferLaw" (42 : Nat) ({ cls := "RelayTransferModel", name := "inject", desc := "(I)I" } : Jvm.MethodName)) ∈ TB := TB_in 832 (by decide +kernel) (by decide +kernel)
theorem q_833 : (Jvm.Cond.instanceMethod ({ cls := "RelayTransferModel", name := "inject", desc := "(I)I" } : Jvm.MethodName)) ∈ TB := TB_in 833 (by decide +kernel) (by decide +kernel)
theorem q_834 : (Jvm.Cond.selects "RelayTransferModel" ({ cls := "RelayTransferModel", name := "inject", desc := "(I)I" } : Jvm.MethodName) ({ cls := "RelayTransferModel", name := "inject", desc := "(I)I" } : Jvm.MethodName)) ∈ TB := TB_in 834 (by decide +kernel) (by decide +kernel)
theorem q_835 : (Jvm.Cond.code ({ cls := "RelayTransferModel", name := "inject", desc := "(I)I" } : Jvm.MethodName) prog_9_method_39_code (3 : Nat) (Option.some Jvm.ClassFile.FieldType.int)) ∈ TB := TB_in 835 (by decide +kernel) (by decide +kernel)
theorem q_836 : (Jvm.Cond.methodLink "RelayTransferModel" (153 : Nat) ({ cls := "RelayTransferModel", name := "isSet", desc := "(I)Z" } : Jvm.MethodName)) ∈ TB := TB_in 836 (by decide +kernel) (by decide +kernel)
theorem q_838 : (Jvm.Cond.instanceMethod ({ cls := "RelayTransferModel", name := "isSet", desc := "(I)Z" } : Jvm.MethodName)) ∈ TB := TB_in 838 (by decide +kernel) (by decide +kernel)
theorem q_839 : (Jvm.Cond.code ({ cls := "RelayTransferModel", name := "isSet", desc := "(I)Z" } : Jvm.MethodName) prog_9_method_38_code (2 : Nat) (Option.some Jvm.ClassFile.FieldType.boolean)) ∈ TB := TB_in 839 (by decide +kernel) (by decide +kernel)
theorem q_840 : (Jvm.Cond.methodLink "RelayTransferLaw" (47 : Nat) ({ cls := "RelayTransferModel", name := "undo", desc := "()I" } : Jvm.MethodName)) ∈ TB := TB_in 840 (by decide +kernel) (by decide +kernel)
theorem q_841 : (Jvm.Cond.instanceMethod ({ cls := "RelayTransferModel", name := "undo", desc := "()I" } : Jvm.MethodName)) ∈ TB := TB_in 841 (by decide +kernel) (by decide +kernel)
theorem q_842 : (Jvm.Cond.selects "RelayTransferModel" ({ cls := "RelayTransferModel", name := "undo", desc := "()I" } : Jvm.MethodName) ({ cls := "RelayTransferModel", name := "undo", desc := "()I" } : Jvm.MethodName)) ∈ TB := TB_in 842 (by decide +kernel) (by decide +kernel)
theorem q_843 : (Jvm.Cond.code ({ cls := "RelayTransferModel", name := "undo", desc := "()I" } : Jvm.MethodName) prog_9_method_40_code (2 : Nat) (Option.some Jvm.ClassFile.FieldType.int)) ∈ TB := TB_in 843 (by decide +kernel) (by decide +kernel)
theorem q_844 : (Jvm.Cond.methodLink "RelayTransferLaw" (51 : Nat) ({ cls := "RelayTransferModel", name := "told", desc := "(I)I" } : Jvm.MethodName)) ∈ TB := TB_in 844 (by decide +kernel) (by decide +kernel)
theorem q_845 : (Jvm.Cond.instanceMethod ({ cls := "RelayTransferModel", name := "told", desc := "(I)I" } : Jvm.MethodName)) ∈ TB := TB_in 845 (by decide +kernel) (by decide +kernel)
theorem q_846 : (Jvm.Cond.selects "RelayTransferModel" ({ cls := "RelayTransferModel", name := "told", desc := "(I)I" } : Jvm.MethodName) ({ cls := "RelayTransferModel", name := "told", desc := "(I)I" } : Jvm.MethodName)) ∈ TB := TB_in 846 (by decide +kernel) (by decide +kernel)
theorem q_847 : (Jvm.Cond.code ({ cls := "RelayTransferModel", name := "told", desc := "(I)I" } : Jvm.MethodName) prog_9_method_43_code (2 : Nat) (Option.some Jvm.ClassFile.FieldType.int)) ∈ TB := TB_in 847 (by decide +kernel) (by decide +kernel)
theorem q_848 : (Jvm.Cond.methodLink "RelayTransferModel" (156 : Nat) ({ cls := "RelayTransferModel", name := "known", desc := "()I" } : Jvm.MethodName)) ∈ TB := TB_in 848 (by decide +kernel) (by decide +kernel)
theorem q_850 : (Jvm.Cond.instanceMethod ({ cls := "RelayTransferModel", name := "known", desc := "()I" } : Jvm.MethodName)) ∈ TB := TB_in 850 (by decide +kernel) (by decide +kernel)
theorem q_851 : (Jvm.Cond.code ({ cls := "RelayTransferModel", name := "known", desc := "()I" } : Jvm.MethodName) prog_9_method_41_code (3 : Nat) (Option.some Jvm.ClassFile.FieldType.int)) ∈ TB := TB_in 851 (by decide +kernel) (by decide +kernel)
theorem q_852 : (Jvm.Cond.methodLink "RelayTransferModel" (159 : Nat) ({ cls := "RelayTransferModel", name := "solvedBlocks", desc := "()I" } : Jvm.MethodName)) ∈ TB := TB_in 852 (by decide +kernel) (by decide +kernel)
theorem q_854 : (Jvm.Cond.instanceMethod ({ cls := "RelayTransferModel", name := "solvedBlocks", desc := "()I" } : Jvm.MethodName)) ∈ TB := TB_in 854 (by decide +kernel) (by decide +kernel)
theorem q_855 : (Jvm.Cond.code ({ cls := "RelayTransferModel", name := "solvedBlocks", desc := "()I" } : Jvm.MethodName) prog_9_method_42_code (3 : Nat) (Option.some Jvm.ClassFile.FieldType.int)) ∈ TB := TB_in 855 (by decide +kernel) (by decide +kernel)
theorem q_856 : (Jvm.Cond.methodLink "RelayTransferLaw" (55 : Nat) ({ cls := "RelayTransferModel", name := "block", desc := "(II)I" } : Jvm.MethodName)) ∈ TB := TB_in 856 (by decide +kernel) (by decide +kernel)
theorem q_857 : (Jvm.Cond.instanceMethod ({ cls := "RelayTransferModel", name := "block", desc := "(II)I" } : Jvm.MethodName)) ∈ TB := TB_in 857 (by decide +kernel) (by decide +kernel)
theorem q_858 : (Jvm.Cond.selects "RelayTransferModel" ({ cls := "RelayTransferModel", name := "block", desc := "(II)I" } : Jvm.MethodName) ({ cls := "RelayTransferModel", name := "block", desc := "(II)I" } : Jvm.MethodName)) ∈ TB := TB_in 858 (by decide +kernel) (by decide +kernel)
theorem q_859 : (Jvm.Cond.code ({ cls := "RelayTransferModel", name := "block", desc := "(II)I" } : Jvm.MethodName) prog_9_method_44_code (4 : Nat) (Option.some Jvm.ClassFile.FieldType.int)) ∈ TB := TB_in 859 (by decide +kernel) (by decide +kernel)
theorem q_860 : (Jvm.Cond.methodLink "RelayTransferLaw" (60 : Nat) ({ cls := "RelayTransferModel", name := "packet", desc := "(III)I" } : Jvm.MethodName)) ∈ TB := TB_in 860 (by decide +kernel) (by decide +kernel)
theorem q_861 : (Jvm.Cond.instanceMethod ({ cls := "RelayTransferModel", name := "packet", desc := "(III)I" } : Jvm.MethodName)) ∈ TB := TB_in 861 (by decide +kernel) (by decide +kernel)
theorem q_862 : (Jvm.Cond.selects "RelayTransferModel" ({ cls := "RelayTransferModel", name := "packet", desc := "(III)I" } : Jvm.MethodName) ({ cls := "RelayTransferModel", name := "packet", desc := "(III)I" } : Jvm.MethodName)) ∈ TB := TB_in 862 (by decide +kernel) (by decide +kernel)
theorem q_863 : (Jvm.Cond.code ({ cls := "RelayTransferModel", name := "packet", desc := "(III)I" } : Jvm.MethodName) prog_9_method_48_code (4 : Nat) (Option.some Jvm.ClassFile.FieldType.int)) ∈ TB := TB_in 863 (by decide +kernel) (by decide +kernel)
theorem q_864 : (Jvm.Cond.methodLink "RelayTransferModel" (162 : Nat) ({ cls := "RelayTransferModel", name := "hasList", desc := "(I)Z" } : Jvm.MethodName)) ∈ TB := TB_in 864 (by decide +kernel) (by decide +kernel)
theorem q_866 : (Jvm.Cond.instanceMethod ({ cls := "RelayTransferModel", name := "hasList", desc := "(I)Z" } : Jvm.MethodName)) ∈ TB := TB_in 866 (by decide +kernel) (by decide +kernel)
theorem q_867 : (Jvm.Cond.code ({ cls := "RelayTransferModel", name := "hasList", desc := "(I)Z" } : Jvm.MethodName) prog_9_method_47_code (2 : Nat) (Option.some Jvm.ClassFile.FieldType.boolean)) ∈ TB := TB_in 867 (by decide +kernel) (by decide +kernel)
theorem q_868 : (Jvm.Cond.methodLink "RelayTransferModel" (165 : Nat) ({ cls := "RelayTransferModel", name := "listOf", desc := "(I)I" } : Jvm.MethodName)) ∈ TB := TB_in 868 (by decide +kernel) (by decide +kernel)
theorem q_870 : (Jvm.Cond.instanceMethod ({ cls := "RelayTransferModel", name := "listOf", desc := "(I)I" } : Jvm.MethodName)) ∈ TB := TB_in 870 (by decide +kernel) (by decide +kernel)
theorem q_871 : (Jvm.Cond.code ({ cls := "RelayTransferModel", name := "listOf", desc := "(I)I" } : Jvm.MethodName) prog_9_method_45_code (2 : Nat) (Option.some Jvm.ClassFile.FieldType.int)) ∈ TB := TB_in 871 (by decide +kernel) (by decide +kernel)
theorem q_872 : (Jvm.Cond.methodLink "RelayTransferModel" (168 : Nat) ({ cls := "RelayTransferModel", name := "part", desc := "(III)I" } : Jvm.MethodName)) ∈ TB := TB_in 872 (by decide +kernel) (by decide +kernel)
theorem q_874 : (Jvm.Cond.instanceMethod ({ cls := "RelayTransferModel", name := "part", desc := "(III)I" } : Jvm.MethodName)) ∈ TB := TB_in 874 (by decide +kernel) (by decide +kernel)
theorem q_875 : (Jvm.Cond.code ({ cls := "RelayTransferModel", name := "part", desc := "(III)I" } : Jvm.MethodName) prog_9_method_46_code (5 : Nat) (Option.some Jvm.ClassFile.FieldType.int)) ∈ TB := TB_in 875 (by decide +kernel) (by decide +kernel)
theorem q_876 : (Jvm.Cond.methodLink "RelayTransferLaw" (64 : Nat) ({ cls := "RelayTransferModel", name := "waiting", desc := "(II)I" } : Jvm.MethodName)) ∈ TB := TB_in 876 (by decide +kernel) (by decide +kernel)
theorem q_877 : (Jvm.Cond.instanceMethod ({ cls := "RelayTransferModel", name := "waiting", desc := "(II)I" } : Jvm.MethodName)) ∈ TB := TB_in 877 (by decide +kernel) (by decide +kernel)
theorem q_878 : (Jvm.Cond.selects "RelayTransferModel" ({ cls := "RelayTransferModel", name := "waiting", desc := "(II)I" } : Jvm.MethodName) ({ cls := "RelayTransferModel", name := "waiting", desc := "(II)I" } : Jvm.MethodName)) ∈ TB := TB_in 878 (by decide +kernel) (by decide +kernel)
theorem q_879 : (Jvm.Cond.code ({ cls := "RelayTransferModel", name := "waiting", desc := "(II)I" } : Jvm.MethodName) prog_9_method_49_code (3 : Nat) (Option.some Jvm.ClassFile.FieldType.int)) ∈ TB := TB_in 879 (by decide +kernel) (by decide +kernel)
theorem q_880 : (Jvm.Cond.methodLink "RelayTransferLaw" (68 : Nat) ({ cls := "RelayTransferModel", name := "node", desc := "(II)I" } : Jvm.MethodName)) ∈ TB := TB_in 880 (by decide +kernel) (by decide +kernel)
theorem q_881 : (Jvm.Cond.instanceMethod ({ cls := "RelayTransferModel", name := "node", desc := "(II)I" } : Jvm.MethodName)) ∈ TB := TB_in 881 (by decide +kernel) (by decide +kernel)
theorem q_882 : (Jvm.Cond.selects "RelayTransferModel" ({ cls := "RelayTransferModel", name := "node", desc := "(II)I" } : Jvm.MethodName) ({ cls := "RelayTransferModel", name := "node", desc := "(II)I" } : Jvm.MethodName)) ∈ TB := TB_in 882 (by decide +kernel) (by decide +kernel)
theorem q_883 : (Jvm.Cond.code ({ cls := "RelayTransferModel", name := "node", desc := "(II)I" } : Jvm.MethodName) prog_9_method_50_code (3 : Nat) (Option.some Jvm.ClassFile.FieldType.int)) ∈ TB := TB_in 883 (by decide +kernel) (by decide +kernel)
theorem q_884 : (Jvm.Cond.methodLink "RelayTransferLaw" (72 : Nat) ({ cls := "RelayTransferModel", name := "novel", desc := "(II)I" } : Jvm.MethodName)) ∈ TB := TB_in 884 (by decide +kernel) (by decide +kernel)
theorem q_885 : (Jvm.Cond.instanceMethod ({ cls := "RelayTransferModel", name := "novel", desc := "(II)I" } : Jvm.MethodName)) ∈ TB := TB_in 885 (by decide +kernel) (by decide +kernel)
theorem q_886 : (Jvm.Cond.selects "RelayTransferModel" ({ cls := "RelayTransferModel", name := "novel", desc := "(II)I" } : Jvm.MethodName) ({ cls := "RelayTransferModel", name := "novel", desc := "(II)I" } : Jvm.MethodName)) ∈ TB := TB_in 886 (by decide +kernel) (by decide +kernel)
theorem q_887 : (Jvm.Cond.code ({ cls := "RelayTransferModel", name := "novel", desc := "(II)I" } : Jvm.MethodName) prog_9_method_51_code (3 : Nat) (Option.some Jvm.ClassFile.FieldType.int)) ∈ TB := TB_in 887 (by decide +kernel) (by decide +kernel)
theorem q_888 : (Jvm.Cond.methodLink "RelayTransferLaw" (77 : Nat) ({ cls := "RelayTransferModel", name := "overhead", desc := "()F" } : Jvm.MethodName)) ∈ TB := TB_in 888 (by decide +kernel) (by decide +kernel)
theorem q_889 : (Jvm.Cond.instanceMethod ({ cls := "RelayTransferModel", name := "overhead", desc := "()F" } : Jvm.MethodName)) ∈ TB := TB_in 889 (by decide +kernel) (by decide +kernel)
theorem q_890 : (Jvm.Cond.selects "RelayTransferModel" ({ cls := "RelayTransferModel", name := "overhead", desc := "()F" } : Jvm.MethodName) ({ cls := "RelayTransferModel", name := "overhead", desc := "()F" } : Jvm.MethodName)) ∈ TB := TB_in 890 (by decide +kernel) (by decide +kernel)
theorem q_891 : (Jvm.Cond.code ({ cls := "RelayTransferModel", name := "overhead", desc := "()F" } : Jvm.MethodName) prog_9_method_52_code (1 : Nat) (Option.some Jvm.ClassFile.FieldType.float)) ∈ TB := TB_in 891 (by decide +kernel) (by decide +kernel)
theorem q_892 : (Jvm.Cond.methodLink "RelayTransferLaw" (81 : Nat) ({ cls := "RelayTransferModel", name := "forecast", desc := "(I)I" } : Jvm.MethodName)) ∈ TB := TB_in 892 (by decide +kernel) (by decide +kernel)
theorem q_893 : (Jvm.Cond.instanceMethod ({ cls := "RelayTransferModel", name := "forecast", desc := "(I)I" } : Jvm.MethodName)) ∈ TB := TB_in 893 (by decide +kernel) (by decide +kernel)
theorem q_894 : (Jvm.Cond.selects "RelayTransferModel" ({ cls := "RelayTransferModel", name := "forecast", desc := "(I)I" } : Jvm.MethodName) ({ cls := "RelayTransferModel", name := "forecast", desc := "(I)I" } : Jvm.MethodName)) ∈ TB := TB_in 894 (by decide +kernel) (by decide +kernel)
theorem q_895 : (Jvm.Cond.code ({ cls := "RelayTransferModel", name := "forecast", desc := "(I)I" } : Jvm.MethodName) prog_9_method_57_code (3 : Nat) (Option.some Jvm.ClassFile.FieldType.int)) ∈ TB := TB_in 895 (by decide +kernel) (by decide +kernel)
theorem q_896 : (Jvm.Cond.methodLink "RelayTransferModel" (175 : Nat) ({ cls := "RelayTransferModel", name := "hold", desc := "()V" } : Jvm.MethodName)) ∈ TB := TB_in 896 (by decide +kernel) (by decide +kernel)
theorem q_898 : (Jvm.Cond.instanceMethod ({ cls := "RelayTransferModel", name := "hold", desc := "()V" } : Jvm.MethodName)) ∈ TB := TB_in 898 (by decide +kernel) (by decide +kernel)
theorem q_899 : (Jvm.Cond.code ({ cls := "RelayTransferModel", name := "hold", desc := "()V" } : Jvm.MethodName) prog_9_method_53_code (2 : Nat) (Option.none : Option Jvm.ClassFile.FieldType)) ∈ TB := TB_in 899 (by decide +kernel) (by decide +kernel)
theorem q_900 : (Jvm.Cond.methodLink "RelayTransferModel" (178 : Nat) ({ cls := "RelayTransferModel", name := "ticksTo", desc := "(II)I" } : Jvm.MethodName)) ∈ TB := TB_in 900 (by decide +kernel) (by decide +kernel)
theorem q_902 : (Jvm.Cond.instanceMethod ({ cls := "RelayTransferModel", name := "ticksTo", desc := "(II)I" } : Jvm.MethodName)) ∈ TB := TB_in 902 (by decide +kernel) (by decide +kernel)
theorem q_903 : (Jvm.Cond.code ({ cls := "RelayTransferModel", name := "ticksTo", desc := "(II)I" } : Jvm.MethodName) prog_9_method_56_code (4 : Nat) (Option.some Jvm.ClassFile.FieldType.int)) ∈ TB := TB_in 903 (by decide +kernel) (by decide +kernel)
theorem q_904 : (Jvm.Cond.methodLink "RelayTransferModel" (172 : Nat) ({ cls := "RelayTransferModel", name := "isWhole", desc := "(I)Z" } : Jvm.MethodName)) ∈ TB := TB_in 904 (by decide +kernel) (by decide +kernel)
theorem q_906 : (Jvm.Cond.instanceMethod ({ cls := "RelayTransferModel", name := "isWhole", desc := "(I)Z" } : Jvm.MethodName)) ∈ TB := TB_in 906 (by decide +kernel) (by decide +kernel)
theorem q_907 : (Jvm.Cond.code ({ cls := "RelayTransferModel", name := "isWhole", desc := "(I)Z" } : Jvm.MethodName) prog_9_method_55_code (2 : Nat) (Option.some Jvm.ClassFile.FieldType.boolean)) ∈ TB := TB_in 907 (by decide +kernel) (by decide +kernel)
theorem q_908 : (Jvm.Cond.methodLink "RelayTransferModel" (181 : Nat) ({ cls := "RelayTransferModel", name := "release", desc := "()V" } : Jvm.MethodName)) ∈ TB := TB_in 908 (by decide +kernel) (by decide +kernel)
theorem q_910 : (Jvm.Cond.instanceMethod ({ cls := "RelayTransferModel", name := "release", desc := "()V" } : Jvm.MethodName)) ∈ TB := TB_in 910 (by decide +kernel) (by decide +kernel)
theorem q_911 : (Jvm.Cond.code ({ cls := "RelayTransferModel", name := "release", desc := "()V" } : Jvm.MethodName) prog_9_method_54_code (2 : Nat) (Option.none : Option Jvm.ClassFile.FieldType)) ∈ TB := TB_in 911 (by decide +kernel) (by decide +kernel)
theorem q_912 : (Jvm.Cond.methodLink "RelayTransferLaw" (85 : Nat) ({ cls := "RelayTransferModel", name := "bestPolicy", desc := "()I" } : Jvm.MethodName)) ∈ TB := TB_in 912 (by decide +kernel) (by decide +kernel)
theorem q_913 : (Jvm.Cond.instanceMethod ({ cls := "RelayTransferModel", name := "bestPolicy", desc := "()I" } : Jvm.MethodName)) ∈ TB := TB_in 913 (by decide +kernel) (by decide +kernel)
theorem q_914 : (Jvm.Cond.selects "RelayTransferModel" ({ cls := "RelayTransferModel", name := "bestPolicy", desc := "()I" } : Jvm.MethodName) ({ cls := "RelayTransferModel", name := "bestPolicy", desc := "()I" } : Jvm.MethodName)) ∈ TB := TB_in 914 (by decide +kernel) (by decide +kernel)
theorem q_915 : (Jvm.Cond.code ({ cls := "RelayTransferModel", name := "bestPolicy", desc := "()I" } : Jvm.MethodName) prog_9_method_58_code (5 : Nat) (Option.some Jvm.ClassFile.FieldType.int)) ∈ TB := TB_in 915 (by decide +kernel) (by decide +kernel)
theorem q_916 : (Jvm.Cond.methodLink "RelayTransferLaw" (89 : Nat) ({ cls := "RelayTransferModel", name := "bearable", desc := "(II)I" } : Jvm.MethodName)) ∈ TB := TB_in 916 (by decide +kernel) (by decide +kernel)
theorem q_917 : (Jvm.Cond.instanceMethod ({ cls := "RelayTransferModel", name := "bearable", desc := "(II)I" } : Jvm.MethodName)) ∈ TB := TB_in 917 (by decide +kernel) (by decide +kernel)
theorem q_918 : (Jvm.Cond.selects "RelayTransferModel" ({ cls := "RelayTransferModel", name := "bearable", desc := "(II)I" } : Jvm.MethodName) ({ cls := "RelayTransferModel", name := "bearable", desc := "(II)I" } : Jvm.MethodName)) ∈ TB := TB_in 918 (by decide +kernel) (by decide +kernel)
theorem q_919 : (Jvm.Cond.code ({ cls := "RelayTransferModel", name := "bearable", desc := "(II)I" } : Jvm.MethodName) prog_9_method_59_code (5 : Nat) (Option.some Jvm.ClassFile.FieldType.int)) ∈ TB := TB_in 919 (by decide +kernel) (by decide +kernel)
theorem q_920 : (Jvm.Cond.methodLink "RelayTransferLaw" (93 : Nat) ({ cls := "RelayTransferModel", name := "keep", desc := "(I)I" } : Jvm.MethodName)) ∈ TB := TB_in 920 (by decide +kernel) (by decide +kernel)
theorem q_921 : (Jvm.Cond.instanceMethod ({ cls := "RelayTransferModel", name := "keep", desc := "(I)I" } : Jvm.MethodName)) ∈ TB := TB_in 921 (by decide +kernel) (by decide +kernel)
theorem q_922 : (Jvm.Cond.selects "RelayTransferModel" ({ cls := "RelayTransferModel", name := "keep", desc := "(I)I" } : Jvm.MethodName) ({ cls := "RelayTransferModel", name := "keep", desc := "(I)I" } : Jvm.MethodName)) ∈ TB := TB_in 922 (by decide +kernel) (by decide +kernel)
theorem q_923 : (Jvm.Cond.code ({ cls := "RelayTransferModel", name := "keep", desc := "(I)I" } : Jvm.MethodName) prog_9_method_61_code (3 : Nat) (Option.some Jvm.ClassFile.FieldType.int)) ∈ TB := TB_in 923 (by decide +kernel) (by decide +kernel)
theorem q_924 : (Jvm.Cond.methodLink "RelayTransferModel" (184 : Nat) ({ cls := "RelayTransferModel", name := "isImage", desc := "(I)Z" } : Jvm.MethodName)) ∈ TB := TB_in 924 (by decide +kernel) (by decide +kernel)
theorem q_925 : (Jvm.Cond.static ({ cls := "RelayTransferModel", name := "isImage", desc := "(I)Z" } : Jvm.MethodName)) ∈ TB := TB_in 925 (by decide +kernel) (by decide +kernel)
theorem q_926 : (Jvm.Cond.code ({ cls := "RelayTransferModel", name := "isImage", desc := "(I)Z" } : Jvm.MethodName) prog_9_method_60_code (1 : Nat) (Option.some Jvm.ClassFile.FieldType.boolean)) ∈ TB := TB_in 926 (by decide +kernel) (by decide +kernel)
theorem q_927 : (Jvm.Cond.methodLink "RelayTransferLaw" (97 : Nat) ({ cls := "RelayTransferModel", name := "back", desc := "(I)I" } : Jvm.MethodName)) ∈ TB := TB_in 927 (by decide +kernel) (by decide +kernel)
theorem q_928 : (Jvm.Cond.instanceMethod ({ cls := "RelayTransferModel", name := "back", desc := "(I)I" } : Jvm.MethodName)) ∈ TB := TB_in 928 (by decide +kernel) (by decide +kernel)
theorem q_929 : (Jvm.Cond.selects "RelayTransferModel" ({ cls := "RelayTransferModel", name := "back", desc := "(I)I" } : Jvm.MethodName) ({ cls := "RelayTransferModel", name := "back", desc := "(I)I" } : Jvm.MethodName)) ∈ TB := TB_in 929 (by decide +kernel) (by decide +kernel)
theorem q_930 : (Jvm.Cond.code ({ cls := "RelayTransferModel", name := "back", desc := "(I)I" } : Jvm.MethodName) prog_9_method_62_code (3 : Nat) (Option.some Jvm.ClassFile.FieldType.int)) ∈ TB := TB_in 930 (by decide +kernel) (by decide +kernel)
end
section
theorem dX0_init_0 : decode cX0_init 0 = .ok (.aload_n 0, 1) := by decide +kernel
theorem dX0_init_1 : decode cX0_init 1 = .ok (.invokespecial 3, 3) := by decide +kernel
theorem dX0_init_4 : decode cX0_init 4 = .ok (.aload_n 0, 1) := by decide +kernel
theorem dX0_init_5 : decode cX0_init 5 = .ok (.bipush 12, 2) := by decide +kernel
theorem dX0_init_7 : decode cX0_init 7 = .ok (.newarray .int, 2) := by decide +kernel
theorem dX0_init_9 : decode cX0_init 9 = .ok (.putfield 9, 3) := by decide +kernel
theorem dX0_init_12 : decode cX0_init 12 = .ok (.aload_n 0, 1) := by decide +kernel
theorem dX0_init_13 : decode cX0_init 13 = .ok (.bipush 12, 2) := by decide +kernel
theorem dX0_init_15 : decode cX0_init 15 = .ok (.newarray .int, 2) := by decide +kernel
theorem dX0_init_17 : decode cX0_init 17 = .ok (.putfield 15, 3) := by decide +kernel
theorem dX0_init_20 : decode cX0_init 20 = .ok (.aload_n 0, 1) := by decide +kernel
theorem dX0_init_21 : decode cX0_init 21 = .ok (.iconst 0, 1) := by decide +kernel
theorem dX0_init_22 : decode cX0_init 22 = .ok (.putfield 18, 3) := by decide +kernel
theorem dX0_init_25 : decode cX0_init 25 = .ok (.iconst 0, 1) := by decide +kernel
theorem dX0_init_26 : decode cX0_init 26 = .ok (.istore_n 1, 1) := by decide +kernel
theorem dX0_init_27 : decode cX0_init 27 = .ok (.iload_n 1, 1) := by decide +kernel
theorem dX0_init_28 : decode cX0_init 28 = .ok (.aload_n 0, 1) := by decide +kernel
theorem dX0_init_29 : decode cX0_init 29 = .ok (.getfield 15, 3) := by decide +kernel
theorem dX0_init_32 : decode cX0_init 32 = .ok (.arraylength, 1) := by decide +kernel
theorem dX0_init_33 : decode cX0_init 33 = .ok (.if_icmp .ge 17, 3) := by decide +kernel
theorem dX0_init_36 : decode cX0_init 36 = .ok (.aload_n 0, 1) := by decide +kernel
theorem dX0_init_37 : decode cX0_init 37 = .ok (.getfield 15, 3) := by decide +kernel
theorem dX0_init_40 : decode cX0_init 40 = .ok (.iload_n 1, 1) := by decide +kernel
theorem dX0_init_41 : decode cX0_init 41 = .ok (.bipush (-9), 2) := by decide +kernel
theorem dX0_init_43 : decode cX0_init 43 = .ok (.iastore, 1) := by decide +kernel
theorem dX0_init_44 : decode cX0_init 44 = .ok (.iinc 1 1, 3) := by decide +kernel
theorem dX0_init_47 : decode cX0_init 47 = .ok (.goto (-20), 3) := by decide +kernel
theorem dX0_init_50 : decode cX0_init 50 = .ok (.return_, 1) := by decide +kernel
theorem dX0_has_0 : decode cX0_has 0 = .ok (.iload_n 1, 1) := by decide +kernel
theorem dX0_has_1 : decode cX0_has 1 = .ok (.ifCond .lt 25, 3) := by decide +kernel
theorem dX0_has_4 : decode cX0_has 4 = .ok (.iload_n 1, 1) := by decide +kernel
theorem dX0_has_5 : decode cX0_has 5 = .ok (.aload_n 0, 1) := by decide +kernel
theorem dX0_has_6 : decode cX0_has 6 = .ok (.getfield 9, 3) := by decide +kernel
theorem dX0_has_9 : decode cX0_has 9 = .ok (.arraylength, 1) := by decide +kernel
theorem dX0_has_10 : decode cX0_has 10 = .ok (.if_icmp .ge 16, 3) := by decide +kernel
theorem dX0_has_13 : decode cX0_has 13 = .ok (.aload_n 0, 1) := by decide +kernel
theorem dX0_has_14 : decode cX0_has 14 = .ok (.getfield 9, 3) := by decide +kernel
theorem dX0_has_17 : decode cX0_has 17 = .ok (.iload_n 1, 1) := by decide +kernel
theorem dX0_has_18 : decode cX0_has 18 = .ok (.iaload, 1) := by decide +kernel
theorem dX0_has_19 : decode cX0_has 19 = .ok (.ifCond .eq 7, 3) := by decide +kernel
theorem dX0_has_22 : decode cX0_has 22 = .ok (.iconst 1, 1) := by decide +kernel
theorem dX0_has_23 : decode cX0_has 23 = .ok (.goto 4, 3) := by decide +kernel
theorem dX0_has_26 : decode cX0_has 26 = .ok (.iconst 0, 1) := by decide +kernel
theorem dX0_has_27 : decode cX0_has 27 = .ok (.ireturn, 1) := by decide +kernel
theorem dX0_add_0 : decode cX0_add 0 = .ok (.iconst 0, 1) := by decide +kernel
theorem dX0_add_1 : decode cX0_add 1 = .ok (.istore_n 3, 1) := by decide +kernel
theorem dX0_add_2 : decode cX0_add 2 = .ok (.iload_n 3, 1) := by decide +kernel
theorem dX0_add_3 : decode cX0_add 3 = .ok (.aload_n 0, 1) := by decide +kernel
theorem dX0_add_4 : decode cX0_add 4 = .ok (.getfield 9, 3) := by decide +kernel
theorem dX0_add_7 : decode cX0_add 7 = .ok (.arraylength, 1) := by decide +kernel
theorem dX0_add_8 : decode cX0_add 8 = .ok (.if_icmp .ge 59, 3) := by decide +kernel
theorem dX0_add_11 : decode cX0_add 11 = .ok (.iload_n 3, 1) := by decide +kernel
theorem dX0_add_12 : decode cX0_add 12 = .ok (.aload_n 0, 1) := by decide +kernel
theorem dX0_add_13 : decode cX0_add 13 = .ok (.getfield 15, 3) := by decide +kernel
theorem dX0_add_16 : decode cX0_add 16 = .ok (.arraylength, 1) := by decide +kernel
theorem dX0_add_17 : decode cX0_add 17 = .ok (.if_icmp .ge 50, 3) := by decide +kernel
theorem dX0_add_20 : decode cX0_add 20 = .ok (.iload_n 1, 1) := by decide +kernel
theorem dX0_add_21 : decode cX0_add 21 = .ok (.iload_n 3, 1) := by decide +kernel
theorem dX0_add_22 : decode cX0_add 22 = .ok (.invokestatic 22, 3) := by decide +kernel
theorem dX0_add_25 : decode cX0_add 25 = .ok (.ifCond .eq 36, 3) := by decide +kernel
theorem dX0_add_28 : decode cX0_add 28 = .ok (.aload_n 0, 1) := by decide +kernel
theorem dX0_add_29 : decode cX0_add 29 = .ok (.getfield 9, 3) := by decide +kernel
theorem dX0_add_32 : decode cX0_add 32 = .ok (.iload_n 3, 1) := by decide +kernel
theorem dX0_add_33 : decode cX0_add 33 = .ok (.iaload, 1) := by decide +kernel
theorem dX0_add_34 : decode cX0_add 34 = .ok (.ifCond .ne 27, 3) := by decide +kernel
theorem dX0_add_37 : decode cX0_add 37 = .ok (.aload_n 0, 1) := by decide +kernel
theorem dX0_add_38 : decode cX0_add 38 = .ok (.getfield 9, 3) := by decide +kernel
theorem dX0_add_41 : decode cX0_add 41 = .ok (.iload_n 3, 1) := by decide +kernel
theorem dX0_add_42 : decode cX0_add 42 = .ok (.iload_n 1, 1) := by decide +kernel
theorem dX0_add_43 : decode cX0_add 43 = .ok (.iastore, 1) := by decide +kernel
theorem dX0_add_44 : decode cX0_add 44 = .ok (.aload_n 0, 1) := by decide +kernel
theorem dX0_add_45 : decode cX0_add 45 = .ok (.getfield 15, 3) := by decide +kernel
theorem dX0_add_48 : decode cX0_add 48 = .ok (.iload_n 3, 1) := by decide +kernel
theorem dX0_add_49 : decode cX0_add 49 = .ok (.iload_n 2, 1) := by decide +kernel
theorem dX0_add_50 : decode cX0_add 50 = .ok (.iastore, 1) := by decide +kernel
theorem dX0_add_51 : decode cX0_add 51 = .ok (.aload_n 0, 1) := by decide +kernel
theorem dX0_add_52 : decode cX0_add 52 = .ok (.dup, 1) := by decide +kernel
theorem dX0_add_53 : decode cX0_add 53 = .ok (.getfield 18, 3) := by decide +kernel
theorem dX0_add_56 : decode cX0_add 56 = .ok (.iconst 1, 1) := by decide +kernel
theorem dX0_add_57 : decode cX0_add 57 = .ok (.iadd, 1) := by decide +kernel
theorem dX0_add_58 : decode cX0_add 58 = .ok (.putfield 18, 3) := by decide +kernel
theorem dX0_add_61 : decode cX0_add 61 = .ok (.iinc 3 1, 3) := by decide +kernel
theorem dX0_add_64 : decode cX0_add 64 = .ok (.goto (-62), 3) := by decide +kernel
theorem dX0_add_67 : decode cX0_add 67 = .ok (.return_, 1) := by decide +kernel
theorem dX0_valueAt_0 : decode cX0_valueAt 0 = .ok (.aload_n 0, 1) := by decide +kernel
theorem dX0_valueAt_1 : decode cX0_valueAt 1 = .ok (.iload_n 1, 1) := by decide +kernel
theorem dX0_valueAt_2 : decode cX0_valueAt 2 = .ok (.invokevirtual 26, 3) := by decide +kernel
theorem dX0_valueAt_5 : decode cX0_valueAt 5 = .ok (.ifCond .eq 15, 3) := by decide +kernel
theorem dX0_valueAt_8 : decode cX0_valueAt 8 = .ok (.aload_n 0, 1) := by decide +kernel
theorem dX0_valueAt_9 : decode cX0_valueAt 9 = .ok (.getfield 9, 3) := by decide +kernel
theorem dX0_valueAt_12 : decode cX0_valueAt 12 = .ok (.iload_n 1, 1) := by decide +kernel
theorem dX0_valueAt_13 : decode cX0_valueAt 13 = .ok (.iaload, 1) := by decide +kernel
theorem dX0_valueAt_14 : decode cX0_valueAt 14 = .ok (.invokestatic 30, 3) := by decide +kernel
theorem dX0_valueAt_17 : decode cX0_valueAt 17 = .ok (.goto 5, 3) := by decide +kernel
theorem dX0_valueAt_20 : decode cX0_valueAt 20 = .ok (.bipush (-9), 2) := by decide +kernel
theorem dX0_valueAt_22 : decode cX0_valueAt 22 = .ok (.ireturn, 1) := by decide +kernel
theorem dX0_takenOutOf_0 : decode cX0_takenOutOf 0 = .ok (.iload_n 1, 1) := by decide +kernel
theorem dX0_takenOutOf_1 : decode cX0_takenOutOf 1 = .ok (.istore_n 2, 1) := by decide +kernel
theorem dX0_takenOutOf_2 : decode cX0_takenOutOf 2 = .ok (.iconst 0, 1) := by decide +kernel
theorem dX0_takenOutOf_3 : decode cX0_takenOutOf 3 = .ok (.istore_n 3, 1) := by decide +kernel
theorem dX0_takenOutOf_4 : decode cX0_takenOutOf 4 = .ok (.iload_n 3, 1) := by decide +kernel
theorem dX0_takenOutOf_5 : decode cX0_takenOutOf 5 = .ok (.aload_n 0, 1) := by decide +kernel
theorem dX0_takenOutOf_6 : decode cX0_takenOutOf 6 = .ok (.getfield 9, 3) := by decide +kernel
theorem dX0_takenOutOf_9 : decode cX0_takenOutOf 9 = .ok (.arraylength, 1) := by decide +kernel
theorem dX0_takenOutOf_10 : decode cX0_takenOutOf 10 = .ok (.if_icmp .ge 26, 3) := by decide +kernel
theorem dX0_takenOutOf_13 : decode cX0_takenOutOf 13 = .ok (.iload_n 1, 1) := by decide +kernel
theorem dX0_takenOutOf_14 : decode cX0_takenOutOf 14 = .ok (.iload_n 3, 1) := by decide +kernel
theorem dX0_takenOutOf_15 : decode cX0_takenOutOf 15 = .ok (.invokestatic 22, 3) := by decide +kernel
theorem dX0_takenOutOf_18 : decode cX0_takenOutOf 18 = .ok (.ifCond .eq 12, 3) := by decide +kernel
theorem dX0_takenOutOf_21 : decode cX0_takenOutOf 21 = .ok (.iload_n 2, 1) := by decide +kernel
theorem dX0_takenOutOf_22 : decode cX0_takenOutOf 22 = .ok (.aload_n 0, 1) := by decide +kernel
theorem dX0_takenOutOf_23 : decode cX0_takenOutOf 23 = .ok (.getfield 9, 3) := by decide +kernel
theorem dX0_takenOutOf_26 : decode cX0_takenOutOf 26 = .ok (.iload_n 3, 1) := by decide +kernel
theorem dX0_takenOutOf_27 : decode cX0_takenOutOf 27 = .ok (.iaload, 1) := by decide +kernel
theorem dX0_takenOutOf_28 : decode cX0_takenOutOf 28 = .ok (.ixor, 1) := by decide +kernel
theorem dX0_takenOutOf_29 : decode cX0_takenOutOf 29 = .ok (.istore_n 2, 1) := by decide +kernel
theorem dX0_takenOutOf_30 : decode cX0_takenOutOf 30 = .ok (.iinc 3 1, 3) := by decide +kernel
theorem dX0_takenOutOf_33 : decode cX0_takenOutOf 33 = .ok (.goto (-29), 3) := by decide +kernel
theorem dX0_takenOutOf_36 : decode cX0_takenOutOf 36 = .ok (.iload_n 2, 1) := by decide +kernel
theorem dX0_takenOutOf_37 : decode cX0_takenOutOf 37 = .ok (.ireturn, 1) := by decide +kernel
theorem dX0_clear_0 : decode cX0_clear 0 = .ok (.iconst 0, 1) := by decide +kernel
theorem dX0_clear_1 : decode cX0_clear 1 = .ok (.istore_n 1, 1) := by decide +kernel
theorem dX0_clear_2 : decode cX0_clear 2 = .ok (.iload_n 1, 1) := by decide +kernel
theorem dX0_clear_3 : decode cX0_clear 3 = .ok (.aload_n 0, 1) := by decide +kernel
theorem dX0_clear_4 : decode cX0_clear 4 = .ok (.getfield 9, 3) := by decide +kernel
theorem dX0_clear_7 : decode cX0_clear 7 = .ok (.arraylength, 1) := by decide +kernel
theorem dX0_clear_8 : decode cX0_clear 8 = .ok (.if_icmp .ge 33, 3) := by decide +kernel
theorem dX0_clear_11 : decode cX0_clear 11 = .ok (.iload_n 1, 1) := by decide +kernel
theorem dX0_clear_12 : decode cX0_clear 12 = .ok (.aload_n 0, 1) := by decide +kernel
theorem dX0_clear_13 : decode cX0_clear 13 = .ok (.getfield 15, 3) := by decide +kernel
theorem dX0_clear_16 : decode cX0_clear 16 = .ok (.arraylength, 1) := by decide +kernel
theorem dX0_clear_17 : decode cX0_clear 17 = .ok (.if_icmp .ge 24, 3) := by decide +kernel
theorem dX0_clear_20 : decode cX0_clear 20 = .ok (.aload_n 0, 1) := by decide +kernel
theorem dX0_clear_21 : decode cX0_clear 21 = .ok (.getfield 9, 3) := by decide +kernel
theorem dX0_clear_24 : decode cX0_clear 24 = .ok (.iload_n 1, 1) := by decide +kernel
theorem dX0_clear_25 : decode cX0_clear 25 = .ok (.iconst 0, 1) := by decide +kernel
theorem dX0_clear_26 : decode cX0_clear 26 = .ok (.iastore, 1) := by decide +kernel
theorem dX0_clear_27 : decode cX0_clear 27 = .ok (.aload_n 0, 1) := by decide +kernel
theorem dX0_clear_28 : decode cX0_clear 28 = .ok (.getfield 15, 3) := by decide +kernel
theorem dX0_clear_31 : decode cX0_clear 31 = .ok (.iload_n 1, 1) := by decide +kernel
theorem dX0_clear_32 : decode cX0_clear 32 = .ok (.bipush (-9), 2) := by decide +kernel
theorem dX0_clear_34 : decode cX0_clear 34 = .ok (.iastore, 1) := by decide +kernel
theorem dX0_clear_35 : decode cX0_clear 35 = .ok (.iinc 1 1, 3) := by decide +kernel
theorem dX0_clear_38 : decode cX0_clear 38 = .ok (.goto (-36), 3) := by decide +kernel
theorem dX0_clear_41 : decode cX0_clear 41 = .ok (.aload_n 0, 1) := by decide +kernel
theorem dX0_clear_42 : decode cX0_clear 42 = .ok (.iconst 0, 1) := by decide +kernel
theorem dX0_clear_43 : decode cX0_clear 43 = .ok (.putfield 18, 3) := by decide +kernel
theorem dX0_clear_46 : decode cX0_clear 46 = .ok (.return_, 1) := by decide +kernel
theorem dX0_copyFrom_0 : decode cX0_copyFrom 0 = .ok (.aload_n 1, 1) := by decide +kernel
theorem dX0_copyFrom_1 : decode cX0_copyFrom 1 = .ok (.getfield 9, 3) := by decide +kernel
theorem dX0_copyFrom_4 : decode cX0_copyFrom 4 = .ok (.aload_n 0, 1) := by decide +kernel
theorem dX0_copyFrom_5 : decode cX0_copyFrom 5 = .ok (.getfield 9, 3) := by decide +kernel
theorem dX0_copyFrom_8 : decode cX0_copyFrom 8 = .ok (.invokestatic 34, 3) := by decide +kernel
theorem dX0_copyFrom_11 : decode cX0_copyFrom 11 = .ok (.aload_n 1, 1) := by decide +kernel
theorem dX0_copyFrom_12 : decode cX0_copyFrom 12 = .ok (.getfield 15, 3) := by decide +kernel
theorem dX0_copyFrom_15 : decode cX0_copyFrom 15 = .ok (.aload_n 0, 1) := by decide +kernel
theorem dX0_copyFrom_16 : decode cX0_copyFrom 16 = .ok (.getfield 15, 3) := by decide +kernel
theorem dX0_copyFrom_19 : decode cX0_copyFrom 19 = .ok (.invokestatic 34, 3) := by decide +kernel
theorem dX0_copyFrom_22 : decode cX0_copyFrom 22 = .ok (.aload_n 0, 1) := by decide +kernel
theorem dX0_copyFrom_23 : decode cX0_copyFrom 23 = .ok (.aload_n 1, 1) := by decide +kernel
theorem dX0_copyFrom_24 : decode cX0_copyFrom 24 = .ok (.getfield 18, 3) := by decide +kernel
theorem dX0_copyFrom_27 : decode cX0_copyFrom 27 = .ok (.putfield 18, 3) := by decide +kernel
theorem dX0_copyFrom_30 : decode cX0_copyFrom 30 = .ok (.return_, 1) := by decide +kernel
theorem dX1_init_0 : decode cX1_init 0 = .ok (.aload_n 0, 1) := by decide +kernel
theorem dX1_init_1 : decode cX1_init 1 = .ok (.invokespecial 3, 3) := by decide +kernel
theorem dX1_init_4 : decode cX1_init 4 = .ok (.aload_n 0, 1) := by decide +kernel
theorem dX1_init_5 : decode cX1_init 5 = .ok (.iconst 0, 1) := by decide +kernel
theorem dX1_init_6 : decode cX1_init 6 = .ok (.putfield 9, 3) := by decide +kernel
theorem dX1_init_9 : decode cX1_init 9 = .ok (.aload_n 0, 1) := by decide +kernel
theorem dX1_init_10 : decode cX1_init 10 = .ok (.iload_n 1, 1) := by decide +kernel
theorem dX1_init_11 : decode cX1_init 11 = .ok (.iconst 0, 1) := by decide +kernel
theorem dX1_init_12 : decode cX1_init 12 = .ok (.invokestatic 15, 3) := by decide +kernel
theorem dX1_init_15 : decode cX1_init 15 = .ok (.newarray .int, 2) := by decide +kernel
theorem dX1_init_17 : decode cX1_init 17 = .ok (.putfield 21, 3) := by decide +kernel
theorem dX1_init_20 : decode cX1_init 20 = .ok (.return_, 1) := by decide +kernel
theorem dX1_at_0 : decode cX1_at 0 = .ok (.iload_n 1, 1) := by decide +kernel
theorem dX1_at_1 : decode cX1_at 1 = .ok (.ifCond .lt 29, 3) := by decide +kernel
theorem dX1_at_4 : decode cX1_at 4 = .ok (.iload_n 1, 1) := by decide +kernel
theorem dX1_at_5 : decode cX1_at 5 = .ok (.aload_n 0, 1) := by decide +kernel
theorem dX1_at_6 : decode cX1_at 6 = .ok (.getfield 9, 3) := by decide +kernel
theorem dX1_at_9 : decode cX1_at 9 = .ok (.if_icmp .ge 21, 3) := by decide +kernel
theorem dX1_at_12 : decode cX1_at 12 = .ok (.iload_n 1, 1) := by decide +kernel
theorem dX1_at_13 : decode cX1_at 13 = .ok (.aload_n 0, 1) := by decide +kernel
theorem dX1_at_14 : decode cX1_at 14 = .ok (.getfield 21, 3) := by decide +kernel
theorem dX1_at_17 : decode cX1_at 17 = .ok (.arraylength, 1) := by decide +kernel
theorem dX1_at_18 : decode cX1_at 18 = .ok (.if_icmp .ge 12, 3) := by decide +kernel
theorem dX1_at_21 : decode cX1_at 21 = .ok (.aload_n 0, 1) := by decide +kernel
theorem dX1_at_22 : decode cX1_at 22 = .ok (.getfield 21, 3) := by decide +kernel
theorem dX1_at_25 : decode cX1_at 25 = .ok (.iload_n 1, 1) := by decide +kernel
theorem dX1_at_26 : decode cX1_at 26 = .ok (.iaload, 1) := by decide +kernel
theorem dX1_at_27 : decode cX1_at 27 = .ok (.goto 4, 3) := by decide +kernel
theorem dX1_at_30 : decode cX1_at 30 = .ok (.iconst 0, 1) := by decide +kernel
theorem dX1_at_31 : decode cX1_at 31 = .ok (.ireturn, 1) := by decide +kernel
theorem dX1_append_0 : decode cX1_append 0 = .ok (.aload_n 0, 1) := by decide +kernel
theorem dX1_append_1 : decode cX1_append 1 = .ok (.getfield 9, 3) := by decide +kernel
theorem dX1_append_4 : decode cX1_append 4 = .ok (.ifCond .lt 35, 3) := by decide +kernel
theorem dX1_append_7 : decode cX1_append 7 = .ok (.aload_n 0, 1) := by decide +kernel
theorem dX1_append_8 : decode cX1_append 8 = .ok (.getfield 9, 3) := by decide +kernel
theorem dX1_append_11 : decode cX1_append 11 = .ok (.aload_n 0, 1) := by decide +kernel
theorem dX1_append_12 : decode cX1_append 12 = .ok (.getfield 21, 3) := by decide +kernel
theorem dX1_append_15 : decode cX1_append 15 = .ok (.arraylength, 1) := by decide +kernel
theorem dX1_append_16 : decode cX1_append 16 = .ok (.if_icmp .ge 23, 3) := by decide +kernel
theorem dX1_append_19 : decode cX1_append 19 = .ok (.aload_n 0, 1) := by decide +kernel
theorem dX1_append_20 : decode cX1_append 20 = .ok (.getfield 21, 3) := by decide +kernel
theorem dX1_append_23 : decode cX1_append 23 = .ok (.aload_n 0, 1) := by decide +kernel
theorem dX1_append_24 : decode cX1_append 24 = .ok (.getfield 9, 3) := by decide +kernel
theorem dX1_append_27 : decode cX1_append 27 = .ok (.iload_n 1, 1) := by decide +kernel
theorem dX1_append_28 : decode cX1_append 28 = .ok (.iastore, 1) := by decide +kernel
theorem dX1_append_29 : decode cX1_append 29 = .ok (.aload_n 0, 1) := by decide +kernel
theorem dX1_append_30 : decode cX1_append 30 = .ok (.dup, 1) := by decide +kernel
theorem dX1_append_31 : decode cX1_append 31 = .ok (.getfield 9, 3) := by decide +kernel
theorem dX1_append_34 : decode cX1_append 34 = .ok (.iconst 1, 1) := by decide +kernel
theorem dX1_append_35 : decode cX1_append 35 = .ok (.iadd, 1) := by decide +kernel
theorem dX1_append_36 : decode cX1_append 36 = .ok (.putfield 9, 3) := by decide +kernel
theorem dX1_append_39 : decode cX1_append 39 = .ok (.return_, 1) := by decide +kernel
theorem dX1_removeAt_0 : decode cX1_removeAt 0 = .ok (.iload_n 1, 1) := by decide +kernel
theorem dX1_removeAt_1 : decode cX1_removeAt 1 = .ok (.ifCond .lt 20, 3) := by decide +kernel
theorem dX1_removeAt_4 : decode cX1_removeAt 4 = .ok (.iload_n 1, 1) := by decide +kernel
theorem dX1_removeAt_5 : decode cX1_removeAt 5 = .ok (.aload_n 0, 1) := by decide +kernel
theorem dX1_removeAt_6 : decode cX1_removeAt 6 = .ok (.getfield 9, 3) := by decide +kernel
theorem dX1_removeAt_9 : decode cX1_removeAt 9 = .ok (.if_icmp .ge 12, 3) := by decide +kernel
theorem dX1_removeAt_12 : decode cX1_removeAt 12 = .ok (.iload_n 1, 1) := by decide +kernel
theorem dX1_removeAt_13 : decode cX1_removeAt 13 = .ok (.aload_n 0, 1) := by decide +kernel
theorem dX1_removeAt_14 : decode cX1_removeAt 14 = .ok (.getfield 21, 3) := by decide +kernel
theorem dX1_removeAt_17 : decode cX1_removeAt 17 = .ok (.arraylength, 1) := by decide +kernel
theorem dX1_removeAt_18 : decode cX1_removeAt 18 = .ok (.if_icmp .lt 5, 3) := by decide +kernel
theorem dX1_removeAt_21 : decode cX1_removeAt 21 = .ok (.iconst 0, 1) := by decide +kernel
theorem dX1_removeAt_22 : decode cX1_removeAt 22 = .ok (.ireturn, 1) := by decide +kernel
theorem dX1_removeAt_23 : decode cX1_removeAt 23 = .ok (.aload_n 0, 1) := by decide +kernel
theorem dX1_removeAt_24 : decode cX1_removeAt 24 = .ok (.getfield 21, 3) := by decide +kernel
theorem dX1_removeAt_27 : decode cX1_removeAt 27 = .ok (.iload_n 1, 1) := by decide +kernel
theorem dX1_removeAt_28 : decode cX1_removeAt 28 = .ok (.iaload, 1) := by decide +kernel
theorem dX1_removeAt_29 : decode cX1_removeAt 29 = .ok (.istore_n 2, 1) := by decide +kernel
theorem dX1_removeAt_30 : decode cX1_removeAt 30 = .ok (.iload_n 1, 1) := by decide +kernel
theorem dX1_removeAt_31 : decode cX1_removeAt 31 = .ok (.iconst 1, 1) := by decide +kernel
theorem dX1_removeAt_32 : decode cX1_removeAt 32 = .ok (.iadd, 1) := by decide +kernel
theorem dX1_removeAt_33 : decode cX1_removeAt 33 = .ok (.istore_n 3, 1) := by decide +kernel
theorem dX1_removeAt_34 : decode cX1_removeAt 34 = .ok (.iload_n 3, 1) := by decide +kernel
theorem dX1_removeAt_35 : decode cX1_removeAt 35 = .ok (.aload_n 0, 1) := by decide +kernel
theorem dX1_removeAt_36 : decode cX1_removeAt 36 = .ok (.getfield 9, 3) := by decide +kernel
theorem dX1_removeAt_39 : decode cX1_removeAt 39 = .ok (.if_icmp .ge 32, 3) := by decide +kernel
theorem dX1_removeAt_42 : decode cX1_removeAt 42 = .ok (.iload_n 3, 1) := by decide +kernel
theorem dX1_removeAt_43 : decode cX1_removeAt 43 = .ok (.aload_n 0, 1) := by decide +kernel
theorem dX1_removeAt_44 : decode cX1_removeAt 44 = .ok (.getfield 21, 3) := by decide +kernel
theorem dX1_removeAt_47 : decode cX1_removeAt 47 = .ok (.arraylength, 1) := by decide +kernel
theorem dX1_removeAt_48 : decode cX1_removeAt 48 = .ok (.if_icmp .ge 23, 3) := by decide +kernel
theorem dX1_removeAt_51 : decode cX1_removeAt 51 = .ok (.aload_n 0, 1) := by decide +kernel
theorem dX1_removeAt_52 : decode cX1_removeAt 52 = .ok (.getfield 21, 3) := by decide +kernel
theorem dX1_removeAt_55 : decode cX1_removeAt 55 = .ok (.iload_n 3, 1) := by decide +kernel
theorem dX1_removeAt_56 : decode cX1_removeAt 56 = .ok (.iconst 1, 1) := by decide +kernel
theorem dX1_removeAt_57 : decode cX1_removeAt 57 = .ok (.isub, 1) := by decide +kernel
theorem dX1_removeAt_58 : decode cX1_removeAt 58 = .ok (.aload_n 0, 1) := by decide +kernel
theorem dX1_removeAt_59 : decode cX1_removeAt 59 = .ok (.getfield 21, 3) := by decide +kernel
theorem dX1_removeAt_62 : decode cX1_removeAt 62 = .ok (.iload_n 3, 1) := by decide +kernel
theorem dX1_removeAt_63 : decode cX1_removeAt 63 = .ok (.iaload, 1) := by decide +kernel
theorem dX1_removeAt_64 : decode cX1_removeAt 64 = .ok (.iastore, 1) := by decide +kernel
theorem dX1_removeAt_65 : decode cX1_removeAt 65 = .ok (.iinc 3 1, 3) := by decide +kernel
theorem dX1_removeAt_68 : decode cX1_removeAt 68 = .ok (.goto (-34), 3) := by decide +kernel
theorem dX1_removeAt_71 : decode cX1_removeAt 71 = .ok (.aload_n 0, 1) := by decide +kernel
theorem dX1_removeAt_72 : decode cX1_removeAt 72 = .ok (.dup, 1) := by decide +kernel
theorem dX1_removeAt_73 : decode cX1_removeAt 73 = .ok (.getfield 9, 3) := by decide +kernel
theorem dX1_removeAt_76 : decode cX1_removeAt 76 = .ok (.iconst 1, 1) := by decide +kernel
theorem dX1_removeAt_77 : decode cX1_removeAt 77 = .ok (.isub, 1) := by decide +kernel
theorem dX1_removeAt_78 : decode cX1_removeAt 78 = .ok (.putfield 9, 3) := by decide +kernel
theorem dX1_removeAt_81 : decode cX1_removeAt 81 = .ok (.iload_n 2, 1) := by decide +kernel
theorem dX1_removeAt_82 : decode cX1_removeAt 82 = .ok (.ireturn, 1) := by decide +kernel
theorem dX1_removeFrontsBeyond_0 : decode cX1_removeFrontsBeyond 0 = .ok (.aload_n 0, 1) := by decide +kernel
theorem dX1_removeFrontsBeyond_1 : decode cX1_removeFrontsBeyond 1 = .ok (.getfield 9, 3) := by decide +kernel
theorem dX1_removeFrontsBeyond_4 : decode cX1_removeFrontsBeyond 4 = .ok (.iload_n 1, 1) := by decide +kernel
theorem dX1_removeFrontsBeyond_5 : decode cX1_removeFrontsBeyond 5 = .ok (.isub, 1) := by decide +kernel
theorem dX1_removeFrontsBeyond_6 : decode cX1_removeFrontsBeyond 6 = .ok (.istore_n 2, 1) := by decide +kernel
theorem dX1_removeFrontsBeyond_7 : decode cX1_removeFrontsBeyond 7 = .ok (.iload_n 2, 1) := by decide +kernel
theorem dX1_removeFrontsBeyond_8 : decode cX1_removeFrontsBeyond 8 = .ok (.ifCond .le 15, 3) := by decide +kernel
theorem dX1_removeFrontsBeyond_11 : decode cX1_removeFrontsBeyond 11 = .ok (.aload_n 0, 1) := by decide +kernel
theorem dX1_removeFrontsBeyond_12 : decode cX1_removeFrontsBeyond 12 = .ok (.iconst 0, 1) := by decide +kernel
theorem dX1_removeFrontsBeyond_13 : decode cX1_removeFrontsBeyond 13 = .ok (.invokevirtual 25, 3) := by decide +kernel
theorem dX1_removeFrontsBeyond_16 : decode cX1_removeFrontsBeyond 16 = .ok (.pop, 1) := by decide +kernel
theorem dX1_removeFrontsBeyond_17 : decode cX1_removeFrontsBeyond 17 = .ok (.iinc 2 (-1), 3) := by decide +kernel
theorem dX1_removeFrontsBeyond_20 : decode cX1_removeFrontsBeyond 20 = .ok (.goto (-13), 3) := by decide +kernel
theorem dX1_removeFrontsBeyond_23 : decode cX1_removeFrontsBeyond 23 = .ok (.return_, 1) := by decide +kernel
theorem dX1_takeOut_0 : decode cX1_takeOut 0 = .ok (.iconst 0, 1) := by decide +kernel
theorem dX1_takeOut_1 : decode cX1_takeOut 1 = .ok (.istore_n 2, 1) := by decide +kernel
theorem dX1_takeOut_2 : decode cX1_takeOut 2 = .ok (.iconst 0, 1) := by decide +kernel
theorem dX1_takeOut_3 : decode cX1_takeOut 3 = .ok (.istore_n 3, 1) := by decide +kernel
theorem dX1_takeOut_4 : decode cX1_takeOut 4 = .ok (.iload_n 3, 1) := by decide +kernel
theorem dX1_takeOut_5 : decode cX1_takeOut 5 = .ok (.aload_n 0, 1) := by decide +kernel
theorem dX1_takeOut_6 : decode cX1_takeOut 6 = .ok (.getfield 9, 3) := by decide +kernel
theorem dX1_takeOut_9 : decode cX1_takeOut 9 = .ok (.if_icmp .ge 64, 3) := by decide +kernel
theorem dX1_takeOut_12 : decode cX1_takeOut 12 = .ok (.iload_n 3, 1) := by decide +kernel
theorem dX1_takeOut_13 : decode cX1_takeOut 13 = .ok (.aload_n 0, 1) := by decide +kernel
theorem dX1_takeOut_14 : decode cX1_takeOut 14 = .ok (.getfield 21, 3) := by decide +kernel
theorem dX1_takeOut_17 : decode cX1_takeOut 17 = .ok (.arraylength, 1) := by decide +kernel
theorem dX1_takeOut_18 : decode cX1_takeOut 18 = .ok (.if_icmp .ge 55, 3) := by decide +kernel
theorem dX1_takeOut_21 : decode cX1_takeOut 21 = .ok (.aload_n 0, 1) := by decide +kernel
theorem dX1_takeOut_22 : decode cX1_takeOut 22 = .ok (.getfield 21, 3) := by decide +kernel
theorem dX1_takeOut_25 : decode cX1_takeOut 25 = .ok (.iload_n 3, 1) := by decide +kernel
theorem dX1_takeOut_26 : decode cX1_takeOut 26 = .ok (.iaload, 1) := by decide +kernel
theorem dX1_takeOut_27 : decode cX1_takeOut 27 = .ok (.istore 4, 2) := by decide +kernel
theorem dX1_takeOut_29 : decode cX1_takeOut 29 = .ok (.iload 4, 2) := by decide +kernel
theorem dX1_takeOut_31 : decode cX1_takeOut 31 = .ok (.invokestatic 29, 3) := by decide +kernel
theorem dX1_takeOut_34 : decode cX1_takeOut 34 = .ok (.iload_n 1, 1) := by decide +kernel
theorem dX1_takeOut_35 : decode cX1_takeOut 35 = .ok (.invokestatic 29, 3) := by decide +kernel
theorem dX1_takeOut_38 : decode cX1_takeOut 38 = .ok (.iand, 1) := by decide +kernel
theorem dX1_takeOut_39 : decode cX1_takeOut 39 = .ok (.ifCond .eq 9, 3) := by decide +kernel
theorem dX1_takeOut_42 : decode cX1_takeOut 42 = .ok (.iload 4, 2) := by decide +kernel
theorem dX1_takeOut_44 : decode cX1_takeOut 44 = .ok (.iload_n 1, 1) := by decide +kernel
theorem dX1_takeOut_45 : decode cX1_takeOut 45 = .ok (.ixor, 1) := by decide +kernel
theorem dX1_takeOut_46 : decode cX1_takeOut 46 = .ok (.istore 4, 2) := by decide +kernel
theorem dX1_takeOut_48 : decode cX1_takeOut 48 = .ok (.iload 4, 2) := by decide +kernel
theorem dX1_takeOut_50 : decode cX1_takeOut 50 = .ok (.invokestatic 29, 3) := by decide +kernel
theorem dX1_takeOut_53 : decode cX1_takeOut 53 = .ok (.ifCond .eq 14, 3) := by decide +kernel
theorem dX1_takeOut_56 : decode cX1_takeOut 56 = .ok (.aload_n 0, 1) := by decide +kernel
theorem dX1_takeOut_57 : decode cX1_takeOut 57 = .ok (.getfield 21, 3) := by decide +kernel
theorem dX1_takeOut_60 : decode cX1_takeOut 60 = .ok (.iload_n 2, 1) := by decide +kernel
theorem dX1_takeOut_61 : decode cX1_takeOut 61 = .ok (.iload 4, 2) := by decide +kernel
theorem dX1_takeOut_63 : decode cX1_takeOut 63 = .ok (.iastore, 1) := by decide +kernel
theorem dX1_takeOut_64 : decode cX1_takeOut 64 = .ok (.iinc 2 1, 3) := by decide +kernel
theorem dX1_takeOut_67 : decode cX1_takeOut 67 = .ok (.iinc 3 1, 3) := by decide +kernel
theorem dX1_takeOut_70 : decode cX1_takeOut 70 = .ok (.goto (-66), 3) := by decide +kernel
theorem dX1_takeOut_73 : decode cX1_takeOut 73 = .ok (.aload_n 0, 1) := by decide +kernel
theorem dX1_takeOut_74 : decode cX1_takeOut 74 = .ok (.iload_n 2, 1) := by decide +kernel
theorem dX1_takeOut_75 : decode cX1_takeOut 75 = .ok (.putfield 9, 3) := by decide +kernel
theorem dX1_takeOut_78 : decode cX1_takeOut 78 = .ok (.return_, 1) := by decide +kernel
theorem dX1_removeFirstSingle_0 : decode cX1_removeFirstSingle 0 = .ok (.iconst 0, 1) := by decide +kernel
theorem dX1_removeFirstSingle_1 : decode cX1_removeFirstSingle 1 = .ok (.istore_n 1, 1) := by decide +kernel
theorem dX1_removeFirstSingle_2 : decode cX1_removeFirstSingle 2 = .ok (.iload_n 1, 1) := by decide +kernel
theorem dX1_removeFirstSingle_3 : decode cX1_removeFirstSingle 3 = .ok (.aload_n 0, 1) := by decide +kernel
theorem dX1_removeFirstSingle_4 : decode cX1_removeFirstSingle 4 = .ok (.getfield 9, 3) := by decide +kernel
theorem dX1_removeFirstSingle_7 : decode cX1_removeFirstSingle 7 = .ok (.if_icmp .ge 27, 3) := by decide +kernel
theorem dX1_removeFirstSingle_10 : decode cX1_removeFirstSingle 10 = .ok (.aload_n 0, 1) := by decide +kernel
theorem dX1_removeFirstSingle_11 : decode cX1_removeFirstSingle 11 = .ok (.iload_n 1, 1) := by decide +kernel
theorem dX1_removeFirstSingle_12 : decode cX1_removeFirstSingle 12 = .ok (.invokevirtual 32, 3) := by decide +kernel
theorem dX1_removeFirstSingle_15 : decode cX1_removeFirstSingle 15 = .ok (.invokestatic 35, 3) := by decide +kernel
theorem dX1_removeFirstSingle_18 : decode cX1_removeFirstSingle 18 = .ok (.iconst 1, 1) := by decide +kernel
theorem dX1_removeFirstSingle_19 : decode cX1_removeFirstSingle 19 = .ok (.if_icmp .ne 9, 3) := by decide +kernel
theorem dX1_removeFirstSingle_22 : decode cX1_removeFirstSingle 22 = .ok (.aload_n 0, 1) := by decide +kernel
theorem dX1_removeFirstSingle_23 : decode cX1_removeFirstSingle 23 = .ok (.iload_n 1, 1) := by decide +kernel
theorem dX1_removeFirstSingle_24 : decode cX1_removeFirstSingle 24 = .ok (.invokevirtual 25, 3) := by decide +kernel
theorem dX1_removeFirstSingle_27 : decode cX1_removeFirstSingle 27 = .ok (.ireturn, 1) := by decide +kernel
theorem dX1_removeFirstSingle_28 : decode cX1_removeFirstSingle 28 = .ok (.iinc 1 1, 3) := by decide +kernel
theorem dX1_removeFirstSingle_31 : decode cX1_removeFirstSingle 31 = .ok (.goto (-29), 3) := by decide +kernel
theorem dX1_removeFirstSingle_34 : decode cX1_removeFirstSingle 34 = .ok (.iconst 0, 1) := by decide +kernel
theorem dX1_removeFirstSingle_35 : decode cX1_removeFirstSingle 35 = .ok (.ireturn, 1) := by decide +kernel
theorem dX1_placeOfMostCommon_0 : decode cX1_placeOfMostCommon 0 = .ok (.iconst 0, 1) := by decide +kernel
theorem dX1_placeOfMostCommon_1 : decode cX1_placeOfMostCommon 1 = .ok (.istore_n 2, 1) := by decide +kernel
theorem dX1_placeOfMostCommon_2 : decode cX1_placeOfMostCommon 2 = .ok (.iconst (-1), 1) := by decide +kernel
theorem dX1_placeOfMostCommon_3 : decode cX1_placeOfMostCommon 3 = .ok (.istore_n 3, 1) := by decide +kernel
theorem dX1_placeOfMostCommon_4 : decode cX1_placeOfMostCommon 4 = .ok (.iconst 0, 1) := by decide +kernel
theorem dX1_placeOfMostCommon_5 : decode cX1_placeOfMostCommon 5 = .ok (.istore 4, 2) := by decide +kernel
theorem dX1_placeOfMostCommon_7 : decode cX1_placeOfMostCommon 7 = .ok (.iload 4, 2) := by decide +kernel
theorem dX1_placeOfMostCommon_9 : decode cX1_placeOfMostCommon 9 = .ok (.aload_n 0, 1) := by decide +kernel
theorem dX1_placeOfMostCommon_10 : decode cX1_placeOfMostCommon 10 = .ok (.getfield 9, 3) := by decide +kernel
theorem dX1_placeOfMostCommon_13 : decode cX1_placeOfMostCommon 13 = .ok (.if_icmp .ge 40, 3) := by decide +kernel
theorem dX1_placeOfMostCommon_16 : decode cX1_placeOfMostCommon 16 = .ok (.iload_n 1, 1) := by decide +kernel
theorem dX1_placeOfMostCommon_17 : decode cX1_placeOfMostCommon 17 = .ok (.invokestatic 29, 3) := by decide +kernel
theorem dX1_placeOfMostCommon_20 : decode cX1_placeOfMostCommon 20 = .ok (.aload_n 0, 1) := by decide +kernel
theorem dX1_placeOfMostCommon_21 : decode cX1_placeOfMostCommon 21 = .ok (.iload 4, 2) := by decide +kernel
theorem dX1_placeOfMostCommon_23 : decode cX1_placeOfMostCommon 23 = .ok (.invokevirtual 32, 3) := by decide +kernel
theorem dX1_placeOfMostCommon_26 : decode cX1_placeOfMostCommon 26 = .ok (.invokestatic 29, 3) := by decide +kernel
theorem dX1_placeOfMostCommon_29 : decode cX1_placeOfMostCommon 29 = .ok (.iand, 1) := by decide +kernel
theorem dX1_placeOfMostCommon_30 : decode cX1_placeOfMostCommon 30 = .ok (.invokestatic 38, 3) := by decide +kernel
theorem dX1_placeOfMostCommon_33 : decode cX1_placeOfMostCommon 33 = .ok (.istore 5, 2) := by decide +kernel
theorem dX1_placeOfMostCommon_35 : decode cX1_placeOfMostCommon 35 = .ok (.iload 5, 2) := by decide +kernel
theorem dX1_placeOfMostCommon_37 : decode cX1_placeOfMostCommon 37 = .ok (.iload_n 3, 1) := by decide +kernel
theorem dX1_placeOfMostCommon_38 : decode cX1_placeOfMostCommon 38 = .ok (.if_icmp .le 9, 3) := by decide +kernel
theorem dX1_placeOfMostCommon_41 : decode cX1_placeOfMostCommon 41 = .ok (.iload 4, 2) := by decide +kernel
theorem dX1_placeOfMostCommon_43 : decode cX1_placeOfMostCommon 43 = .ok (.istore_n 2, 1) := by decide +kernel
theorem dX1_placeOfMostCommon_44 : decode cX1_placeOfMostCommon 44 = .ok (.iload 5, 2) := by decide +kernel
theorem dX1_placeOfMostCommon_46 : decode cX1_placeOfMostCommon 46 = .ok (.istore_n 3, 1) := by decide +kernel
theorem dX1_placeOfMostCommon_47 : decode cX1_placeOfMostCommon 47 = .ok (.iinc 4 1, 3) := by decide +kernel
theorem dX1_placeOfMostCommon_50 : decode cX1_placeOfMostCommon 50 = .ok (.goto (-43), 3) := by decide +kernel
theorem dX1_placeOfMostCommon_53 : decode cX1_placeOfMostCommon 53 = .ok (.iload_n 2, 1) := by decide +kernel
theorem dX1_placeOfMostCommon_54 : decode cX1_placeOfMostCommon 54 = .ok (.ireturn, 1) := by decide +kernel
theorem dX1_clear_0 : decode cX1_clear 0 = .ok (.aload_n 0, 1) := by decide +kernel
theorem dX1_clear_1 : decode cX1_clear 1 = .ok (.iconst 0, 1) := by decide +kernel
theorem dX1_clear_2 : decode cX1_clear 2 = .ok (.putfield 9, 3) := by decide +kernel
theorem dX1_clear_5 : decode cX1_clear 5 = .ok (.return_, 1) := by decide +kernel
theorem dX1_copyFrom_0 : decode cX1_copyFrom 0 = .ok (.aload_n 1, 1) := by decide +kernel
theorem dX1_copyFrom_1 : decode cX1_copyFrom 1 = .ok (.getfield 21, 3) := by decide +kernel
theorem dX1_copyFrom_4 : decode cX1_copyFrom 4 = .ok (.aload_n 0, 1) := by decide +kernel
theorem dX1_copyFrom_5 : decode cX1_copyFrom 5 = .ok (.getfield 21, 3) := by decide +kernel
theorem dX1_copyFrom_8 : decode cX1_copyFrom 8 = .ok (.invokestatic 43, 3) := by decide +kernel
theorem dX1_copyFrom_11 : decode cX1_copyFrom 11 = .ok (.aload_n 0, 1) := by decide +kernel
theorem dX1_copyFrom_12 : decode cX1_copyFrom 12 = .ok (.aload_n 1, 1) := by decide +kernel
theorem dX1_copyFrom_13 : decode cX1_copyFrom 13 = .ok (.getfield 9, 3) := by decide +kernel
theorem dX1_copyFrom_16 : decode cX1_copyFrom 16 = .ok (.aload_n 0, 1) := by decide +kernel
theorem dX1_copyFrom_17 : decode cX1_copyFrom 17 = .ok (.getfield 21, 3) := by decide +kernel
theorem dX1_copyFrom_20 : decode cX1_copyFrom 20 = .ok (.arraylength, 1) := by decide +kernel
theorem dX1_copyFrom_21 : decode cX1_copyFrom 21 = .ok (.invokestatic 47, 3) := by decide +kernel
theorem dX1_copyFrom_24 : decode cX1_copyFrom 24 = .ok (.putfield 9, 3) := by decide +kernel
theorem dX1_copyFrom_27 : decode cX1_copyFrom 27 = .ok (.return_, 1) := by decide +kernel
theorem dX2_init_0 : decode cX2_init 0 = .ok (.aload_n 0, 1) := by decide +kernel
theorem dX2_init_1 : decode cX2_init 1 = .ok (.invokespecial 3, 3) := by decide +kernel
theorem dX2_init_4 : decode cX2_init 4 = .ok (.aload_n 0, 1) := by decide +kernel
theorem dX2_init_5 : decode cX2_init 5 = .ok (.new 9, 3) := by decide +kernel
theorem dX2_init_8 : decode cX2_init 8 = .ok (.dup, 1) := by decide +kernel
theorem dX2_init_9 : decode cX2_init 9 = .ok (.bipush 12, 2) := by decide +kernel
theorem dX2_init_11 : decode cX2_init 11 = .ok (.invokespecial 11, 3) := by decide +kernel
theorem dX2_init_14 : decode cX2_init 14 = .ok (.putfield 14, 3) := by decide +kernel
theorem dX2_init_17 : decode cX2_init 17 = .ok (.aload_n 0, 1) := by decide +kernel
theorem dX2_init_18 : decode cX2_init 18 = .ok (.new 20, 3) := by decide +kernel
theorem dX2_init_21 : decode cX2_init 21 = .ok (.dup, 1) := by decide +kernel
theorem dX2_init_22 : decode cX2_init 22 = .ok (.invokespecial 22, 3) := by decide +kernel
theorem dX2_init_25 : decode cX2_init 25 = .ok (.putfield 23, 3) := by decide +kernel
theorem dX2_init_28 : decode cX2_init 28 = .ok (.aload_n 0, 1) := by decide +kernel
theorem dX2_init_29 : decode cX2_init 29 = .ok (.new 27, 3) := by decide +kernel
theorem dX2_init_32 : decode cX2_init 32 = .ok (.dup, 1) := by decide +kernel
theorem dX2_init_33 : decode cX2_init 33 = .ok (.invokespecial 29, 3) := by decide +kernel
theorem dX2_init_36 : decode cX2_init 36 = .ok (.putfield 30, 3) := by decide +kernel
theorem dX2_init_39 : decode cX2_init 39 = .ok (.aload_n 0, 1) := by decide +kernel
theorem dX2_init_40 : decode cX2_init 40 = .ok (.new 9, 3) := by decide +kernel
theorem dX2_init_43 : decode cX2_init 43 = .ok (.dup, 1) := by decide +kernel
theorem dX2_init_44 : decode cX2_init 44 = .ok (.bipush 20, 2) := by decide +kernel
theorem dX2_init_46 : decode cX2_init 46 = .ok (.invokespecial 11, 3) := by decide +kernel
theorem dX2_init_49 : decode cX2_init 49 = .ok (.putfield 34, 3) := by decide +kernel
theorem dX2_init_52 : decode cX2_init 52 = .ok (.aload_n 0, 1) := by decide +kernel
theorem dX2_init_53 : decode cX2_init 53 = .ok (.new 27, 3) := by decide +kernel
theorem dX2_init_56 : decode cX2_init 56 = .ok (.dup, 1) := by decide +kernel
theorem dX2_init_57 : decode cX2_init 57 = .ok (.invokespecial 29, 3) := by decide +kernel
theorem dX2_init_60 : decode cX2_init 60 = .ok (.putfield 37, 3) := by decide +kernel
theorem dX2_init_63 : decode cX2_init 63 = .ok (.aload_n 0, 1) := by decide +kernel
theorem dX2_init_64 : decode cX2_init 64 = .ok (.iconst 0, 1) := by decide +kernel
theorem dX2_init_65 : decode cX2_init 65 = .ok (.putfield 40, 3) := by decide +kernel
theorem dX2_init_68 : decode cX2_init 68 = .ok (.aload_n 0, 1) := by decide +kernel
theorem dX2_init_69 : decode cX2_init 69 = .ok (.iconst 0, 1) := by decide +kernel
theorem dX2_init_70 : decode cX2_init 70 = .ok (.putfield 44, 3) := by decide +kernel
theorem dX2_init_73 : decode cX2_init 73 = .ok (.aload_n 0, 1) := by decide +kernel
theorem dX2_init_74 : decode cX2_init 74 = .ok (.iconst 0, 1) := by decide +kernel
theorem dX2_init_75 : decode cX2_init 75 = .ok (.putfield 47, 3) := by decide +kernel
theorem dX2_init_78 : decode cX2_init 78 = .ok (.return_, 1) := by decide +kernel
theorem dX2_accept_0 : decode cX2_accept 0 = .ok (.aload_n 0, 1) := by decide +kernel
theorem dX2_accept_1 : decode cX2_accept 1 = .ok (.dup, 1) := by decide +kernel
theorem dX2_accept_2 : decode cX2_accept 2 = .ok (.getfield 40, 3) := by decide +kernel
theorem dX2_accept_5 : decode cX2_accept 5 = .ok (.iconst 1, 1) := by decide +kernel
theorem dX2_accept_6 : decode cX2_accept 6 = .ok (.iadd, 1) := by decide +kernel
theorem dX2_accept_7 : decode cX2_accept 7 = .ok (.putfield 40, 3) := by decide +kernel
theorem dX2_accept_10 : decode cX2_accept 10 = .ok (.aload_n 0, 1) := by decide +kernel
theorem dX2_accept_11 : decode cX2_accept 11 = .ok (.iload_n 1, 1) := by decide +kernel
theorem dX2_accept_12 : decode cX2_accept 12 = .ok (.iload_n 2, 1) := by decide +kernel
theorem dX2_accept_13 : decode cX2_accept 13 = .ok (.invokevirtual 50, 3) := by decide +kernel
theorem dX2_accept_16 : decode cX2_accept 16 = .ok (.aload_n 0, 1) := by decide +kernel
theorem dX2_accept_17 : decode cX2_accept 17 = .ok (.aload_n 0, 1) := by decide +kernel
theorem dX2_accept_18 : decode cX2_accept 18 = .ok (.getfield 47, 3) := by decide +kernel
theorem dX2_accept_21 : decode cX2_accept 21 = .ok (.aload_n 0, 1) := by decide +kernel
theorem dX2_accept_22 : decode cX2_accept 22 = .ok (.getfield 34, 3) := by decide +kernel
theorem dX2_accept_25 : decode cX2_accept 25 = .ok (.getfield 54, 3) := by decide +kernel
theorem dX2_accept_28 : decode cX2_accept 28 = .ok (.invokestatic 57, 3) := by decide +kernel
theorem dX2_accept_31 : decode cX2_accept 31 = .ok (.putfield 47, 3) := by decide +kernel
theorem dX2_accept_34 : decode cX2_accept 34 = .ok (.aload_n 0, 1) := by decide +kernel
theorem dX2_accept_35 : decode cX2_accept 35 = .ok (.getfield 23, 3) := by decide +kernel
theorem dX2_accept_38 : decode cX2_accept 38 = .ok (.iload_n 1, 1) := by decide +kernel
theorem dX2_accept_39 : decode cX2_accept 39 = .ok (.invokevirtual 63, 3) := by decide +kernel
theorem dX2_accept_42 : decode cX2_accept 42 = .ok (.ifCond .ne 15, 3) := by decide +kernel
theorem dX2_accept_45 : decode cX2_accept 45 = .ok (.aload_n 0, 1) := by decide +kernel
theorem dX2_accept_46 : decode cX2_accept 46 = .ok (.dup, 1) := by decide +kernel
theorem dX2_accept_47 : decode cX2_accept 47 = .ok (.getfield 44, 3) := by decide +kernel
theorem dX2_accept_50 : decode cX2_accept 50 = .ok (.iconst 1, 1) := by decide +kernel
theorem dX2_accept_51 : decode cX2_accept 51 = .ok (.iadd, 1) := by decide +kernel
theorem dX2_accept_52 : decode cX2_accept 52 = .ok (.putfield 44, 3) := by decide +kernel
theorem dX2_accept_55 : decode cX2_accept 55 = .ok (.iconst 0, 1) := by decide +kernel
theorem dX2_accept_56 : decode cX2_accept 56 = .ok (.ireturn, 1) := by decide +kernel
theorem dX2_accept_57 : decode cX2_accept 57 = .ok (.aload_n 0, 1) := by decide +kernel
theorem dX2_accept_58 : decode cX2_accept 58 = .ok (.getfield 14, 3) := by decide +kernel
theorem dX2_accept_61 : decode cX2_accept 61 = .ok (.iload_n 1, 1) := by decide +kernel
theorem dX2_accept_62 : decode cX2_accept 62 = .ok (.invokevirtual 67, 3) := by decide +kernel
theorem dX2_accept_65 : decode cX2_accept 65 = .ok (.aload_n 0, 1) := by decide +kernel
theorem dX2_accept_66 : decode cX2_accept 66 = .ok (.iload_n 2, 1) := by decide +kernel
theorem dX2_accept_67 : decode cX2_accept 67 = .ok (.invokevirtual 70, 3) := by decide +kernel
theorem dX2_accept_70 : decode cX2_accept 70 = .ok (.iconst 1, 1) := by decide +kernel
theorem dX2_accept_71 : decode cX2_accept 71 = .ok (.ireturn, 1) := by decide +kernel
theorem dX2_peel_0 : decode cX2_peel 0 = .ok (.aload_n 0, 1) := by decide +kernel
theorem dX2_peel_1 : decode cX2_peel 1 = .ok (.getfield 37, 3) := by decide +kernel
theorem dX2_peel_4 : decode cX2_peel 4 = .ok (.iload_n 1, 1) := by decide +kernel
theorem dX2_peel_5 : decode cX2_peel 5 = .ok (.invokevirtual 73, 3) := by decide +kernel
theorem dX2_peel_8 : decode cX2_peel 8 = .ok (.istore_n 3, 1) := by decide +kernel
theorem dX2_peel_9 : decode cX2_peel 9 = .ok (.iload_n 3, 1) := by decide +kernel
theorem dX2_peel_10 : decode cX2_peel 10 = .ok (.invokestatic 77, 3) := by decide +kernel
theorem dX2_peel_13 : decode cX2_peel 13 = .ok (.iconst 1, 1) := by decide +kernel
theorem dX2_peel_14 : decode cX2_peel 14 = .ok (.if_icmp .le 21, 3) := by decide +kernel
theorem dX2_peel_17 : decode cX2_peel 17 = .ok (.aload_n 0, 1) := by decide +kernel
theorem dX2_peel_18 : decode cX2_peel 18 = .ok (.getfield 34, 3) := by decide +kernel
theorem dX2_peel_21 : decode cX2_peel 21 = .ok (.bipush 19, 2) := by decide +kernel
theorem dX2_peel_23 : decode cX2_peel 23 = .ok (.invokevirtual 80, 3) := by decide +kernel
theorem dX2_peel_26 : decode cX2_peel 26 = .ok (.aload_n 0, 1) := by decide +kernel
theorem dX2_peel_27 : decode cX2_peel 27 = .ok (.getfield 34, 3) := by decide +kernel
theorem dX2_peel_30 : decode cX2_peel 30 = .ok (.iload_n 3, 1) := by decide +kernel
theorem dX2_peel_31 : decode cX2_peel 31 = .ok (.invokevirtual 67, 3) := by decide +kernel
theorem dX2_peel_34 : decode cX2_peel 34 = .ok (.return_, 1) := by decide +kernel
theorem dX2_peel_35 : decode cX2_peel 35 = .ok (.iconst 0, 1) := by decide +kernel
theorem dX2_peel_36 : decode cX2_peel 36 = .ok (.istore 4, 2) := by decide +kernel
theorem dX2_peel_38 : decode cX2_peel 38 = .ok (.iload 4, 2) := by decide +kernel
theorem dX2_peel_40 : decode cX2_peel 40 = .ok (.bipush 12, 2) := by decide +kernel
theorem dX2_peel_42 : decode cX2_peel 42 = .ok (.if_icmp .ge 41, 3) := by decide +kernel
theorem dX2_peel_45 : decode cX2_peel 45 = .ok (.iload_n 3, 1) := by decide +kernel
theorem dX2_peel_46 : decode cX2_peel 46 = .ok (.invokestatic 83, 3) := by decide +kernel
theorem dX2_peel_49 : decode cX2_peel 49 = .ok (.ifCond .eq 34, 3) := by decide +kernel
theorem dX2_peel_52 : decode cX2_peel 52 = .ok (.aload_n 0, 1) := by decide +kernel
theorem dX2_peel_53 : decode cX2_peel 53 = .ok (.getfield 37, 3) := by decide +kernel
theorem dX2_peel_56 : decode cX2_peel 56 = .ok (.iload_n 3, 1) := by decide +kernel
theorem dX2_peel_57 : decode cX2_peel 57 = .ok (.iload_n 2, 1) := by decide +kernel
theorem dX2_peel_58 : decode cX2_peel 58 = .ok (.invokevirtual 86, 3) := by decide +kernel
theorem dX2_peel_61 : decode cX2_peel 61 = .ok (.aload_n 0, 1) := by decide +kernel
theorem dX2_peel_62 : decode cX2_peel 62 = .ok (.getfield 34, 3) := by decide +kernel
theorem dX2_peel_65 : decode cX2_peel 65 = .ok (.iload_n 3, 1) := by decide +kernel
theorem dX2_peel_66 : decode cX2_peel 66 = .ok (.invokevirtual 89, 3) := by decide +kernel
theorem dX2_peel_69 : decode cX2_peel 69 = .ok (.aload_n 0, 1) := by decide +kernel
theorem dX2_peel_70 : decode cX2_peel 70 = .ok (.getfield 34, 3) := by decide +kernel
theorem dX2_peel_73 : decode cX2_peel 73 = .ok (.invokevirtual 92, 3) := by decide +kernel
theorem dX2_peel_76 : decode cX2_peel 76 = .ok (.istore_n 3, 1) := by decide +kernel
theorem dX2_peel_77 : decode cX2_peel 77 = .ok (.iinc 4 1, 3) := by decide +kernel
theorem dX2_peel_80 : decode cX2_peel 80 = .ok (.goto (-42), 3) := by decide +kernel
theorem dX2_peel_83 : decode cX2_peel 83 = .ok (.return_, 1) := by decide +kernel
theorem dX2_solve_0 : decode cX2_solve 0 = .ok (.iconst 0, 1) := by decide +kernel
theorem dX2_solve_1 : decode cX2_solve 1 = .ok (.istore_n 2, 1) := by decide +kernel
theorem dX2_solve_2 : decode cX2_solve 2 = .ok (.iload_n 2, 1) := by decide +kernel
theorem dX2_solve_3 : decode cX2_solve 3 = .ok (.bipush 12, 2) := by decide +kernel
theorem dX2_solve_5 : decode cX2_solve 5 = .ok (.if_icmp .ge 45, 3) := by decide +kernel
theorem dX2_solve_8 : decode cX2_solve 8 = .ok (.aload_n 0, 1) := by decide +kernel
theorem dX2_solve_9 : decode cX2_solve 9 = .ok (.getfield 23, 3) := by decide +kernel
theorem dX2_solve_12 : decode cX2_solve 12 = .ok (.iload_n 2, 1) := by decide +kernel
theorem dX2_solve_13 : decode cX2_solve 13 = .ok (.iconst 0, 1) := by decide +kernel
theorem dX2_solve_14 : decode cX2_solve 14 = .ok (.invokestatic 96, 3) := by decide +kernel
theorem dX2_solve_17 : decode cX2_solve 17 = .ok (.invokevirtual 99, 3) := by decide +kernel
theorem dX2_solve_20 : decode cX2_solve 20 = .ok (.istore_n 3, 1) := by decide +kernel
theorem dX2_solve_21 : decode cX2_solve 21 = .ok (.iload_n 3, 1) := by decide +kernel
theorem dX2_solve_22 : decode cX2_solve 22 = .ok (.invokestatic 83, 3) := by decide +kernel
theorem dX2_solve_25 : decode cX2_solve 25 = .ok (.ifCond .ne 19, 3) := by decide +kernel
theorem dX2_solve_28 : decode cX2_solve 28 = .ok (.aload_n 0, 1) := by decide +kernel
theorem dX2_solve_29 : decode cX2_solve 29 = .ok (.getfield 30, 3) := by decide +kernel
theorem dX2_solve_32 : decode cX2_solve 32 = .ok (.iload_n 2, 1) := by decide +kernel
theorem dX2_solve_33 : decode cX2_solve 33 = .ok (.iload_n 3, 1) := by decide +kernel
theorem dX2_solve_34 : decode cX2_solve 34 = .ok (.invokestatic 102, 3) := by decide +kernel
theorem dX2_solve_37 : decode cX2_solve 37 = .ok (.invokestatic 96, 3) := by decide +kernel
theorem dX2_solve_40 : decode cX2_solve 40 = .ok (.iload_n 1, 1) := by decide +kernel
theorem dX2_solve_41 : decode cX2_solve 41 = .ok (.invokevirtual 86, 3) := by decide +kernel
theorem dX2_solve_44 : decode cX2_solve 44 = .ok (.iinc 2 1, 3) := by decide +kernel
theorem dX2_solve_47 : decode cX2_solve 47 = .ok (.goto (-45), 3) := by decide +kernel
theorem dX2_solve_50 : decode cX2_solve 50 = .ok (.return_, 1) := by decide +kernel
theorem dX2_clear_0 : decode cX2_clear 0 = .ok (.aload_n 0, 1) := by decide +kernel
theorem dX2_clear_1 : decode cX2_clear 1 = .ok (.getfield 14, 3) := by decide +kernel
theorem dX2_clear_4 : decode cX2_clear 4 = .ok (.invokevirtual 105, 3) := by decide +kernel
theorem dX2_clear_7 : decode cX2_clear 7 = .ok (.aload_n 0, 1) := by decide +kernel
theorem dX2_clear_8 : decode cX2_clear 8 = .ok (.getfield 23, 3) := by decide +kernel
theorem dX2_clear_11 : decode cX2_clear 11 = .ok (.invokevirtual 108, 3) := by decide +kernel
theorem dX2_clear_14 : decode cX2_clear 14 = .ok (.aload_n 0, 1) := by decide +kernel
theorem dX2_clear_15 : decode cX2_clear 15 = .ok (.getfield 30, 3) := by decide +kernel
theorem dX2_clear_18 : decode cX2_clear 18 = .ok (.invokevirtual 109, 3) := by decide +kernel
theorem dX2_clear_21 : decode cX2_clear 21 = .ok (.aload_n 0, 1) := by decide +kernel
theorem dX2_clear_22 : decode cX2_clear 22 = .ok (.getfield 34, 3) := by decide +kernel
theorem dX2_clear_25 : decode cX2_clear 25 = .ok (.invokevirtual 105, 3) := by decide +kernel
theorem dX2_clear_28 : decode cX2_clear 28 = .ok (.aload_n 0, 1) := by decide +kernel
theorem dX2_clear_29 : decode cX2_clear 29 = .ok (.getfield 37, 3) := by decide +kernel
theorem dX2_clear_32 : decode cX2_clear 32 = .ok (.invokevirtual 109, 3) := by decide +kernel
theorem dX2_clear_35 : decode cX2_clear 35 = .ok (.aload_n 0, 1) := by decide +kernel
theorem dX2_clear_36 : decode cX2_clear 36 = .ok (.iconst 0, 1) := by decide +kernel
theorem dX2_clear_37 : decode cX2_clear 37 = .ok (.putfield 40, 3) := by decide +kernel
theorem dX2_clear_40 : decode cX2_clear 40 = .ok (.aload_n 0, 1) := by decide +kernel
theorem dX2_clear_41 : decode cX2_clear 41 = .ok (.iconst 0, 1) := by decide +kernel
theorem dX2_clear_42 : decode cX2_clear 42 = .ok (.putfield 44, 3) := by decide +kernel
theorem dX2_clear_45 : decode cX2_clear 45 = .ok (.aload_n 0, 1) := by decide +kernel
theorem dX2_clear_46 : decode cX2_clear 46 = .ok (.iconst 0, 1) := by decide +kernel
theorem dX2_clear_47 : decode cX2_clear 47 = .ok (.putfield 47, 3) := by decide +kernel
theorem dX2_clear_50 : decode cX2_clear 50 = .ok (.return_, 1) := by decide +kernel
theorem dX2_copyFrom_0 : decode cX2_copyFrom 0 = .ok (.aload_n 0, 1) := by decide +kernel
theorem dX2_copyFrom_1 : decode cX2_copyFrom 1 = .ok (.getfield 14, 3) := by decide +kernel
theorem dX2_copyFrom_4 : decode cX2_copyFrom 4 = .ok (.aload_n 1, 1) := by decide +kernel
theorem dX2_copyFrom_5 : decode cX2_copyFrom 5 = .ok (.getfield 14, 3) := by decide +kernel
theorem dX2_copyFrom_8 : decode cX2_copyFrom 8 = .ok (.invokevirtual 110, 3) := by decide +kernel
theorem dX2_copyFrom_11 : decode cX2_copyFrom 11 = .ok (.aload_n 0, 1) := by decide +kernel
theorem dX2_copyFrom_12 : decode cX2_copyFrom 12 = .ok (.getfield 23, 3) := by decide +kernel
theorem dX2_copyFrom_15 : decode cX2_copyFrom 15 = .ok (.aload_n 1, 1) := by decide +kernel
theorem dX2_copyFrom_16 : decode cX2_copyFrom 16 = .ok (.getfield 23, 3) := by decide +kernel
theorem dX2_copyFrom_19 : decode cX2_copyFrom 19 = .ok (.invokevirtual 114, 3) := by decide +kernel
theorem dX2_copyFrom_22 : decode cX2_copyFrom 22 = .ok (.aload_n 0, 1) := by decide +kernel
theorem dX2_copyFrom_23 : decode cX2_copyFrom 23 = .ok (.getfield 30, 3) := by decide +kernel
theorem dX2_copyFrom_26 : decode cX2_copyFrom 26 = .ok (.aload_n 1, 1) := by decide +kernel
theorem dX2_copyFrom_27 : decode cX2_copyFrom 27 = .ok (.getfield 30, 3) := by decide +kernel
theorem dX2_copyFrom_30 : decode cX2_copyFrom 30 = .ok (.invokevirtual 117, 3) := by decide +kernel
theorem dX2_copyFrom_33 : decode cX2_copyFrom 33 = .ok (.aload_n 0, 1) := by decide +kernel
theorem dX2_copyFrom_34 : decode cX2_copyFrom 34 = .ok (.getfield 34, 3) := by decide +kernel
theorem dX2_copyFrom_37 : decode cX2_copyFrom 37 = .ok (.aload_n 1, 1) := by decide +kernel
theorem dX2_copyFrom_38 : decode cX2_copyFrom 38 = .ok (.getfield 34, 3) := by decide +kernel
theorem dX2_copyFrom_41 : decode cX2_copyFrom 41 = .ok (.invokevirtual 110, 3) := by decide +kernel
theorem dX2_copyFrom_44 : decode cX2_copyFrom 44 = .ok (.aload_n 0, 1) := by decide +kernel
theorem dX2_copyFrom_45 : decode cX2_copyFrom 45 = .ok (.getfield 37, 3) := by decide +kernel
theorem dX2_copyFrom_48 : decode cX2_copyFrom 48 = .ok (.aload_n 1, 1) := by decide +kernel
theorem dX2_copyFrom_49 : decode cX2_copyFrom 49 = .ok (.getfield 37, 3) := by decide +kernel
theorem dX2_copyFrom_52 : decode cX2_copyFrom 52 = .ok (.invokevirtual 117, 3) := by decide +kernel
theorem dX2_copyFrom_55 : decode cX2_copyFrom 55 = .ok (.aload_n 0, 1) := by decide +kernel
theorem dX2_copyFrom_56 : decode cX2_copyFrom 56 = .ok (.aload_n 1, 1) := by decide +kernel
theorem dX2_copyFrom_57 : decode cX2_copyFrom 57 = .ok (.getfield 40, 3) := by decide +kernel
theorem dX2_copyFrom_60 : decode cX2_copyFrom 60 = .ok (.putfield 40, 3) := by decide +kernel
theorem dX2_copyFrom_63 : decode cX2_copyFrom 63 = .ok (.aload_n 0, 1) := by decide +kernel
theorem dX2_copyFrom_64 : decode cX2_copyFrom 64 = .ok (.aload_n 1, 1) := by decide +kernel
theorem dX2_copyFrom_65 : decode cX2_copyFrom 65 = .ok (.getfield 44, 3) := by decide +kernel
theorem dX2_copyFrom_68 : decode cX2_copyFrom 68 = .ok (.putfield 44, 3) := by decide +kernel
theorem dX2_copyFrom_71 : decode cX2_copyFrom 71 = .ok (.aload_n 0, 1) := by decide +kernel
theorem dX2_copyFrom_72 : decode cX2_copyFrom 72 = .ok (.aload_n 1, 1) := by decide +kernel
theorem dX2_copyFrom_73 : decode cX2_copyFrom 73 = .ok (.getfield 47, 3) := by decide +kernel
theorem dX2_copyFrom_76 : decode cX2_copyFrom 76 = .ok (.putfield 47, 3) := by decide +kernel
theorem dX2_copyFrom_79 : decode cX2_copyFrom 79 = .ok (.return_, 1) := by decide +kernel
end
section
theorem dX3_init_0 : decode cX3_init 0 = .ok (.aload_n 0, 1) := by decide +kernel
theorem dX3_init_1 : decode cX3_init 1 = .ok (.invokespecial 3, 3) := by decide +kernel
theorem dX3_init_4 : decode cX3_init 4 = .ok (.aload_n 0, 1) := by decide +kernel
theorem dX3_init_5 : decode cX3_init 5 = .ok (.bipush 12, 2) := by decide +kernel
theorem dX3_init_7 : decode cX3_init 7 = .ok (.newarray .int, 2) := by decide +kernel
theorem dX3_init_9 : decode cX3_init 9 = .ok (.putfield 9, 3) := by decide +kernel
theorem dX3_init_12 : decode cX3_init 12 = .ok (.aload_n 0, 1) := by decide +kernel
theorem dX3_init_13 : decode cX3_init 13 = .ok (.iconst 4, 1) := by decide +kernel
theorem dX3_init_14 : decode cX3_init 14 = .ok (.newarray .int, 2) := by decide +kernel
theorem dX3_init_16 : decode cX3_init 16 = .ok (.putfield 15, 3) := by decide +kernel
theorem dX3_init_19 : decode cX3_init 19 = .ok (.aload_n 0, 1) := by decide +kernel
theorem dX3_init_20 : decode cX3_init 20 = .ok (.bipush 7, 2) := by decide +kernel
theorem dX3_init_22 : decode cX3_init 22 = .ok (.newarray .int, 2) := by decide +kernel
theorem dX3_init_24 : decode cX3_init 24 = .ok (.putfield 18, 3) := by decide +kernel
theorem dX3_init_27 : decode cX3_init 27 = .ok (.aload_n 0, 1) := by decide +kernel
theorem dX3_init_28 : decode cX3_init 28 = .ok (.iconst 4, 1) := by decide +kernel
theorem dX3_init_29 : decode cX3_init 29 = .ok (.putfield 21, 3) := by decide +kernel
theorem dX3_init_32 : decode cX3_init 32 = .ok (.aload_n 0, 1) := by decide +kernel
theorem dX3_init_33 : decode cX3_init 33 = .ok (.iconst 1, 1) := by decide +kernel
theorem dX3_init_34 : decode cX3_init 34 = .ok (.putfield 25, 3) := by decide +kernel
theorem dX3_init_37 : decode cX3_init 37 = .ok (.aload_n 0, 1) := by decide +kernel
theorem dX3_init_38 : decode cX3_init 38 = .ok (.iconst 2, 1) := by decide +kernel
theorem dX3_init_39 : decode cX3_init 39 = .ok (.putfield 28, 3) := by decide +kernel
theorem dX3_init_42 : decode cX3_init 42 = .ok (.aload_n 0, 1) := by decide +kernel
theorem dX3_init_43 : decode cX3_init 43 = .ok (.iconst 0, 1) := by decide +kernel
theorem dX3_init_44 : decode cX3_init 44 = .ok (.putfield 31, 3) := by decide +kernel
theorem dX3_init_47 : decode cX3_init 47 = .ok (.aload_n 0, 1) := by decide +kernel
theorem dX3_init_48 : decode cX3_init 48 = .ok (.iconst 0, 1) := by decide +kernel
theorem dX3_init_49 : decode cX3_init 49 = .ok (.putfield 34, 3) := by decide +kernel
theorem dX3_init_52 : decode cX3_init 52 = .ok (.aload_n 0, 1) := by decide +kernel
theorem dX3_init_53 : decode cX3_init 53 = .ok (.iconst 1, 1) := by decide +kernel
theorem dX3_init_54 : decode cX3_init 54 = .ok (.putfield 37, 3) := by decide +kernel
theorem dX3_init_57 : decode cX3_init 57 = .ok (.getstatic 40, 3) := by decide +kernel
theorem dX3_init_60 : decode cX3_init 60 = .ok (.aload_n 0, 1) := by decide +kernel
theorem dX3_init_61 : decode cX3_init 61 = .ok (.getfield 18, 3) := by decide +kernel
theorem dX3_init_64 : decode cX3_init 64 = .ok (.invokestatic 43, 3) := by decide +kernel
theorem dX3_init_67 : decode cX3_init 67 = .ok (.aload_n 0, 1) := by decide +kernel
theorem dX3_init_68 : decode cX3_init 68 = .ok (.invokevirtual 47, 3) := by decide +kernel
theorem dX3_init_71 : decode cX3_init 71 = .ok (.return_, 1) := by decide +kernel
theorem dX3_giveFirstValues_0 : decode cX3_giveFirstValues 0 = .ok (.iconst 0, 1) := by decide +kernel
theorem dX3_giveFirstValues_1 : decode cX3_giveFirstValues 1 = .ok (.istore_n 1, 1) := by decide +kernel
theorem dX3_giveFirstValues_2 : decode cX3_giveFirstValues 2 = .ok (.iload_n 1, 1) := by decide +kernel
theorem dX3_giveFirstValues_3 : decode cX3_giveFirstValues 3 = .ok (.aload_n 0, 1) := by decide +kernel
theorem dX3_giveFirstValues_4 : decode cX3_giveFirstValues 4 = .ok (.getfield 9, 3) := by decide +kernel
theorem dX3_giveFirstValues_7 : decode cX3_giveFirstValues 7 = .ok (.arraylength, 1) := by decide +kernel
theorem dX3_giveFirstValues_8 : decode cX3_giveFirstValues 8 = .ok (.if_icmp .ge 22, 3) := by decide +kernel
theorem dX3_giveFirstValues_11 : decode cX3_giveFirstValues 11 = .ok (.aload_n 0, 1) := by decide +kernel
theorem dX3_giveFirstValues_12 : decode cX3_giveFirstValues 12 = .ok (.getfield 9, 3) := by decide +kernel
theorem dX3_giveFirstValues_15 : decode cX3_giveFirstValues 15 = .ok (.iload_n 1, 1) := by decide +kernel
theorem dX3_giveFirstValues_16 : decode cX3_giveFirstValues 16 = .ok (.bipush 10, 2) := by decide +kernel
theorem dX3_giveFirstValues_18 : decode cX3_giveFirstValues 18 = .ok (.iload_n 1, 1) := by decide +kernel
theorem dX3_giveFirstValues_19 : decode cX3_giveFirstValues 19 = .ok (.imul, 1) := by decide +kernel
theorem dX3_giveFirstValues_20 : decode cX3_giveFirstValues 20 = .ok (.bipush 7, 2) := by decide +kernel
theorem dX3_giveFirstValues_22 : decode cX3_giveFirstValues 22 = .ok (.iadd, 1) := by decide +kernel
theorem dX3_giveFirstValues_23 : decode cX3_giveFirstValues 23 = .ok (.iastore, 1) := by decide +kernel
theorem dX3_giveFirstValues_24 : decode cX3_giveFirstValues 24 = .ok (.iinc 1 1, 3) := by decide +kernel
theorem dX3_giveFirstValues_27 : decode cX3_giveFirstValues 27 = .ok (.goto (-25), 3) := by decide +kernel
theorem dX3_giveFirstValues_30 : decode cX3_giveFirstValues 30 = .ok (.return_, 1) := by decide +kernel
theorem dX3_restart_0 : decode cX3_restart 0 = .ok (.iconst 0, 1) := by decide +kernel
theorem dX3_restart_1 : decode cX3_restart 1 = .ok (.istore_n 3, 1) := by decide +kernel
theorem dX3_restart_2 : decode cX3_restart 2 = .ok (.iload_n 3, 1) := by decide +kernel
theorem dX3_restart_3 : decode cX3_restart 3 = .ok (.aload_n 0, 1) := by decide +kernel
theorem dX3_restart_4 : decode cX3_restart 4 = .ok (.getfield 15, 3) := by decide +kernel
theorem dX3_restart_7 : decode cX3_restart 7 = .ok (.arraylength, 1) := by decide +kernel
theorem dX3_restart_8 : decode cX3_restart 8 = .ok (.if_icmp .ge 24, 3) := by decide +kernel
theorem dX3_restart_11 : decode cX3_restart 11 = .ok (.iload_n 3, 1) := by decide +kernel
theorem dX3_restart_12 : decode cX3_restart 12 = .ok (.aload_n 0, 1) := by decide +kernel
theorem dX3_restart_13 : decode cX3_restart 13 = .ok (.getfield 25, 3) := by decide +kernel
theorem dX3_restart_16 : decode cX3_restart 16 = .ok (.if_icmp .le 10, 3) := by decide +kernel
theorem dX3_restart_19 : decode cX3_restart 19 = .ok (.aload_n 0, 1) := by decide +kernel
theorem dX3_restart_20 : decode cX3_restart 20 = .ok (.getfield 15, 3) := by decide +kernel
theorem dX3_restart_23 : decode cX3_restart 23 = .ok (.iload_n 3, 1) := by decide +kernel
theorem dX3_restart_24 : decode cX3_restart 24 = .ok (.iconst 0, 1) := by decide +kernel
theorem dX3_restart_25 : decode cX3_restart 25 = .ok (.iastore, 1) := by decide +kernel
theorem dX3_restart_26 : decode cX3_restart 26 = .ok (.iinc 3 1, 3) := by decide +kernel
theorem dX3_restart_29 : decode cX3_restart 29 = .ok (.goto (-27), 3) := by decide +kernel
theorem dX3_restart_32 : decode cX3_restart 32 = .ok (.aload_n 0, 1) := by decide +kernel
theorem dX3_restart_33 : decode cX3_restart 33 = .ok (.iload_n 1, 1) := by decide +kernel
theorem dX3_restart_34 : decode cX3_restart 34 = .ok (.putfield 21, 3) := by decide +kernel
theorem dX3_restart_37 : decode cX3_restart 37 = .ok (.aload_n 0, 1) := by decide +kernel
theorem dX3_restart_38 : decode cX3_restart 38 = .ok (.iload_n 2, 1) := by decide +kernel
theorem dX3_restart_39 : decode cX3_restart 39 = .ok (.putfield 25, 3) := by decide +kernel
theorem dX3_restart_42 : decode cX3_restart 42 = .ok (.aload_n 0, 1) := by decide +kernel
theorem dX3_restart_43 : decode cX3_restart 43 = .ok (.invokevirtual 47, 3) := by decide +kernel
theorem dX3_restart_46 : decode cX3_restart 46 = .ok (.return_, 1) := by decide +kernel
theorem dX3_changePolicy_0 : decode cX3_changePolicy 0 = .ok (.aload_n 0, 1) := by decide +kernel
theorem dX3_changePolicy_1 : decode cX3_changePolicy 1 = .ok (.getfield 31, 3) := by decide +kernel
theorem dX3_changePolicy_4 : decode cX3_changePolicy 4 = .ok (.istore_n 2, 1) := by decide +kernel
theorem dX3_changePolicy_5 : decode cX3_changePolicy 5 = .ok (.aload_n 0, 1) := by decide +kernel
theorem dX3_changePolicy_6 : decode cX3_changePolicy 6 = .ok (.iload_n 1, 1) := by decide +kernel
theorem dX3_changePolicy_7 : decode cX3_changePolicy 7 = .ok (.putfield 31, 3) := by decide +kernel
theorem dX3_changePolicy_10 : decode cX3_changePolicy 10 = .ok (.iload_n 2, 1) := by decide +kernel
theorem dX3_changePolicy_11 : decode cX3_changePolicy 11 = .ok (.ireturn, 1) := by decide +kernel
theorem dX3_changeStyle_0 : decode cX3_changeStyle 0 = .ok (.aload_n 0, 1) := by decide +kernel
theorem dX3_changeStyle_1 : decode cX3_changeStyle 1 = .ok (.getfield 34, 3) := by decide +kernel
theorem dX3_changeStyle_4 : decode cX3_changeStyle 4 = .ok (.istore_n 2, 1) := by decide +kernel
theorem dX3_changeStyle_5 : decode cX3_changeStyle 5 = .ok (.aload_n 0, 1) := by decide +kernel
theorem dX3_changeStyle_6 : decode cX3_changeStyle 6 = .ok (.iload_n 1, 1) := by decide +kernel
theorem dX3_changeStyle_7 : decode cX3_changeStyle 7 = .ok (.putfield 34, 3) := by decide +kernel
theorem dX3_changeStyle_10 : decode cX3_changeStyle 10 = .ok (.iload_n 2, 1) := by decide +kernel
theorem dX3_changeStyle_11 : decode cX3_changeStyle 11 = .ok (.ireturn, 1) := by decide +kernel
theorem dX3_changeSeed_0 : decode cX3_changeSeed 0 = .ok (.aload_n 0, 1) := by decide +kernel
theorem dX3_changeSeed_1 : decode cX3_changeSeed 1 = .ok (.getfield 37, 3) := by decide +kernel
theorem dX3_changeSeed_4 : decode cX3_changeSeed 4 = .ok (.istore_n 2, 1) := by decide +kernel
theorem dX3_changeSeed_5 : decode cX3_changeSeed 5 = .ok (.aload_n 0, 1) := by decide +kernel
theorem dX3_changeSeed_6 : decode cX3_changeSeed 6 = .ok (.iload_n 1, 1) := by decide +kernel
theorem dX3_changeSeed_7 : decode cX3_changeSeed 7 = .ok (.putfield 37, 3) := by decide +kernel
theorem dX3_changeSeed_10 : decode cX3_changeSeed 10 = .ok (.iload_n 2, 1) := by decide +kernel
theorem dX3_changeSeed_11 : decode cX3_changeSeed 11 = .ok (.ireturn, 1) := by decide +kernel
theorem dX3_draw_0 : decode cX3_draw 0 = .ok (.aload_n 0, 1) := by decide +kernel
theorem dX3_draw_1 : decode cX3_draw 1 = .ok (.ldc2_w 50, 3) := by decide +kernel
theorem dX3_draw_4 : decode cX3_draw 4 = .ok (.aload_n 0, 1) := by decide +kernel
theorem dX3_draw_5 : decode cX3_draw 5 = .ok (.getfield 37, 3) := by decide +kernel
theorem dX3_draw_8 : decode cX3_draw 8 = .ok (.i2l, 1) := by decide +kernel
theorem dX3_draw_9 : decode cX3_draw 9 = .ok (.lmul, 1) := by decide +kernel
theorem dX3_draw_10 : decode cX3_draw 10 = .ok (.ldc2_w 52, 3) := by decide +kernel
theorem dX3_draw_13 : decode cX3_draw 13 = .ok (.ladd, 1) := by decide +kernel
theorem dX3_draw_14 : decode cX3_draw 14 = .ok (.ldc2_w 54, 3) := by decide +kernel
theorem dX3_draw_17 : decode cX3_draw 17 = .ok (.lrem, 1) := by decide +kernel
theorem dX3_draw_18 : decode cX3_draw 18 = .ok (.l2i, 1) := by decide +kernel
theorem dX3_draw_19 : decode cX3_draw 19 = .ok (.putfield 37, 3) := by decide +kernel
theorem dX3_draw_22 : decode cX3_draw 22 = .ok (.iload_n 1, 1) := by decide +kernel
theorem dX3_draw_23 : decode cX3_draw 23 = .ok (.ifCond .le 15, 3) := by decide +kernel
theorem dX3_draw_26 : decode cX3_draw 26 = .ok (.aload_n 0, 1) := by decide +kernel
theorem dX3_draw_27 : decode cX3_draw 27 = .ok (.getfield 37, 3) := by decide +kernel
theorem dX3_draw_30 : decode cX3_draw 30 = .ok (.ldc 56, 2) := by decide +kernel
theorem dX3_draw_32 : decode cX3_draw 32 = .ok (.idiv, 1) := by decide +kernel
theorem dX3_draw_33 : decode cX3_draw 33 = .ok (.iload_n 1, 1) := by decide +kernel
theorem dX3_draw_34 : decode cX3_draw 34 = .ok (.irem, 1) := by decide +kernel
theorem dX3_draw_35 : decode cX3_draw 35 = .ok (.goto 4, 3) := by decide +kernel
theorem dX3_draw_38 : decode cX3_draw 38 = .ok (.iconst 0, 1) := by decide +kernel
theorem dX3_draw_39 : decode cX3_draw 39 = .ok (.ireturn, 1) := by decide +kernel
theorem dX3_isLostOn_0 : decode cX3_isLostOn 0 = .ok (.aload_n 0, 1) := by decide +kernel
theorem dX3_isLostOn_1 : decode cX3_isLostOn 1 = .ok (.bipush 100, 2) := by decide +kernel
theorem dX3_isLostOn_3 : decode cX3_isLostOn 3 = .ok (.invokevirtual 57, 3) := by decide +kernel
theorem dX3_isLostOn_6 : decode cX3_isLostOn 6 = .ok (.istore_n 2, 1) := by decide +kernel
theorem dX3_isLostOn_7 : decode cX3_isLostOn 7 = .ok (.iload_n 1, 1) := by decide +kernel
theorem dX3_isLostOn_8 : decode cX3_isLostOn 8 = .ok (.ifCond .lt 26, 3) := by decide +kernel
theorem dX3_isLostOn_11 : decode cX3_isLostOn 11 = .ok (.iload_n 1, 1) := by decide +kernel
theorem dX3_isLostOn_12 : decode cX3_isLostOn 12 = .ok (.aload_n 0, 1) := by decide +kernel
theorem dX3_isLostOn_13 : decode cX3_isLostOn 13 = .ok (.getfield 15, 3) := by decide +kernel
theorem dX3_isLostOn_16 : decode cX3_isLostOn 16 = .ok (.arraylength, 1) := by decide +kernel
theorem dX3_isLostOn_17 : decode cX3_isLostOn 17 = .ok (.if_icmp .ge 17, 3) := by decide +kernel
theorem dX3_isLostOn_20 : decode cX3_isLostOn 20 = .ok (.iload_n 2, 1) := by decide +kernel
theorem dX3_isLostOn_21 : decode cX3_isLostOn 21 = .ok (.aload_n 0, 1) := by decide +kernel
theorem dX3_isLostOn_22 : decode cX3_isLostOn 22 = .ok (.getfield 15, 3) := by decide +kernel
theorem dX3_isLostOn_25 : decode cX3_isLostOn 25 = .ok (.iload_n 1, 1) := by decide +kernel
theorem dX3_isLostOn_26 : decode cX3_isLostOn 26 = .ok (.iaload, 1) := by decide +kernel
theorem dX3_isLostOn_27 : decode cX3_isLostOn 27 = .ok (.if_icmp .ge 7, 3) := by decide +kernel
theorem dX3_isLostOn_30 : decode cX3_isLostOn 30 = .ok (.iconst 1, 1) := by decide +kernel
theorem dX3_isLostOn_31 : decode cX3_isLostOn 31 = .ok (.goto 4, 3) := by decide +kernel
theorem dX3_isLostOn_34 : decode cX3_isLostOn 34 = .ok (.iconst 0, 1) := by decide +kernel
theorem dX3_isLostOn_35 : decode cX3_isLostOn 35 = .ok (.ireturn, 1) := by decide +kernel
theorem dX3_weightSum_0 : decode cX3_weightSum 0 = .ok (.iconst 0, 1) := by decide +kernel
theorem dX3_weightSum_1 : decode cX3_weightSum 1 = .ok (.istore_n 1, 1) := by decide +kernel
theorem dX3_weightSum_2 : decode cX3_weightSum 2 = .ok (.iconst 1, 1) := by decide +kernel
theorem dX3_weightSum_3 : decode cX3_weightSum 3 = .ok (.istore_n 2, 1) := by decide +kernel
theorem dX3_weightSum_4 : decode cX3_weightSum 4 = .ok (.iload_n 2, 1) := by decide +kernel
theorem dX3_weightSum_5 : decode cX3_weightSum 5 = .ok (.aload_n 0, 1) := by decide +kernel
theorem dX3_weightSum_6 : decode cX3_weightSum 6 = .ok (.getfield 18, 3) := by decide +kernel
theorem dX3_weightSum_9 : decode cX3_weightSum 9 = .ok (.arraylength, 1) := by decide +kernel
theorem dX3_weightSum_10 : decode cX3_weightSum 10 = .ok (.if_icmp .ge 18, 3) := by decide +kernel
theorem dX3_weightSum_13 : decode cX3_weightSum 13 = .ok (.iload_n 1, 1) := by decide +kernel
theorem dX3_weightSum_14 : decode cX3_weightSum 14 = .ok (.aload_n 0, 1) := by decide +kernel
theorem dX3_weightSum_15 : decode cX3_weightSum 15 = .ok (.getfield 18, 3) := by decide +kernel
theorem dX3_weightSum_18 : decode cX3_weightSum 18 = .ok (.iload_n 2, 1) := by decide +kernel
theorem dX3_weightSum_19 : decode cX3_weightSum 19 = .ok (.iaload, 1) := by decide +kernel
theorem dX3_weightSum_20 : decode cX3_weightSum 20 = .ok (.iadd, 1) := by decide +kernel
theorem dX3_weightSum_21 : decode cX3_weightSum 21 = .ok (.istore_n 1, 1) := by decide +kernel
theorem dX3_weightSum_22 : decode cX3_weightSum 22 = .ok (.iinc 2 1, 3) := by decide +kernel
theorem dX3_weightSum_25 : decode cX3_weightSum 25 = .ok (.goto (-21), 3) := by decide +kernel
theorem dX3_weightSum_28 : decode cX3_weightSum 28 = .ok (.iload_n 1, 1) := by decide +kernel
theorem dX3_weightSum_29 : decode cX3_weightSum 29 = .ok (.ireturn, 1) := by decide +kernel
theorem dX3_drawDegree_0 : decode cX3_drawDegree 0 = .ok (.aload_n 0, 1) := by decide +kernel
theorem dX3_drawDegree_1 : decode cX3_drawDegree 1 = .ok (.aload_n 0, 1) := by decide +kernel
theorem dX3_drawDegree_2 : decode cX3_drawDegree 2 = .ok (.invokevirtual 61, 3) := by decide +kernel
theorem dX3_drawDegree_5 : decode cX3_drawDegree 5 = .ok (.invokevirtual 57, 3) := by decide +kernel
theorem dX3_drawDegree_8 : decode cX3_drawDegree 8 = .ok (.istore_n 1, 1) := by decide +kernel
theorem dX3_drawDegree_9 : decode cX3_drawDegree 9 = .ok (.iconst 0, 1) := by decide +kernel
theorem dX3_drawDegree_10 : decode cX3_drawDegree 10 = .ok (.istore_n 2, 1) := by decide +kernel
theorem dX3_drawDegree_11 : decode cX3_drawDegree 11 = .ok (.iconst 1, 1) := by decide +kernel
theorem dX3_drawDegree_12 : decode cX3_drawDegree 12 = .ok (.istore_n 3, 1) := by decide +kernel
theorem dX3_drawDegree_13 : decode cX3_drawDegree 13 = .ok (.iload_n 3, 1) := by decide +kernel
theorem dX3_drawDegree_14 : decode cX3_drawDegree 14 = .ok (.aload_n 0, 1) := by decide +kernel
theorem dX3_drawDegree_15 : decode cX3_drawDegree 15 = .ok (.getfield 18, 3) := by decide +kernel
theorem dX3_drawDegree_18 : decode cX3_drawDegree 18 = .ok (.arraylength, 1) := by decide +kernel
theorem dX3_drawDegree_19 : decode cX3_drawDegree 19 = .ok (.if_icmp .ge 32, 3) := by decide +kernel
theorem dX3_drawDegree_22 : decode cX3_drawDegree 22 = .ok (.iload_n 2, 1) := by decide +kernel
theorem dX3_drawDegree_23 : decode cX3_drawDegree 23 = .ok (.aload_n 0, 1) := by decide +kernel
theorem dX3_drawDegree_24 : decode cX3_drawDegree 24 = .ok (.getfield 18, 3) := by decide +kernel
theorem dX3_drawDegree_27 : decode cX3_drawDegree 27 = .ok (.iload_n 3, 1) := by decide +kernel
theorem dX3_drawDegree_28 : decode cX3_drawDegree 28 = .ok (.iaload, 1) := by decide +kernel
theorem dX3_drawDegree_29 : decode cX3_drawDegree 29 = .ok (.iadd, 1) := by decide +kernel
theorem dX3_drawDegree_30 : decode cX3_drawDegree 30 = .ok (.istore_n 2, 1) := by decide +kernel
theorem dX3_drawDegree_31 : decode cX3_drawDegree 31 = .ok (.iload_n 2, 1) := by decide +kernel
theorem dX3_drawDegree_32 : decode cX3_drawDegree 32 = .ok (.iload_n 1, 1) := by decide +kernel
theorem dX3_drawDegree_33 : decode cX3_drawDegree 33 = .ok (.if_icmp .le 12, 3) := by decide +kernel
theorem dX3_drawDegree_36 : decode cX3_drawDegree 36 = .ok (.iload_n 3, 1) := by decide +kernel
theorem dX3_drawDegree_37 : decode cX3_drawDegree 37 = .ok (.aload_n 0, 1) := by decide +kernel
theorem dX3_drawDegree_38 : decode cX3_drawDegree 38 = .ok (.getfield 21, 3) := by decide +kernel
theorem dX3_drawDegree_41 : decode cX3_drawDegree 41 = .ok (.invokestatic 65, 3) := by decide +kernel
theorem dX3_drawDegree_44 : decode cX3_drawDegree 44 = .ok (.ireturn, 1) := by decide +kernel
theorem dX3_drawDegree_45 : decode cX3_drawDegree 45 = .ok (.iinc 3 1, 3) := by decide +kernel
theorem dX3_drawDegree_48 : decode cX3_drawDegree 48 = .ok (.goto (-35), 3) := by decide +kernel
theorem dX3_drawDegree_51 : decode cX3_drawDegree 51 = .ok (.aload_n 0, 1) := by decide +kernel
theorem dX3_drawDegree_52 : decode cX3_drawDegree 52 = .ok (.getfield 21, 3) := by decide +kernel
theorem dX3_drawDegree_55 : decode cX3_drawDegree 55 = .ok (.ireturn, 1) := by decide +kernel
theorem dX3_drawPacket_0 : decode cX3_drawPacket 0 = .ok (.aload_n 0, 1) := by decide +kernel
theorem dX3_drawPacket_1 : decode cX3_drawPacket 1 = .ok (.invokevirtual 71, 3) := by decide +kernel
theorem dX3_drawPacket_4 : decode cX3_drawPacket 4 = .ok (.istore_n 1, 1) := by decide +kernel
theorem dX3_drawPacket_5 : decode cX3_drawPacket 5 = .ok (.iconst 0, 1) := by decide +kernel
theorem dX3_drawPacket_6 : decode cX3_drawPacket 6 = .ok (.istore_n 2, 1) := by decide +kernel
theorem dX3_drawPacket_7 : decode cX3_drawPacket 7 = .ok (.iconst 0, 1) := by decide +kernel
theorem dX3_drawPacket_8 : decode cX3_drawPacket 8 = .ok (.istore_n 3, 1) := by decide +kernel
theorem dX3_drawPacket_9 : decode cX3_drawPacket 9 = .ok (.iload_n 3, 1) := by decide +kernel
theorem dX3_drawPacket_10 : decode cX3_drawPacket 10 = .ok (.aload_n 0, 1) := by decide +kernel
theorem dX3_drawPacket_11 : decode cX3_drawPacket 11 = .ok (.getfield 21, 3) := by decide +kernel
theorem dX3_drawPacket_14 : decode cX3_drawPacket 14 = .ok (.if_icmp .ge 32, 3) := by decide +kernel
theorem dX3_drawPacket_17 : decode cX3_drawPacket 17 = .ok (.aload_n 0, 1) := by decide +kernel
theorem dX3_drawPacket_18 : decode cX3_drawPacket 18 = .ok (.aload_n 0, 1) := by decide +kernel
theorem dX3_drawPacket_19 : decode cX3_drawPacket 19 = .ok (.getfield 21, 3) := by decide +kernel
theorem dX3_drawPacket_22 : decode cX3_drawPacket 22 = .ok (.iload_n 3, 1) := by decide +kernel
theorem dX3_drawPacket_23 : decode cX3_drawPacket 23 = .ok (.isub, 1) := by decide +kernel
theorem dX3_drawPacket_24 : decode cX3_drawPacket 24 = .ok (.invokevirtual 57, 3) := by decide +kernel
theorem dX3_drawPacket_27 : decode cX3_drawPacket 27 = .ok (.iload_n 1, 1) := by decide +kernel
theorem dX3_drawPacket_28 : decode cX3_drawPacket 28 = .ok (.if_icmp .ge 12, 3) := by decide +kernel
theorem dX3_drawPacket_31 : decode cX3_drawPacket 31 = .ok (.iload_n 2, 1) := by decide +kernel
theorem dX3_drawPacket_32 : decode cX3_drawPacket 32 = .ok (.iconst 1, 1) := by decide +kernel
theorem dX3_drawPacket_33 : decode cX3_drawPacket 33 = .ok (.iload_n 3, 1) := by decide +kernel
theorem dX3_drawPacket_34 : decode cX3_drawPacket 34 = .ok (.ishl, 1) := by decide +kernel
theorem dX3_drawPacket_35 : decode cX3_drawPacket 35 = .ok (.ior, 1) := by decide +kernel
theorem dX3_drawPacket_36 : decode cX3_drawPacket 36 = .ok (.istore_n 2, 1) := by decide +kernel
theorem dX3_drawPacket_37 : decode cX3_drawPacket 37 = .ok (.iinc 1 (-1), 3) := by decide +kernel
theorem dX3_drawPacket_40 : decode cX3_drawPacket 40 = .ok (.iinc 3 1, 3) := by decide +kernel
theorem dX3_drawPacket_43 : decode cX3_drawPacket 43 = .ok (.goto (-34), 3) := by decide +kernel
theorem dX3_drawPacket_46 : decode cX3_drawPacket 46 = .ok (.aload_n 0, 1) := by decide +kernel
theorem dX3_drawPacket_47 : decode cX3_drawPacket 47 = .ok (.iload_n 2, 1) := by decide +kernel
theorem dX3_drawPacket_48 : decode cX3_drawPacket 48 = .ok (.invokevirtual 74, 3) := by decide +kernel
theorem dX3_drawPacket_51 : decode cX3_drawPacket 51 = .ok (.ireturn, 1) := by decide +kernel
theorem dX3_packetOf_0 : decode cX3_packetOf 0 = .ok (.iconst 0, 1) := by decide +kernel
theorem dX3_packetOf_1 : decode cX3_packetOf 1 = .ok (.istore_n 2, 1) := by decide +kernel
theorem dX3_packetOf_2 : decode cX3_packetOf 2 = .ok (.iconst 0, 1) := by decide +kernel
theorem dX3_packetOf_3 : decode cX3_packetOf 3 = .ok (.istore_n 3, 1) := by decide +kernel
theorem dX3_packetOf_4 : decode cX3_packetOf 4 = .ok (.iload_n 3, 1) := by decide +kernel
theorem dX3_packetOf_5 : decode cX3_packetOf 5 = .ok (.aload_n 0, 1) := by decide +kernel
theorem dX3_packetOf_6 : decode cX3_packetOf 6 = .ok (.getfield 21, 3) := by decide +kernel
theorem dX3_packetOf_9 : decode cX3_packetOf 9 = .ok (.if_icmp .ge 39, 3) := by decide +kernel
theorem dX3_packetOf_12 : decode cX3_packetOf 12 = .ok (.iload_n 3, 1) := by decide +kernel
theorem dX3_packetOf_13 : decode cX3_packetOf 13 = .ok (.aload_n 0, 1) := by decide +kernel
theorem dX3_packetOf_14 : decode cX3_packetOf 14 = .ok (.getfield 9, 3) := by decide +kernel
theorem dX3_packetOf_17 : decode cX3_packetOf 17 = .ok (.arraylength, 1) := by decide +kernel
theorem dX3_packetOf_18 : decode cX3_packetOf 18 = .ok (.if_icmp .ge 30, 3) := by decide +kernel
theorem dX3_packetOf_21 : decode cX3_packetOf 21 = .ok (.iload_n 1, 1) := by decide +kernel
theorem dX3_packetOf_22 : decode cX3_packetOf 22 = .ok (.iload_n 3, 1) := by decide +kernel
theorem dX3_packetOf_23 : decode cX3_packetOf 23 = .ok (.ishr, 1) := by decide +kernel
theorem dX3_packetOf_24 : decode cX3_packetOf 24 = .ok (.iconst 1, 1) := by decide +kernel
theorem dX3_packetOf_25 : decode cX3_packetOf 25 = .ok (.iand, 1) := by decide +kernel
theorem dX3_packetOf_26 : decode cX3_packetOf 26 = .ok (.ifCond .eq 16, 3) := by decide +kernel
theorem dX3_packetOf_29 : decode cX3_packetOf 29 = .ok (.iload_n 2, 1) := by decide +kernel
theorem dX3_packetOf_30 : decode cX3_packetOf 30 = .ok (.iload_n 3, 1) := by decide +kernel
theorem dX3_packetOf_31 : decode cX3_packetOf 31 = .ok (.aload_n 0, 1) := by decide +kernel
theorem dX3_packetOf_32 : decode cX3_packetOf 32 = .ok (.getfield 9, 3) := by decide +kernel
theorem dX3_packetOf_35 : decode cX3_packetOf 35 = .ok (.iload_n 3, 1) := by decide +kernel
theorem dX3_packetOf_36 : decode cX3_packetOf 36 = .ok (.iaload, 1) := by decide +kernel
theorem dX3_packetOf_37 : decode cX3_packetOf 37 = .ok (.invokestatic 77, 3) := by decide +kernel
theorem dX3_packetOf_40 : decode cX3_packetOf 40 = .ok (.ixor, 1) := by decide +kernel
theorem dX3_packetOf_41 : decode cX3_packetOf 41 = .ok (.istore_n 2, 1) := by decide +kernel
theorem dX3_packetOf_42 : decode cX3_packetOf 42 = .ok (.iinc 3 1, 3) := by decide +kernel
theorem dX3_packetOf_45 : decode cX3_packetOf 45 = .ok (.goto (-41), 3) := by decide +kernel
theorem dX3_packetOf_48 : decode cX3_packetOf 48 = .ok (.iload_n 2, 1) := by decide +kernel
theorem dX3_packetOf_49 : decode cX3_packetOf 49 = .ok (.ireturn, 1) := by decide +kernel
theorem dX3_copyFrom_0 : decode cX3_copyFrom 0 = .ok (.aload_n 1, 1) := by decide +kernel
theorem dX3_copyFrom_1 : decode cX3_copyFrom 1 = .ok (.getfield 9, 3) := by decide +kernel
theorem dX3_copyFrom_4 : decode cX3_copyFrom 4 = .ok (.aload_n 0, 1) := by decide +kernel
theorem dX3_copyFrom_5 : decode cX3_copyFrom 5 = .ok (.getfield 9, 3) := by decide +kernel
theorem dX3_copyFrom_8 : decode cX3_copyFrom 8 = .ok (.invokestatic 43, 3) := by decide +kernel
theorem dX3_copyFrom_11 : decode cX3_copyFrom 11 = .ok (.aload_n 1, 1) := by decide +kernel
theorem dX3_copyFrom_12 : decode cX3_copyFrom 12 = .ok (.getfield 15, 3) := by decide +kernel
theorem dX3_copyFrom_15 : decode cX3_copyFrom 15 = .ok (.aload_n 0, 1) := by decide +kernel
theorem dX3_copyFrom_16 : decode cX3_copyFrom 16 = .ok (.getfield 15, 3) := by decide +kernel
theorem dX3_copyFrom_19 : decode cX3_copyFrom 19 = .ok (.invokestatic 43, 3) := by decide +kernel
theorem dX3_copyFrom_22 : decode cX3_copyFrom 22 = .ok (.aload_n 1, 1) := by decide +kernel
theorem dX3_copyFrom_23 : decode cX3_copyFrom 23 = .ok (.getfield 18, 3) := by decide +kernel
theorem dX3_copyFrom_26 : decode cX3_copyFrom 26 = .ok (.aload_n 0, 1) := by decide +kernel
theorem dX3_copyFrom_27 : decode cX3_copyFrom 27 = .ok (.getfield 18, 3) := by decide +kernel
theorem dX3_copyFrom_30 : decode cX3_copyFrom 30 = .ok (.invokestatic 43, 3) := by decide +kernel
theorem dX3_copyFrom_33 : decode cX3_copyFrom 33 = .ok (.aload_n 0, 1) := by decide +kernel
theorem dX3_copyFrom_34 : decode cX3_copyFrom 34 = .ok (.aload_n 1, 1) := by decide +kernel
theorem dX3_copyFrom_35 : decode cX3_copyFrom 35 = .ok (.getfield 21, 3) := by decide +kernel
theorem dX3_copyFrom_38 : decode cX3_copyFrom 38 = .ok (.putfield 21, 3) := by decide +kernel
theorem dX3_copyFrom_41 : decode cX3_copyFrom 41 = .ok (.aload_n 0, 1) := by decide +kernel
theorem dX3_copyFrom_42 : decode cX3_copyFrom 42 = .ok (.aload_n 1, 1) := by decide +kernel
theorem dX3_copyFrom_43 : decode cX3_copyFrom 43 = .ok (.getfield 25, 3) := by decide +kernel
theorem dX3_copyFrom_46 : decode cX3_copyFrom 46 = .ok (.putfield 25, 3) := by decide +kernel
theorem dX3_copyFrom_49 : decode cX3_copyFrom 49 = .ok (.aload_n 0, 1) := by decide +kernel
theorem dX3_copyFrom_50 : decode cX3_copyFrom 50 = .ok (.aload_n 1, 1) := by decide +kernel
theorem dX3_copyFrom_51 : decode cX3_copyFrom 51 = .ok (.getfield 28, 3) := by decide +kernel
theorem dX3_copyFrom_54 : decode cX3_copyFrom 54 = .ok (.putfield 28, 3) := by decide +kernel
theorem dX3_copyFrom_57 : decode cX3_copyFrom 57 = .ok (.aload_n 0, 1) := by decide +kernel
theorem dX3_copyFrom_58 : decode cX3_copyFrom 58 = .ok (.aload_n 1, 1) := by decide +kernel
theorem dX3_copyFrom_59 : decode cX3_copyFrom 59 = .ok (.getfield 31, 3) := by decide +kernel
theorem dX3_copyFrom_62 : decode cX3_copyFrom 62 = .ok (.putfield 31, 3) := by decide +kernel
theorem dX3_copyFrom_65 : decode cX3_copyFrom 65 = .ok (.aload_n 0, 1) := by decide +kernel
theorem dX3_copyFrom_66 : decode cX3_copyFrom 66 = .ok (.aload_n 1, 1) := by decide +kernel
theorem dX3_copyFrom_67 : decode cX3_copyFrom 67 = .ok (.getfield 34, 3) := by decide +kernel
theorem dX3_copyFrom_70 : decode cX3_copyFrom 70 = .ok (.putfield 34, 3) := by decide +kernel
theorem dX3_copyFrom_73 : decode cX3_copyFrom 73 = .ok (.aload_n 0, 1) := by decide +kernel
theorem dX3_copyFrom_74 : decode cX3_copyFrom 74 = .ok (.aload_n 1, 1) := by decide +kernel
theorem dX3_copyFrom_75 : decode cX3_copyFrom 75 = .ok (.getfield 37, 3) := by decide +kernel
theorem dX3_copyFrom_78 : decode cX3_copyFrom 78 = .ok (.putfield 37, 3) := by decide +kernel
theorem dX3_copyFrom_81 : decode cX3_copyFrom 81 = .ok (.return_, 1) := by decide +kernel
theorem dX4_init_0 : decode cX4_init 0 = .ok (.aload_n 0, 1) := by decide +kernel
theorem dX4_init_1 : decode cX4_init 1 = .ok (.invokespecial 3, 3) := by decide +kernel
theorem dX4_init_4 : decode cX4_init 4 = .ok (.aload_n 0, 1) := by decide +kernel
theorem dX4_init_5 : decode cX4_init 5 = .ok (.bipush 12, 2) := by decide +kernel
theorem dX4_init_7 : decode cX4_init 7 = .ok (.newarray .int, 2) := by decide +kernel
theorem dX4_init_9 : decode cX4_init 9 = .ok (.putfield 9, 3) := by decide +kernel
theorem dX4_init_12 : decode cX4_init 12 = .ok (.aload_n 0, 1) := by decide +kernel
theorem dX4_init_13 : decode cX4_init 13 = .ok (.iconst 0, 1) := by decide +kernel
theorem dX4_init_14 : decode cX4_init 14 = .ok (.putfield 15, 3) := by decide +kernel
theorem dX4_init_17 : decode cX4_init 17 = .ok (.return_, 1) := by decide +kernel
theorem dX4_take_0 : decode cX4_take 0 = .ok (.iload_n 1, 1) := by decide +kernel
theorem dX4_take_1 : decode cX4_take 1 = .ok (.istore_n 2, 1) := by decide +kernel
theorem dX4_take_2 : decode cX4_take 2 = .ok (.aload_n 0, 1) := by decide +kernel
theorem dX4_take_3 : decode cX4_take 3 = .ok (.getfield 9, 3) := by decide +kernel
theorem dX4_take_6 : decode cX4_take 6 = .ok (.arraylength, 1) := by decide +kernel
theorem dX4_take_7 : decode cX4_take 7 = .ok (.iconst 1, 1) := by decide +kernel
theorem dX4_take_8 : decode cX4_take 8 = .ok (.isub, 1) := by decide +kernel
theorem dX4_take_9 : decode cX4_take 9 = .ok (.istore_n 3, 1) := by decide +kernel
theorem dX4_take_10 : decode cX4_take 10 = .ok (.iload_n 3, 1) := by decide +kernel
theorem dX4_take_11 : decode cX4_take 11 = .ok (.ifCond .lt 64, 3) := by decide +kernel
theorem dX4_take_14 : decode cX4_take 14 = .ok (.iconst 1, 1) := by decide +kernel
theorem dX4_take_15 : decode cX4_take 15 = .ok (.bipush 8, 2) := by decide +kernel
theorem dX4_take_17 : decode cX4_take 17 = .ok (.iload_n 3, 1) := by decide +kernel
theorem dX4_take_18 : decode cX4_take 18 = .ok (.iadd, 1) := by decide +kernel
theorem dX4_take_19 : decode cX4_take 19 = .ok (.ishl, 1) := by decide +kernel
theorem dX4_take_20 : decode cX4_take 20 = .ok (.istore 4, 2) := by decide +kernel
theorem dX4_take_22 : decode cX4_take 22 = .ok (.iload_n 2, 1) := by decide +kernel
theorem dX4_take_23 : decode cX4_take 23 = .ok (.iload 4, 2) := by decide +kernel
theorem dX4_take_25 : decode cX4_take 25 = .ok (.iand, 1) := by decide +kernel
theorem dX4_take_26 : decode cX4_take 26 = .ok (.ifCond .ne 6, 3) := by decide +kernel
theorem dX4_take_29 : decode cX4_take 29 = .ok (.goto 40, 3) := by decide +kernel
theorem dX4_take_32 : decode cX4_take 32 = .ok (.aload_n 0, 1) := by decide +kernel
theorem dX4_take_33 : decode cX4_take 33 = .ok (.getfield 9, 3) := by decide +kernel
theorem dX4_take_36 : decode cX4_take 36 = .ok (.iload_n 3, 1) := by decide +kernel
theorem dX4_take_37 : decode cX4_take 37 = .ok (.iaload, 1) := by decide +kernel
theorem dX4_take_38 : decode cX4_take 38 = .ok (.ifCond .ne 22, 3) := by decide +kernel
theorem dX4_take_41 : decode cX4_take 41 = .ok (.aload_n 0, 1) := by decide +kernel
theorem dX4_take_42 : decode cX4_take 42 = .ok (.getfield 9, 3) := by decide +kernel
theorem dX4_take_45 : decode cX4_take 45 = .ok (.iload_n 3, 1) := by decide +kernel
theorem dX4_take_46 : decode cX4_take 46 = .ok (.iload_n 2, 1) := by decide +kernel
theorem dX4_take_47 : decode cX4_take 47 = .ok (.iastore, 1) := by decide +kernel
theorem dX4_take_48 : decode cX4_take 48 = .ok (.aload_n 0, 1) := by decide +kernel
theorem dX4_take_49 : decode cX4_take 49 = .ok (.dup, 1) := by decide +kernel
theorem dX4_take_50 : decode cX4_take 50 = .ok (.getfield 15, 3) := by decide +kernel
theorem dX4_take_53 : decode cX4_take 53 = .ok (.iconst 1, 1) := by decide +kernel
theorem dX4_take_54 : decode cX4_take 54 = .ok (.iadd, 1) := by decide +kernel
theorem dX4_take_55 : decode cX4_take 55 = .ok (.putfield 15, 3) := by decide +kernel
theorem dX4_take_58 : decode cX4_take 58 = .ok (.iconst 1, 1) := by decide +kernel
theorem dX4_take_59 : decode cX4_take 59 = .ok (.ireturn, 1) := by decide +kernel
theorem dX4_take_60 : decode cX4_take 60 = .ok (.iload_n 2, 1) := by decide +kernel
theorem dX4_take_61 : decode cX4_take 61 = .ok (.aload_n 0, 1) := by decide +kernel
theorem dX4_take_62 : decode cX4_take 62 = .ok (.getfield 9, 3) := by decide +kernel
theorem dX4_take_65 : decode cX4_take 65 = .ok (.iload_n 3, 1) := by decide +kernel
theorem dX4_take_66 : decode cX4_take 66 = .ok (.iaload, 1) := by decide +kernel
theorem dX4_take_67 : decode cX4_take 67 = .ok (.ixor, 1) := by decide +kernel
theorem dX4_take_68 : decode cX4_take 68 = .ok (.istore_n 2, 1) := by decide +kernel
theorem dX4_take_69 : decode cX4_take 69 = .ok (.iinc 3 (-1), 3) := by decide +kernel
theorem dX4_take_72 : decode cX4_take 72 = .ok (.goto (-62), 3) := by decide +kernel
theorem dX4_take_75 : decode cX4_take 75 = .ok (.iconst 0, 1) := by decide +kernel
theorem dX4_take_76 : decode cX4_take 76 = .ok (.ireturn, 1) := by decide +kernel
theorem dX4_reduce_0 : decode cX4_reduce 0 = .ok (.iload_n 1, 1) := by decide +kernel
theorem dX4_reduce_1 : decode cX4_reduce 1 = .ok (.istore_n 2, 1) := by decide +kernel
theorem dX4_reduce_2 : decode cX4_reduce 2 = .ok (.aload_n 0, 1) := by decide +kernel
theorem dX4_reduce_3 : decode cX4_reduce 3 = .ok (.getfield 9, 3) := by decide +kernel
theorem dX4_reduce_6 : decode cX4_reduce 6 = .ok (.arraylength, 1) := by decide +kernel
theorem dX4_reduce_7 : decode cX4_reduce 7 = .ok (.iconst 1, 1) := by decide +kernel
theorem dX4_reduce_8 : decode cX4_reduce 8 = .ok (.isub, 1) := by decide +kernel
theorem dX4_reduce_9 : decode cX4_reduce 9 = .ok (.istore_n 3, 1) := by decide +kernel
theorem dX4_reduce_10 : decode cX4_reduce 10 = .ok (.iload_n 3, 1) := by decide +kernel
theorem dX4_reduce_11 : decode cX4_reduce 11 = .ok (.ifCond .lt 33, 3) := by decide +kernel
theorem dX4_reduce_14 : decode cX4_reduce 14 = .ok (.iconst 1, 1) := by decide +kernel
theorem dX4_reduce_15 : decode cX4_reduce 15 = .ok (.bipush 8, 2) := by decide +kernel
theorem dX4_reduce_17 : decode cX4_reduce 17 = .ok (.iload_n 3, 1) := by decide +kernel
theorem dX4_reduce_18 : decode cX4_reduce 18 = .ok (.iadd, 1) := by decide +kernel
theorem dX4_reduce_19 : decode cX4_reduce 19 = .ok (.ishl, 1) := by decide +kernel
theorem dX4_reduce_20 : decode cX4_reduce 20 = .ok (.istore 4, 2) := by decide +kernel
theorem dX4_reduce_22 : decode cX4_reduce 22 = .ok (.iload_n 2, 1) := by decide +kernel
theorem dX4_reduce_23 : decode cX4_reduce 23 = .ok (.iload 4, 2) := by decide +kernel
theorem dX4_reduce_25 : decode cX4_reduce 25 = .ok (.iand, 1) := by decide +kernel
theorem dX4_reduce_26 : decode cX4_reduce 26 = .ok (.ifCond .eq 12, 3) := by decide +kernel
theorem dX4_reduce_29 : decode cX4_reduce 29 = .ok (.iload_n 2, 1) := by decide +kernel
theorem dX4_reduce_30 : decode cX4_reduce 30 = .ok (.aload_n 0, 1) := by decide +kernel
theorem dX4_reduce_31 : decode cX4_reduce 31 = .ok (.getfield 9, 3) := by decide +kernel
theorem dX4_reduce_34 : decode cX4_reduce 34 = .ok (.iload_n 3, 1) := by decide +kernel
theorem dX4_reduce_35 : decode cX4_reduce 35 = .ok (.iaload, 1) := by decide +kernel
theorem dX4_reduce_36 : decode cX4_reduce 36 = .ok (.ixor, 1) := by decide +kernel
theorem dX4_reduce_37 : decode cX4_reduce 37 = .ok (.istore_n 2, 1) := by decide +kernel
theorem dX4_reduce_38 : decode cX4_reduce 38 = .ok (.iinc 3 (-1), 3) := by decide +kernel
theorem dX4_reduce_41 : decode cX4_reduce 41 = .ok (.goto (-31), 3) := by decide +kernel
theorem dX4_reduce_44 : decode cX4_reduce 44 = .ok (.iload_n 2, 1) := by decide +kernel
theorem dX4_reduce_45 : decode cX4_reduce 45 = .ok (.ireturn, 1) := by decide +kernel
theorem dX4_clear_0 : decode cX4_clear 0 = .ok (.iconst 0, 1) := by decide +kernel
theorem dX4_clear_1 : decode cX4_clear 1 = .ok (.istore_n 1, 1) := by decide +kernel
theorem dX4_clear_2 : decode cX4_clear 2 = .ok (.iload_n 1, 1) := by decide +kernel
theorem dX4_clear_3 : decode cX4_clear 3 = .ok (.aload_n 0, 1) := by decide +kernel
theorem dX4_clear_4 : decode cX4_clear 4 = .ok (.getfield 9, 3) := by decide +kernel
theorem dX4_clear_7 : decode cX4_clear 7 = .ok (.arraylength, 1) := by decide +kernel
theorem dX4_clear_8 : decode cX4_clear 8 = .ok (.if_icmp .ge 16, 3) := by decide +kernel
theorem dX4_clear_11 : decode cX4_clear 11 = .ok (.aload_n 0, 1) := by decide +kernel
theorem dX4_clear_12 : decode cX4_clear 12 = .ok (.getfield 9, 3) := by decide +kernel
theorem dX4_clear_15 : decode cX4_clear 15 = .ok (.iload_n 1, 1) := by decide +kernel
theorem dX4_clear_16 : decode cX4_clear 16 = .ok (.iconst 0, 1) := by decide +kernel
theorem dX4_clear_17 : decode cX4_clear 17 = .ok (.iastore, 1) := by decide +kernel
theorem dX4_clear_18 : decode cX4_clear 18 = .ok (.iinc 1 1, 3) := by decide +kernel
theorem dX4_clear_21 : decode cX4_clear 21 = .ok (.goto (-19), 3) := by decide +kernel
theorem dX4_clear_24 : decode cX4_clear 24 = .ok (.aload_n 0, 1) := by decide +kernel
theorem dX4_clear_25 : decode cX4_clear 25 = .ok (.iconst 0, 1) := by decide +kernel
theorem dX4_clear_26 : decode cX4_clear 26 = .ok (.putfield 15, 3) := by decide +kernel
theorem dX4_clear_29 : decode cX4_clear 29 = .ok (.return_, 1) := by decide +kernel
theorem dX4_copyFrom_0 : decode cX4_copyFrom 0 = .ok (.aload_n 1, 1) := by decide +kernel
theorem dX4_copyFrom_1 : decode cX4_copyFrom 1 = .ok (.getfield 9, 3) := by decide +kernel
theorem dX4_copyFrom_4 : decode cX4_copyFrom 4 = .ok (.aload_n 0, 1) := by decide +kernel
theorem dX4_copyFrom_5 : decode cX4_copyFrom 5 = .ok (.getfield 9, 3) := by decide +kernel
theorem dX4_copyFrom_8 : decode cX4_copyFrom 8 = .ok (.invokestatic 19, 3) := by decide +kernel
theorem dX4_copyFrom_11 : decode cX4_copyFrom 11 = .ok (.aload_n 0, 1) := by decide +kernel
theorem dX4_copyFrom_12 : decode cX4_copyFrom 12 = .ok (.aload_n 1, 1) := by decide +kernel
theorem dX4_copyFrom_13 : decode cX4_copyFrom 13 = .ok (.getfield 15, 3) := by decide +kernel
theorem dX4_copyFrom_16 : decode cX4_copyFrom 16 = .ok (.putfield 15, 3) := by decide +kernel
theorem dX4_copyFrom_19 : decode cX4_copyFrom 19 = .ok (.return_, 1) := by decide +kernel
theorem dX5_init_0 : decode cX5_init 0 = .ok (.aload_n 0, 1) := by decide +kernel
theorem dX5_init_1 : decode cX5_init 1 = .ok (.invokespecial 3, 3) := by decide +kernel
theorem dX5_init_4 : decode cX5_init 4 = .ok (.aload_n 0, 1) := by decide +kernel
theorem dX5_init_5 : decode cX5_init 5 = .ok (.new 9, 3) := by decide +kernel
theorem dX5_init_8 : decode cX5_init 8 = .ok (.dup, 1) := by decide +kernel
theorem dX5_init_9 : decode cX5_init 9 = .ok (.invokespecial 11, 3) := by decide +kernel
theorem dX5_init_12 : decode cX5_init 12 = .ok (.putfield 12, 3) := by decide +kernel
theorem dX5_init_15 : decode cX5_init 15 = .ok (.aload_n 0, 1) := by decide +kernel
theorem dX5_init_16 : decode cX5_init 16 = .ok (.iconst 3, 1) := by decide +kernel
theorem dX5_init_17 : decode cX5_init 17 = .ok (.anewarray 18, 3) := by decide +kernel
theorem dX5_init_20 : decode cX5_init 20 = .ok (.putfield 20, 3) := by decide +kernel
theorem dX5_init_23 : decode cX5_init 23 = .ok (.aload_n 0, 1) := by decide +kernel
theorem dX5_init_24 : decode cX5_init 24 = .ok (.new 24, 3) := by decide +kernel
theorem dX5_init_27 : decode cX5_init 27 = .ok (.dup, 1) := by decide +kernel
theorem dX5_init_28 : decode cX5_init 28 = .ok (.invokespecial 26, 3) := by decide +kernel
theorem dX5_init_31 : decode cX5_init 31 = .ok (.putfield 27, 3) := by decide +kernel
theorem dX5_init_34 : decode cX5_init 34 = .ok (.aload_n 0, 1) := by decide +kernel
theorem dX5_init_35 : decode cX5_init 35 = .ok (.iconst 0, 1) := by decide +kernel
theorem dX5_init_36 : decode cX5_init 36 = .ok (.putfield 31, 3) := by decide +kernel
theorem dX5_init_39 : decode cX5_init 39 = .ok (.aload_n 0, 1) := by decide +kernel
theorem dX5_init_40 : decode cX5_init 40 = .ok (.iconst 0, 1) := by decide +kernel
theorem dX5_init_41 : decode cX5_init 41 = .ok (.putfield 35, 3) := by decide +kernel
theorem dX5_init_44 : decode cX5_init 44 = .ok (.aload_n 0, 1) := by decide +kernel
theorem dX5_init_45 : decode cX5_init 45 = .ok (.iconst 0, 1) := by decide +kernel
theorem dX5_init_46 : decode cX5_init 46 = .ok (.putfield 38, 3) := by decide +kernel
theorem dX5_init_49 : decode cX5_init 49 = .ok (.aload_n 0, 1) := by decide +kernel
theorem dX5_init_50 : decode cX5_init 50 = .ok (.iconst 4, 1) := by decide +kernel
theorem dX5_init_51 : decode cX5_init 51 = .ok (.newarray .int, 2) := by decide +kernel
theorem dX5_init_53 : decode cX5_init 53 = .ok (.putfield 41, 3) := by decide +kernel
theorem dX5_init_56 : decode cX5_init 56 = .ok (.aload_n 0, 1) := by decide +kernel
theorem dX5_init_57 : decode cX5_init 57 = .ok (.new 45, 3) := by decide +kernel
theorem dX5_init_60 : decode cX5_init 60 = .ok (.dup, 1) := by decide +kernel
theorem dX5_init_61 : decode cX5_init 61 = .ok (.invokespecial 47, 3) := by decide +kernel
theorem dX5_init_64 : decode cX5_init 64 = .ok (.putfield 48, 3) := by decide +kernel
theorem dX5_init_67 : decode cX5_init 67 = .ok (.iconst 0, 1) := by decide +kernel
theorem dX5_init_68 : decode cX5_init 68 = .ok (.istore_n 1, 1) := by decide +kernel
theorem dX5_init_69 : decode cX5_init 69 = .ok (.iload_n 1, 1) := by decide +kernel
theorem dX5_init_70 : decode cX5_init 70 = .ok (.aload_n 0, 1) := by decide +kernel
theorem dX5_init_71 : decode cX5_init 71 = .ok (.getfield 20, 3) := by decide +kernel
theorem dX5_init_74 : decode cX5_init 74 = .ok (.arraylength, 1) := by decide +kernel
theorem dX5_init_75 : decode cX5_init 75 = .ok (.if_icmp .ge 23, 3) := by decide +kernel
theorem dX5_init_78 : decode cX5_init 78 = .ok (.aload_n 0, 1) := by decide +kernel
theorem dX5_init_79 : decode cX5_init 79 = .ok (.getfield 20, 3) := by decide +kernel
theorem dX5_init_82 : decode cX5_init 82 = .ok (.iload_n 1, 1) := by decide +kernel
theorem dX5_init_83 : decode cX5_init 83 = .ok (.new 18, 3) := by decide +kernel
theorem dX5_init_86 : decode cX5_init 86 = .ok (.dup, 1) := by decide +kernel
theorem dX5_init_87 : decode cX5_init 87 = .ok (.iconst 4, 1) := by decide +kernel
theorem dX5_init_88 : decode cX5_init 88 = .ok (.invokespecial 52, 3) := by decide +kernel
theorem dX5_init_91 : decode cX5_init 91 = .ok (.aastore, 1) := by decide +kernel
theorem dX5_init_92 : decode cX5_init 92 = .ok (.iinc 1 1, 3) := by decide +kernel
theorem dX5_init_95 : decode cX5_init 95 = .ok (.goto (-26), 3) := by decide +kernel
theorem dX5_init_98 : decode cX5_init 98 = .ok (.return_, 1) := by decide +kernel
theorem dX5_restart_0 : decode cX5_restart 0 = .ok (.aload_n 0, 1) := by decide +kernel
theorem dX5_restart_1 : decode cX5_restart 1 = .ok (.getfield 12, 3) := by decide +kernel
theorem dX5_restart_4 : decode cX5_restart 4 = .ok (.iload_n 1, 1) := by decide +kernel
theorem dX5_restart_5 : decode cX5_restart 5 = .ok (.iload_n 2, 1) := by decide +kernel
theorem dX5_restart_6 : decode cX5_restart 6 = .ok (.invokevirtual 55, 3) := by decide +kernel
theorem dX5_restart_9 : decode cX5_restart 9 = .ok (.aload_n 0, 1) := by decide +kernel
theorem dX5_restart_10 : decode cX5_restart 10 = .ok (.getfield 20, 3) := by decide +kernel
theorem dX5_restart_13 : decode cX5_restart 13 = .ok (.astore_n 3, 1) := by decide +kernel
theorem dX5_restart_14 : decode cX5_restart 14 = .ok (.aload_n 3, 1) := by decide +kernel
theorem dX5_restart_15 : decode cX5_restart 15 = .ok (.arraylength, 1) := by decide +kernel
theorem dX5_restart_16 : decode cX5_restart 16 = .ok (.istore 4, 2) := by decide +kernel
theorem dX5_restart_18 : decode cX5_restart 18 = .ok (.iconst 0, 1) := by decide +kernel
theorem dX5_restart_19 : decode cX5_restart 19 = .ok (.istore 5, 2) := by decide +kernel
theorem dX5_restart_21 : decode cX5_restart 21 = .ok (.iload 5, 2) := by decide +kernel
theorem dX5_restart_23 : decode cX5_restart 23 = .ok (.iload 4, 2) := by decide +kernel
theorem dX5_restart_25 : decode cX5_restart 25 = .ok (.if_icmp .ge 20, 3) := by decide +kernel
theorem dX5_restart_28 : decode cX5_restart 28 = .ok (.aload_n 3, 1) := by decide +kernel
theorem dX5_restart_29 : decode cX5_restart 29 = .ok (.iload 5, 2) := by decide +kernel
theorem dX5_restart_31 : decode cX5_restart 31 = .ok (.aaload, 1) := by decide +kernel
theorem dX5_restart_32 : decode cX5_restart 32 = .ok (.astore 6, 2) := by decide +kernel
theorem dX5_restart_34 : decode cX5_restart 34 = .ok (.aload 6, 2) := by decide +kernel
theorem dX5_restart_36 : decode cX5_restart 36 = .ok (.invokevirtual 59, 3) := by decide +kernel
theorem dX5_restart_39 : decode cX5_restart 39 = .ok (.iinc 5 1, 3) := by decide +kernel
theorem dX5_restart_42 : decode cX5_restart 42 = .ok (.goto (-21), 3) := by decide +kernel
theorem dX5_restart_45 : decode cX5_restart 45 = .ok (.aload_n 0, 1) := by decide +kernel
theorem dX5_restart_46 : decode cX5_restart 46 = .ok (.getfield 27, 3) := by decide +kernel
theorem dX5_restart_49 : decode cX5_restart 49 = .ok (.invokevirtual 62, 3) := by decide +kernel
theorem dX5_restart_52 : decode cX5_restart 52 = .ok (.aload_n 0, 1) := by decide +kernel
theorem dX5_restart_53 : decode cX5_restart 53 = .ok (.iconst 0, 1) := by decide +kernel
theorem dX5_restart_54 : decode cX5_restart 54 = .ok (.putfield 31, 3) := by decide +kernel
theorem dX5_restart_57 : decode cX5_restart 57 = .ok (.aload_n 0, 1) := by decide +kernel
theorem dX5_restart_58 : decode cX5_restart 58 = .ok (.iconst 0, 1) := by decide +kernel
theorem dX5_restart_59 : decode cX5_restart 59 = .ok (.putfield 35, 3) := by decide +kernel
theorem dX5_restart_62 : decode cX5_restart 62 = .ok (.aload_n 0, 1) := by decide +kernel
theorem dX5_restart_63 : decode cX5_restart 63 = .ok (.iconst 0, 1) := by decide +kernel
theorem dX5_restart_64 : decode cX5_restart 64 = .ok (.putfield 38, 3) := by decide +kernel
theorem dX5_restart_67 : decode cX5_restart 67 = .ok (.return_, 1) := by decide +kernel
theorem dX5_changeRoom_0 : decode cX5_changeRoom 0 = .ok (.aload_n 0, 1) := by decide +kernel
theorem dX5_changeRoom_1 : decode cX5_changeRoom 1 = .ok (.getfield 12, 3) := by decide +kernel
theorem dX5_changeRoom_4 : decode cX5_changeRoom 4 = .ok (.getfield 63, 3) := by decide +kernel
theorem dX5_changeRoom_7 : decode cX5_changeRoom 7 = .ok (.istore_n 2, 1) := by decide +kernel
theorem dX5_changeRoom_8 : decode cX5_changeRoom 8 = .ok (.aload_n 0, 1) := by decide +kernel
theorem dX5_changeRoom_9 : decode cX5_changeRoom 9 = .ok (.getfield 12, 3) := by decide +kernel
theorem dX5_changeRoom_12 : decode cX5_changeRoom 12 = .ok (.iload_n 1, 1) := by decide +kernel
theorem dX5_changeRoom_13 : decode cX5_changeRoom 13 = .ok (.putfield 63, 3) := by decide +kernel
theorem dX5_changeRoom_16 : decode cX5_changeRoom 16 = .ok (.aload_n 0, 1) := by decide +kernel
theorem dX5_changeRoom_17 : decode cX5_changeRoom 17 = .ok (.getfield 20, 3) := by decide +kernel
theorem dX5_changeRoom_20 : decode cX5_changeRoom 20 = .ok (.astore_n 3, 1) := by decide +kernel
theorem dX5_changeRoom_21 : decode cX5_changeRoom 21 = .ok (.aload_n 3, 1) := by decide +kernel
theorem dX5_changeRoom_22 : decode cX5_changeRoom 22 = .ok (.arraylength, 1) := by decide +kernel
theorem dX5_changeRoom_23 : decode cX5_changeRoom 23 = .ok (.istore 4, 2) := by decide +kernel
theorem dX5_changeRoom_25 : decode cX5_changeRoom 25 = .ok (.iconst 0, 1) := by decide +kernel
theorem dX5_changeRoom_26 : decode cX5_changeRoom 26 = .ok (.istore 5, 2) := by decide +kernel
theorem dX5_changeRoom_28 : decode cX5_changeRoom 28 = .ok (.iload 5, 2) := by decide +kernel
theorem dX5_changeRoom_30 : decode cX5_changeRoom 30 = .ok (.iload 4, 2) := by decide +kernel
theorem dX5_changeRoom_32 : decode cX5_changeRoom 32 = .ok (.if_icmp .ge 21, 3) := by decide +kernel
theorem dX5_changeRoom_35 : decode cX5_changeRoom 35 = .ok (.aload_n 3, 1) := by decide +kernel
theorem dX5_changeRoom_36 : decode cX5_changeRoom 36 = .ok (.iload 5, 2) := by decide +kernel
theorem dX5_changeRoom_38 : decode cX5_changeRoom 38 = .ok (.aaload, 1) := by decide +kernel
theorem dX5_changeRoom_39 : decode cX5_changeRoom 39 = .ok (.astore 6, 2) := by decide +kernel
theorem dX5_changeRoom_41 : decode cX5_changeRoom 41 = .ok (.aload 6, 2) := by decide +kernel
theorem dX5_changeRoom_43 : decode cX5_changeRoom 43 = .ok (.iload_n 1, 1) := by decide +kernel
theorem dX5_changeRoom_44 : decode cX5_changeRoom 44 = .ok (.invokevirtual 66, 3) := by decide +kernel
theorem dX5_changeRoom_47 : decode cX5_changeRoom 47 = .ok (.iinc 5 1, 3) := by decide +kernel
theorem dX5_changeRoom_50 : decode cX5_changeRoom 50 = .ok (.goto (-22), 3) := by decide +kernel
theorem dX5_changeRoom_53 : decode cX5_changeRoom 53 = .ok (.iload_n 2, 1) := by decide +kernel
theorem dX5_changeRoom_54 : decode cX5_changeRoom 54 = .ok (.ireturn, 1) := by decide +kernel
theorem dX5_isComplete_0 : decode cX5_isComplete 0 = .ok (.iload_n 1, 1) := by decide +kernel
theorem dX5_isComplete_1 : decode cX5_isComplete 1 = .ok (.ifCond .ne 13, 3) := by decide +kernel
theorem dX5_isComplete_4 : decode cX5_isComplete 4 = .ok (.aload_n 0, 1) := by decide +kernel
theorem dX5_isComplete_5 : decode cX5_isComplete 5 = .ok (.getfield 27, 3) := by decide +kernel
theorem dX5_isComplete_8 : decode cX5_isComplete 8 = .ok (.getfield 69, 3) := by decide +kernel
theorem dX5_isComplete_11 : decode cX5_isComplete 11 = .ok (.goto 10, 3) := by decide +kernel
theorem dX5_isComplete_14 : decode cX5_isComplete 14 = .ok (.aload_n 0, 1) := by decide +kernel
theorem dX5_isComplete_15 : decode cX5_isComplete 15 = .ok (.getfield 27, 3) := by decide +kernel
theorem dX5_isComplete_18 : decode cX5_isComplete 18 = .ok (.getfield 73, 3) := by decide +kernel
theorem dX5_isComplete_21 : decode cX5_isComplete 21 = .ok (.astore_n 2, 1) := by decide +kernel
theorem dX5_isComplete_22 : decode cX5_isComplete 22 = .ok (.aload_n 2, 1) := by decide +kernel
theorem dX5_isComplete_23 : decode cX5_isComplete 23 = .ok (.getfield 76, 3) := by decide +kernel
theorem dX5_isComplete_26 : decode cX5_isComplete 26 = .ok (.aload_n 0, 1) := by decide +kernel
theorem dX5_isComplete_27 : decode cX5_isComplete 27 = .ok (.getfield 12, 3) := by decide +kernel
theorem dX5_isComplete_30 : decode cX5_isComplete 30 = .ok (.getfield 81, 3) := by decide +kernel
theorem dX5_isComplete_33 : decode cX5_isComplete 33 = .ok (.if_icmp .ne 7, 3) := by decide +kernel
theorem dX5_isComplete_36 : decode cX5_isComplete 36 = .ok (.iconst 1, 1) := by decide +kernel
theorem dX5_isComplete_37 : decode cX5_isComplete 37 = .ok (.goto 4, 3) := by decide +kernel
theorem dX5_isComplete_40 : decode cX5_isComplete 40 = .ok (.iconst 0, 1) := by decide +kernel
theorem dX5_isComplete_41 : decode cX5_isComplete 41 = .ok (.ireturn, 1) := by decide +kernel
theorem dX5_listOf_0 : decode cX5_listOf 0 = .ok (.iload_n 1, 1) := by decide +kernel
theorem dX5_listOf_1 : decode cX5_listOf 1 = .ok (.aload_n 0, 1) := by decide +kernel
theorem dX5_listOf_2 : decode cX5_listOf 2 = .ok (.getfield 12, 3) := by decide +kernel
theorem dX5_listOf_5 : decode cX5_listOf 5 = .ok (.getfield 84, 3) := by decide +kernel
theorem dX5_listOf_8 : decode cX5_listOf 8 = .ok (.iconst 1, 1) := by decide +kernel
theorem dX5_listOf_9 : decode cX5_listOf 9 = .ok (.iadd, 1) := by decide +kernel
theorem dX5_listOf_10 : decode cX5_listOf 10 = .ok (.if_icmp .ne 11, 3) := by decide +kernel
theorem dX5_listOf_13 : decode cX5_listOf 13 = .ok (.aload_n 0, 1) := by decide +kernel
theorem dX5_listOf_14 : decode cX5_listOf 14 = .ok (.getfield 27, 3) := by decide +kernel
theorem dX5_listOf_17 : decode cX5_listOf 17 = .ok (.getfield 87, 3) := by decide +kernel
theorem dX5_listOf_20 : decode cX5_listOf 20 = .ok (.areturn, 1) := by decide +kernel
theorem dX5_listOf_21 : decode cX5_listOf 21 = .ok (.iload_n 1, 1) := by decide +kernel
theorem dX5_listOf_22 : decode cX5_listOf 22 = .ok (.iconst 1, 1) := by decide +kernel
theorem dX5_listOf_23 : decode cX5_listOf 23 = .ok (.if_icmp .lt 34, 3) := by decide +kernel
theorem dX5_listOf_26 : decode cX5_listOf 26 = .ok (.iload_n 1, 1) := by decide +kernel
theorem dX5_listOf_27 : decode cX5_listOf 27 = .ok (.aload_n 0, 1) := by decide +kernel
theorem dX5_listOf_28 : decode cX5_listOf 28 = .ok (.getfield 12, 3) := by decide +kernel
theorem dX5_listOf_31 : decode cX5_listOf 31 = .ok (.getfield 84, 3) := by decide +kernel
theorem dX5_listOf_34 : decode cX5_listOf 34 = .ok (.if_icmp .gt 23, 3) := by decide +kernel
theorem dX5_listOf_37 : decode cX5_listOf 37 = .ok (.iload_n 1, 1) := by decide +kernel
theorem dX5_listOf_38 : decode cX5_listOf 38 = .ok (.aload_n 0, 1) := by decide +kernel
theorem dX5_listOf_39 : decode cX5_listOf 39 = .ok (.getfield 20, 3) := by decide +kernel
theorem dX5_listOf_42 : decode cX5_listOf 42 = .ok (.arraylength, 1) := by decide +kernel
theorem dX5_listOf_43 : decode cX5_listOf 43 = .ok (.if_icmp .gt 14, 3) := by decide +kernel
theorem dX5_listOf_46 : decode cX5_listOf 46 = .ok (.aload_n 0, 1) := by decide +kernel
theorem dX5_listOf_47 : decode cX5_listOf 47 = .ok (.getfield 20, 3) := by decide +kernel
theorem dX5_listOf_50 : decode cX5_listOf 50 = .ok (.iload_n 1, 1) := by decide +kernel
theorem dX5_listOf_51 : decode cX5_listOf 51 = .ok (.iconst 1, 1) := by decide +kernel
theorem dX5_listOf_52 : decode cX5_listOf 52 = .ok (.isub, 1) := by decide +kernel
theorem dX5_listOf_53 : decode cX5_listOf 53 = .ok (.aaload, 1) := by decide +kernel
theorem dX5_listOf_54 : decode cX5_listOf 54 = .ok (.goto 4, 3) := by decide +kernel
theorem dX5_listOf_57 : decode cX5_listOf 57 = .ok (.aconst_null, 1) := by decide +kernel
theorem dX5_listOf_58 : decode cX5_listOf 58 = .ok (.areturn, 1) := by decide +kernel
theorem dX5_rankOf_0 : decode cX5_rankOf 0 = .ok (.aload_n 0, 1) := by decide +kernel
theorem dX5_rankOf_1 : decode cX5_rankOf 1 = .ok (.getfield 48, 3) := by decide +kernel
theorem dX5_rankOf_4 : decode cX5_rankOf 4 = .ok (.invokevirtual 91, 3) := by decide +kernel
theorem dX5_rankOf_7 : decode cX5_rankOf 7 = .ok (.iconst 0, 1) := by decide +kernel
theorem dX5_rankOf_8 : decode cX5_rankOf 8 = .ok (.istore_n 2, 1) := by decide +kernel
theorem dX5_rankOf_9 : decode cX5_rankOf 9 = .ok (.iload_n 2, 1) := by decide +kernel
theorem dX5_rankOf_10 : decode cX5_rankOf 10 = .ok (.aload_n 1, 1) := by decide +kernel
theorem dX5_rankOf_11 : decode cX5_rankOf 11 = .ok (.getfield 92, 3) := by decide +kernel
theorem dX5_rankOf_14 : decode cX5_rankOf 14 = .ok (.if_icmp .ge 22, 3) := by decide +kernel
theorem dX5_rankOf_17 : decode cX5_rankOf 17 = .ok (.aload_n 0, 1) := by decide +kernel
theorem dX5_rankOf_18 : decode cX5_rankOf 18 = .ok (.getfield 48, 3) := by decide +kernel
theorem dX5_rankOf_21 : decode cX5_rankOf 21 = .ok (.aload_n 1, 1) := by decide +kernel
theorem dX5_rankOf_22 : decode cX5_rankOf 22 = .ok (.iload_n 2, 1) := by decide +kernel
theorem dX5_rankOf_23 : decode cX5_rankOf 23 = .ok (.invokevirtual 95, 3) := by decide +kernel
theorem dX5_rankOf_26 : decode cX5_rankOf 26 = .ok (.invokevirtual 99, 3) := by decide +kernel
theorem dX5_rankOf_29 : decode cX5_rankOf 29 = .ok (.pop, 1) := by decide +kernel
theorem dX5_rankOf_30 : decode cX5_rankOf 30 = .ok (.iinc 2 1, 3) := by decide +kernel
theorem dX5_rankOf_33 : decode cX5_rankOf 33 = .ok (.goto (-24), 3) := by decide +kernel
theorem dX5_rankOf_36 : decode cX5_rankOf 36 = .ok (.aload_n 0, 1) := by decide +kernel
theorem dX5_rankOf_37 : decode cX5_rankOf 37 = .ok (.getfield 48, 3) := by decide +kernel
theorem dX5_rankOf_40 : decode cX5_rankOf 40 = .ok (.getfield 103, 3) := by decide +kernel
theorem dX5_rankOf_43 : decode cX5_rankOf 43 = .ok (.ireturn, 1) := by decide +kernel
theorem dX5_isNovelFor_0 : decode cX5_isNovelFor 0 = .ok (.aload_n 0, 1) := by decide +kernel
theorem dX5_isNovelFor_1 : decode cX5_isNovelFor 1 = .ok (.aload_n 1, 1) := by decide +kernel
theorem dX5_isNovelFor_2 : decode cX5_isNovelFor 2 = .ok (.invokevirtual 106, 3) := by decide +kernel
theorem dX5_isNovelFor_5 : decode cX5_isNovelFor 5 = .ok (.pop, 1) := by decide +kernel
theorem dX5_isNovelFor_6 : decode cX5_isNovelFor 6 = .ok (.aload_n 0, 1) := by decide +kernel
theorem dX5_isNovelFor_7 : decode cX5_isNovelFor 7 = .ok (.getfield 48, 3) := by decide +kernel
theorem dX5_isNovelFor_10 : decode cX5_isNovelFor 10 = .ok (.iload_n 2, 1) := by decide +kernel
theorem dX5_isNovelFor_11 : decode cX5_isNovelFor 11 = .ok (.invokevirtual 110, 3) := by decide +kernel
theorem dX5_isNovelFor_14 : decode cX5_isNovelFor 14 = .ok (.invokestatic 113, 3) := by decide +kernel
theorem dX5_isNovelFor_17 : decode cX5_isNovelFor 17 = .ok (.ifCond .eq 7, 3) := by decide +kernel
theorem dX5_isNovelFor_20 : decode cX5_isNovelFor 20 = .ok (.iconst 1, 1) := by decide +kernel
theorem dX5_isNovelFor_21 : decode cX5_isNovelFor 21 = .ok (.goto 4, 3) := by decide +kernel
theorem dX5_isNovelFor_24 : decode cX5_isNovelFor 24 = .ok (.iconst 0, 1) := by decide +kernel
theorem dX5_isNovelFor_25 : decode cX5_isNovelFor 25 = .ok (.ireturn, 1) := by decide +kernel
theorem dX5_tick_0 : decode cX5_tick 0 = .ok (.aload_n 0, 1) := by decide +kernel
theorem dX5_tick_1 : decode cX5_tick 1 = .ok (.dup, 1) := by decide +kernel
theorem dX5_tick_2 : decode cX5_tick 2 = .ok (.getfield 31, 3) := by decide +kernel
theorem dX5_tick_5 : decode cX5_tick 5 = .ok (.iconst 1, 1) := by decide +kernel
theorem dX5_tick_6 : decode cX5_tick 6 = .ok (.iadd, 1) := by decide +kernel
theorem dX5_tick_7 : decode cX5_tick 7 = .ok (.putfield 31, 3) := by decide +kernel
theorem dX5_tick_10 : decode cX5_tick 10 = .ok (.iconst 0, 1) := by decide +kernel
theorem dX5_tick_11 : decode cX5_tick 11 = .ok (.istore_n 1, 1) := by decide +kernel
theorem dX5_tick_12 : decode cX5_tick 12 = .ok (.iload_n 1, 1) := by decide +kernel
theorem dX5_tick_13 : decode cX5_tick 13 = .ok (.aload_n 0, 1) := by decide +kernel
theorem dX5_tick_14 : decode cX5_tick 14 = .ok (.getfield 12, 3) := by decide +kernel
theorem dX5_tick_17 : decode cX5_tick 17 = .ok (.getfield 84, 3) := by decide +kernel
theorem dX5_tick_20 : decode cX5_tick 20 = .ok (.if_icmp .gt 66, 3) := by decide +kernel
theorem dX5_tick_23 : decode cX5_tick 23 = .ok (.iload_n 1, 1) := by decide +kernel
theorem dX5_tick_24 : decode cX5_tick 24 = .ok (.aload_n 0, 1) := by decide +kernel
theorem dX5_tick_25 : decode cX5_tick 25 = .ok (.getfield 41, 3) := by decide +kernel
theorem dX5_tick_28 : decode cX5_tick 28 = .ok (.arraylength, 1) := by decide +kernel
theorem dX5_tick_29 : decode cX5_tick 29 = .ok (.if_icmp .ge 57, 3) := by decide +kernel
theorem dX5_tick_32 : decode cX5_tick 32 = .ok (.aload_n 0, 1) := by decide +kernel
theorem dX5_tick_33 : decode cX5_tick 33 = .ok (.getfield 41, 3) := by decide +kernel
theorem dX5_tick_36 : decode cX5_tick 36 = .ok (.iload_n 1, 1) := by decide +kernel
theorem dX5_tick_37 : decode cX5_tick 37 = .ok (.aload_n 0, 1) := by decide +kernel
theorem dX5_tick_38 : decode cX5_tick 38 = .ok (.iload_n 1, 1) := by decide +kernel
theorem dX5_tick_39 : decode cX5_tick 39 = .ok (.invokevirtual 116, 3) := by decide +kernel
theorem dX5_tick_42 : decode cX5_tick 42 = .ok (.iastore, 1) := by decide +kernel
theorem dX5_tick_43 : decode cX5_tick 43 = .ok (.aload_n 0, 1) := by decide +kernel
theorem dX5_tick_44 : decode cX5_tick 44 = .ok (.getfield 41, 3) := by decide +kernel
theorem dX5_tick_47 : decode cX5_tick 47 = .ok (.iload_n 1, 1) := by decide +kernel
theorem dX5_tick_48 : decode cX5_tick 48 = .ok (.iaload, 1) := by decide +kernel
theorem dX5_tick_49 : decode cX5_tick 49 = .ok (.ifCond .eq 31, 3) := by decide +kernel
theorem dX5_tick_52 : decode cX5_tick 52 = .ok (.aload_n 0, 1) := by decide +kernel
theorem dX5_tick_53 : decode cX5_tick 53 = .ok (.getfield 12, 3) := by decide +kernel
theorem dX5_tick_56 : decode cX5_tick 56 = .ok (.iload_n 1, 1) := by decide +kernel
theorem dX5_tick_57 : decode cX5_tick 57 = .ok (.invokevirtual 119, 3) := by decide +kernel
theorem dX5_tick_60 : decode cX5_tick 60 = .ok (.ifCond .eq 20, 3) := by decide +kernel
theorem dX5_tick_63 : decode cX5_tick 63 = .ok (.aload_n 0, 1) := by decide +kernel
theorem dX5_tick_64 : decode cX5_tick 64 = .ok (.getfield 41, 3) := by decide +kernel
theorem dX5_tick_67 : decode cX5_tick 67 = .ok (.iload_n 1, 1) := by decide +kernel
theorem dX5_tick_68 : decode cX5_tick 68 = .ok (.iconst 0, 1) := by decide +kernel
theorem dX5_tick_69 : decode cX5_tick 69 = .ok (.iastore, 1) := by decide +kernel
theorem dX5_tick_70 : decode cX5_tick 70 = .ok (.aload_n 0, 1) := by decide +kernel
theorem dX5_tick_71 : decode cX5_tick 71 = .ok (.dup, 1) := by decide +kernel
theorem dX5_tick_72 : decode cX5_tick 72 = .ok (.getfield 38, 3) := by decide +kernel
theorem dX5_tick_75 : decode cX5_tick 75 = .ok (.iconst 1, 1) := by decide +kernel
theorem dX5_tick_76 : decode cX5_tick 76 = .ok (.iadd, 1) := by decide +kernel
theorem dX5_tick_77 : decode cX5_tick 77 = .ok (.putfield 38, 3) := by decide +kernel
theorem dX5_tick_80 : decode cX5_tick 80 = .ok (.iinc 1 1, 3) := by decide +kernel
theorem dX5_tick_83 : decode cX5_tick 83 = .ok (.goto (-71), 3) := by decide +kernel
theorem dX5_tick_86 : decode cX5_tick 86 = .ok (.iconst 0, 1) := by decide +kernel
theorem dX5_tick_87 : decode cX5_tick 87 = .ok (.istore_n 1, 1) := by decide +kernel
theorem dX5_tick_88 : decode cX5_tick 88 = .ok (.iload_n 1, 1) := by decide +kernel
theorem dX5_tick_89 : decode cX5_tick 89 = .ok (.aload_n 0, 1) := by decide +kernel
theorem dX5_tick_90 : decode cX5_tick 90 = .ok (.getfield 12, 3) := by decide +kernel
theorem dX5_tick_93 : decode cX5_tick 93 = .ok (.getfield 84, 3) := by decide +kernel
theorem dX5_tick_96 : decode cX5_tick 96 = .ok (.if_icmp .gt 79, 3) := by decide +kernel
theorem dX5_tick_99 : decode cX5_tick 99 = .ok (.iload_n 1, 1) := by decide +kernel
theorem dX5_tick_100 : decode cX5_tick 100 = .ok (.aload_n 0, 1) := by decide +kernel
theorem dX5_tick_101 : decode cX5_tick 101 = .ok (.getfield 41, 3) := by decide +kernel
theorem dX5_tick_104 : decode cX5_tick 104 = .ok (.arraylength, 1) := by decide +kernel
theorem dX5_tick_105 : decode cX5_tick 105 = .ok (.if_icmp .ge 70, 3) := by decide +kernel
theorem dX5_tick_108 : decode cX5_tick 108 = .ok (.aload_n 0, 1) := by decide +kernel
theorem dX5_tick_109 : decode cX5_tick 109 = .ok (.getfield 41, 3) := by decide +kernel
theorem dX5_tick_112 : decode cX5_tick 112 = .ok (.iload_n 1, 1) := by decide +kernel
theorem dX5_tick_113 : decode cX5_tick 113 = .ok (.iaload, 1) := by decide +kernel
theorem dX5_tick_114 : decode cX5_tick 114 = .ok (.ifCond .ne 6, 3) := by decide +kernel
theorem dX5_tick_117 : decode cX5_tick 117 = .ok (.goto 52, 3) := by decide +kernel
theorem dX5_tick_120 : decode cX5_tick 120 = .ok (.iload_n 1, 1) := by decide +kernel
theorem dX5_tick_121 : decode cX5_tick 121 = .ok (.aload_n 0, 1) := by decide +kernel
theorem dX5_tick_122 : decode cX5_tick 122 = .ok (.getfield 12, 3) := by decide +kernel
theorem dX5_tick_125 : decode cX5_tick 125 = .ok (.getfield 84, 3) := by decide +kernel
theorem dX5_tick_128 : decode cX5_tick 128 = .ok (.if_icmp .ne 24, 3) := by decide +kernel
theorem dX5_tick_131 : decode cX5_tick 131 = .ok (.aload_n 0, 1) := by decide +kernel
theorem dX5_tick_132 : decode cX5_tick 132 = .ok (.getfield 27, 3) := by decide +kernel
theorem dX5_tick_135 : decode cX5_tick 135 = .ok (.aload_n 0, 1) := by decide +kernel
theorem dX5_tick_136 : decode cX5_tick 136 = .ok (.getfield 41, 3) := by decide +kernel
theorem dX5_tick_139 : decode cX5_tick 139 = .ok (.iload_n 1, 1) := by decide +kernel
theorem dX5_tick_140 : decode cX5_tick 140 = .ok (.iaload, 1) := by decide +kernel
theorem dX5_tick_141 : decode cX5_tick 141 = .ok (.aload_n 0, 1) := by decide +kernel
theorem dX5_tick_142 : decode cX5_tick 142 = .ok (.getfield 31, 3) := by decide +kernel
theorem dX5_tick_145 : decode cX5_tick 145 = .ok (.invokevirtual 122, 3) := by decide +kernel
theorem dX5_tick_148 : decode cX5_tick 148 = .ok (.pop, 1) := by decide +kernel
theorem dX5_tick_149 : decode cX5_tick 149 = .ok (.goto 20, 3) := by decide +kernel
theorem dX5_tick_152 : decode cX5_tick 152 = .ok (.aload_n 0, 1) := by decide +kernel
theorem dX5_tick_153 : decode cX5_tick 153 = .ok (.aload_n 0, 1) := by decide +kernel
theorem dX5_tick_154 : decode cX5_tick 154 = .ok (.iload_n 1, 1) := by decide +kernel
theorem dX5_tick_155 : decode cX5_tick 155 = .ok (.iconst 1, 1) := by decide +kernel
theorem dX5_tick_156 : decode cX5_tick 156 = .ok (.iadd, 1) := by decide +kernel
theorem dX5_tick_157 : decode cX5_tick 157 = .ok (.invokevirtual 126, 3) := by decide +kernel
theorem dX5_tick_160 : decode cX5_tick 160 = .ok (.aload_n 0, 1) := by decide +kernel
theorem dX5_tick_161 : decode cX5_tick 161 = .ok (.getfield 41, 3) := by decide +kernel
theorem dX5_tick_164 : decode cX5_tick 164 = .ok (.iload_n 1, 1) := by decide +kernel
theorem dX5_tick_165 : decode cX5_tick 165 = .ok (.iaload, 1) := by decide +kernel
theorem dX5_tick_166 : decode cX5_tick 166 = .ok (.invokevirtual 130, 3) := by decide +kernel
theorem dX5_tick_169 : decode cX5_tick 169 = .ok (.iinc 1 1, 3) := by decide +kernel
theorem dX5_tick_172 : decode cX5_tick 172 = .ok (.goto (-84), 3) := by decide +kernel
theorem dX5_tick_175 : decode cX5_tick 175 = .ok (.return_, 1) := by decide +kernel
theorem dX5_make_0 : decode cX5_make 0 = .ok (.iload_n 1, 1) := by decide +kernel
theorem dX5_make_1 : decode cX5_make 1 = .ok (.ifCond .ne 21, 3) := by decide +kernel
theorem dX5_make_4 : decode cX5_make 4 = .ok (.aload_n 0, 1) := by decide +kernel
theorem dX5_make_5 : decode cX5_make 5 = .ok (.dup, 1) := by decide +kernel
theorem dX5_make_6 : decode cX5_make 6 = .ok (.getfield 35, 3) := by decide +kernel
theorem dX5_make_9 : decode cX5_make 9 = .ok (.iconst 1, 1) := by decide +kernel
theorem dX5_make_10 : decode cX5_make 10 = .ok (.iadd, 1) := by decide +kernel
theorem dX5_make_11 : decode cX5_make 11 = .ok (.putfield 35, 3) := by decide +kernel
theorem dX5_make_14 : decode cX5_make 14 = .ok (.aload_n 0, 1) := by decide +kernel
theorem dX5_make_15 : decode cX5_make 15 = .ok (.getfield 12, 3) := by decide +kernel
theorem dX5_make_18 : decode cX5_make 18 = .ok (.invokevirtual 134, 3) := by decide +kernel
theorem dX5_make_21 : decode cX5_make 21 = .ok (.ireturn, 1) := by decide +kernel
theorem dX5_make_22 : decode cX5_make 22 = .ok (.aload_n 0, 1) := by decide +kernel
theorem dX5_make_23 : decode cX5_make 23 = .ok (.iload_n 1, 1) := by decide +kernel
theorem dX5_make_24 : decode cX5_make 24 = .ok (.invokevirtual 126, 3) := by decide +kernel
theorem dX5_make_27 : decode cX5_make 27 = .ok (.astore_n 2, 1) := by decide +kernel
theorem dX5_make_28 : decode cX5_make 28 = .ok (.aload_n 2, 1) := by decide +kernel
theorem dX5_make_29 : decode cX5_make 29 = .ok (.ifnull 10, 3) := by decide +kernel
theorem dX5_make_32 : decode cX5_make 32 = .ok (.aload_n 2, 1) := by decide +kernel
theorem dX5_make_33 : decode cX5_make 33 = .ok (.getfield 92, 3) := by decide +kernel
theorem dX5_make_36 : decode cX5_make 36 = .ok (.ifCond .ne 5, 3) := by decide +kernel
theorem dX5_make_39 : decode cX5_make 39 = .ok (.iconst 0, 1) := by decide +kernel
theorem dX5_make_40 : decode cX5_make 40 = .ok (.ireturn, 1) := by decide +kernel
theorem dX5_make_41 : decode cX5_make 41 = .ok (.aload_n 0, 1) := by decide +kernel
theorem dX5_make_42 : decode cX5_make 42 = .ok (.getfield 12, 3) := by decide +kernel
theorem dX5_make_45 : decode cX5_make 45 = .ok (.getfield 138, 3) := by decide +kernel
theorem dX5_make_48 : decode cX5_make 48 = .ok (.iconst 1, 1) := by decide +kernel
theorem dX5_make_49 : decode cX5_make 49 = .ok (.if_icmp .ne 11, 3) := by decide +kernel
theorem dX5_make_52 : decode cX5_make 52 = .ok (.aload_n 0, 1) := by decide +kernel
theorem dX5_make_53 : decode cX5_make 53 = .ok (.aload_n 2, 1) := by decide +kernel
theorem dX5_make_54 : decode cX5_make 54 = .ok (.invokevirtual 141, 3) := by decide +kernel
theorem dX5_make_57 : decode cX5_make 57 = .ok (.goto 8, 3) := by decide +kernel
theorem dX5_make_60 : decode cX5_make 60 = .ok (.aload_n 0, 1) := by decide +kernel
theorem dX5_make_61 : decode cX5_make 61 = .ok (.aload_n 2, 1) := by decide +kernel
theorem dX5_make_62 : decode cX5_make 62 = .ok (.invokevirtual 144, 3) := by decide +kernel
theorem dX5_make_65 : decode cX5_make 65 = .ok (.ireturn, 1) := by decide +kernel
theorem dX5_forward_0 : decode cX5_forward 0 = .ok (.aload_n 1, 1) := by decide +kernel
theorem dX5_forward_1 : decode cX5_forward 1 = .ok (.iconst 0, 1) := by decide +kernel
theorem dX5_forward_2 : decode cX5_forward 2 = .ok (.invokevirtual 147, 3) := by decide +kernel
theorem dX5_forward_5 : decode cX5_forward 5 = .ok (.istore_n 2, 1) := by decide +kernel
theorem dX5_forward_6 : decode cX5_forward 6 = .ok (.aload_n 1, 1) := by decide +kernel
theorem dX5_forward_7 : decode cX5_forward 7 = .ok (.iload_n 2, 1) := by decide +kernel
theorem dX5_forward_8 : decode cX5_forward 8 = .ok (.invokevirtual 150, 3) := by decide +kernel
theorem dX5_forward_11 : decode cX5_forward 11 = .ok (.iload_n 2, 1) := by decide +kernel
theorem dX5_forward_12 : decode cX5_forward 12 = .ok (.ireturn, 1) := by decide +kernel
theorem dX5_recode_0 : decode cX5_recode 0 = .ok (.iconst 0, 1) := by decide +kernel
theorem dX5_recode_1 : decode cX5_recode 1 = .ok (.istore_n 2, 1) := by decide +kernel
theorem dX5_recode_2 : decode cX5_recode 2 = .ok (.iconst 0, 1) := by decide +kernel
theorem dX5_recode_3 : decode cX5_recode 3 = .ok (.istore_n 3, 1) := by decide +kernel
theorem dX5_recode_4 : decode cX5_recode 4 = .ok (.iconst 0, 1) := by decide +kernel
theorem dX5_recode_5 : decode cX5_recode 5 = .ok (.istore 4, 2) := by decide +kernel
theorem dX5_recode_7 : decode cX5_recode 7 = .ok (.iload 4, 2) := by decide +kernel
theorem dX5_recode_9 : decode cX5_recode 9 = .ok (.aload_n 1, 1) := by decide +kernel
theorem dX5_recode_10 : decode cX5_recode 10 = .ok (.getfield 92, 3) := by decide +kernel
theorem dX5_recode_13 : decode cX5_recode 13 = .ok (.if_icmp .ge 32, 3) := by decide +kernel
theorem dX5_recode_16 : decode cX5_recode 16 = .ok (.aload_n 0, 1) := by decide +kernel
theorem dX5_recode_17 : decode cX5_recode 17 = .ok (.getfield 12, 3) := by decide +kernel
theorem dX5_recode_20 : decode cX5_recode 20 = .ok (.iconst 2, 1) := by decide +kernel
theorem dX5_recode_21 : decode cX5_recode 21 = .ok (.invokevirtual 153, 3) := by decide +kernel
theorem dX5_recode_24 : decode cX5_recode 24 = .ok (.iconst 1, 1) := by decide +kernel
theorem dX5_recode_25 : decode cX5_recode 25 = .ok (.if_icmp .ne 14, 3) := by decide +kernel
theorem dX5_recode_28 : decode cX5_recode 28 = .ok (.iload_n 2, 1) := by decide +kernel
theorem dX5_recode_29 : decode cX5_recode 29 = .ok (.aload_n 1, 1) := by decide +kernel
theorem dX5_recode_30 : decode cX5_recode 30 = .ok (.iload 4, 2) := by decide +kernel
theorem dX5_recode_32 : decode cX5_recode 32 = .ok (.invokevirtual 95, 3) := by decide +kernel
theorem dX5_recode_35 : decode cX5_recode 35 = .ok (.ixor, 1) := by decide +kernel
theorem dX5_recode_36 : decode cX5_recode 36 = .ok (.istore_n 2, 1) := by decide +kernel
theorem dX5_recode_37 : decode cX5_recode 37 = .ok (.iconst 1, 1) := by decide +kernel
theorem dX5_recode_38 : decode cX5_recode 38 = .ok (.istore_n 3, 1) := by decide +kernel
theorem dX5_recode_39 : decode cX5_recode 39 = .ok (.iinc 4 1, 3) := by decide +kernel
theorem dX5_recode_42 : decode cX5_recode 42 = .ok (.goto (-35), 3) := by decide +kernel
theorem dX5_recode_45 : decode cX5_recode 45 = .ok (.iload_n 3, 1) := by decide +kernel
theorem dX5_recode_46 : decode cX5_recode 46 = .ok (.ifCond .ne 9, 3) := by decide +kernel
theorem dX5_recode_49 : decode cX5_recode 49 = .ok (.aload_n 1, 1) := by decide +kernel
theorem dX5_recode_50 : decode cX5_recode 50 = .ok (.iconst 0, 1) := by decide +kernel
theorem dX5_recode_51 : decode cX5_recode 51 = .ok (.invokevirtual 95, 3) := by decide +kernel
theorem dX5_recode_54 : decode cX5_recode 54 = .ok (.ireturn, 1) := by decide +kernel
theorem dX5_recode_55 : decode cX5_recode 55 = .ok (.iload_n 2, 1) := by decide +kernel
theorem dX5_recode_56 : decode cX5_recode 56 = .ok (.invokestatic 113, 3) := by decide +kernel
theorem dX5_recode_59 : decode cX5_recode 59 = .ok (.ifCond .ne 7, 3) := by decide +kernel
theorem dX5_recode_62 : decode cX5_recode 62 = .ok (.iconst 0, 1) := by decide +kernel
theorem dX5_recode_63 : decode cX5_recode 63 = .ok (.goto 4, 3) := by decide +kernel
theorem dX5_recode_66 : decode cX5_recode 66 = .ok (.iload_n 2, 1) := by decide +kernel
theorem dX5_recode_67 : decode cX5_recode 67 = .ok (.ireturn, 1) := by decide +kernel
theorem dX5_store_0 : decode cX5_store 0 = .ok (.aload_n 1, 1) := by decide +kernel
theorem dX5_store_1 : decode cX5_store 1 = .ok (.ifnull 23, 3) := by decide +kernel
theorem dX5_store_4 : decode cX5_store 4 = .ok (.aload_n 0, 1) := by decide +kernel
theorem dX5_store_5 : decode cX5_store 5 = .ok (.getfield 12, 3) := by decide +kernel
theorem dX5_store_8 : decode cX5_store 8 = .ok (.getfield 156, 3) := by decide +kernel
theorem dX5_store_11 : decode cX5_store 11 = .ok (.iconst 2, 1) := by decide +kernel
theorem dX5_store_12 : decode cX5_store 12 = .ok (.if_icmp .ne 13, 3) := by decide +kernel
theorem dX5_store_15 : decode cX5_store 15 = .ok (.aload_n 0, 1) := by decide +kernel
theorem dX5_store_16 : decode cX5_store 16 = .ok (.aload_n 1, 1) := by decide +kernel
theorem dX5_store_17 : decode cX5_store 17 = .ok (.iload_n 2, 1) := by decide +kernel
theorem dX5_store_18 : decode cX5_store 18 = .ok (.invokevirtual 159, 3) := by decide +kernel
theorem dX5_store_21 : decode cX5_store 21 = .ok (.ifCond .ne 4, 3) := by decide +kernel
theorem dX5_store_24 : decode cX5_store 24 = .ok (.return_, 1) := by decide +kernel
theorem dX5_store_25 : decode cX5_store 25 = .ok (.aload_n 1, 1) := by decide +kernel
theorem dX5_store_26 : decode cX5_store 26 = .ok (.getfield 92, 3) := by decide +kernel
theorem dX5_store_29 : decode cX5_store 29 = .ok (.aload_n 0, 1) := by decide +kernel
theorem dX5_store_30 : decode cX5_store 30 = .ok (.getfield 12, 3) := by decide +kernel
theorem dX5_store_33 : decode cX5_store 33 = .ok (.getfield 63, 3) := by decide +kernel
theorem dX5_store_36 : decode cX5_store 36 = .ok (.if_icmp .ge 9, 3) := by decide +kernel
theorem dX5_store_39 : decode cX5_store 39 = .ok (.aload_n 1, 1) := by decide +kernel
theorem dX5_store_40 : decode cX5_store 40 = .ok (.iload_n 2, 1) := by decide +kernel
theorem dX5_store_41 : decode cX5_store 41 = .ok (.invokevirtual 150, 3) := by decide +kernel
theorem dX5_store_44 : decode cX5_store 44 = .ok (.return_, 1) := by decide +kernel
theorem dX5_store_45 : decode cX5_store 45 = .ok (.aload_n 0, 1) := by decide +kernel
theorem dX5_store_46 : decode cX5_store 46 = .ok (.getfield 12, 3) := by decide +kernel
theorem dX5_store_49 : decode cX5_store 49 = .ok (.getfield 156, 3) := by decide +kernel
theorem dX5_store_52 : decode cX5_store 52 = .ok (.tableswitch 66 1 3 #[28, 29, 45], 28) := by decide +kernel
theorem dX5_store_80 : decode cX5_store 80 = .ok (.return_, 1) := by decide +kernel
theorem dX5_store_81 : decode cX5_store 81 = .ok (.aload_n 1, 1) := by decide +kernel
theorem dX5_store_82 : decode cX5_store 82 = .ok (.aload_n 1, 1) := by decide +kernel
theorem dX5_store_83 : decode cX5_store 83 = .ok (.iload_n 2, 1) := by decide +kernel
theorem dX5_store_84 : decode cX5_store 84 = .ok (.invokevirtual 163, 3) := by decide +kernel
theorem dX5_store_87 : decode cX5_store 87 = .ok (.invokevirtual 147, 3) := by decide +kernel
theorem dX5_store_90 : decode cX5_store 90 = .ok (.pop, 1) := by decide +kernel
theorem dX5_store_91 : decode cX5_store 91 = .ok (.aload_n 1, 1) := by decide +kernel
theorem dX5_store_92 : decode cX5_store 92 = .ok (.iload_n 2, 1) := by decide +kernel
theorem dX5_store_93 : decode cX5_store 93 = .ok (.invokevirtual 150, 3) := by decide +kernel
theorem dX5_store_96 : decode cX5_store 96 = .ok (.return_, 1) := by decide +kernel
theorem dX5_store_97 : decode cX5_store 97 = .ok (.aload_n 1, 1) := by decide +kernel
theorem dX5_store_98 : decode cX5_store 98 = .ok (.iconst 0, 1) := by decide +kernel
theorem dX5_store_99 : decode cX5_store 99 = .ok (.invokevirtual 147, 3) := by decide +kernel
theorem dX5_store_102 : decode cX5_store 102 = .ok (.iload_n 2, 1) := by decide +kernel
theorem dX5_store_103 : decode cX5_store 103 = .ok (.ixor, 1) := by decide +kernel
theorem dX5_store_104 : decode cX5_store 104 = .ok (.istore_n 3, 1) := by decide +kernel
theorem dX5_store_105 : decode cX5_store 105 = .ok (.iload_n 3, 1) := by decide +kernel
theorem dX5_store_106 : decode cX5_store 106 = .ok (.invokestatic 113, 3) := by decide +kernel
theorem dX5_store_109 : decode cX5_store 109 = .ok (.ifCond .eq 8, 3) := by decide +kernel
theorem dX5_store_112 : decode cX5_store 112 = .ok (.aload_n 1, 1) := by decide +kernel
theorem dX5_store_113 : decode cX5_store 113 = .ok (.iload_n 3, 1) := by decide +kernel
theorem dX5_store_114 : decode cX5_store 114 = .ok (.invokevirtual 150, 3) := by decide +kernel
theorem dX5_store_117 : decode cX5_store 117 = .ok (.return_, 1) := by decide +kernel
theorem dX5_store_118 : decode cX5_store 118 = .ok (.aload_n 1, 1) := by decide +kernel
theorem dX5_store_119 : decode cX5_store 119 = .ok (.iconst 0, 1) := by decide +kernel
theorem dX5_store_120 : decode cX5_store 120 = .ok (.invokevirtual 147, 3) := by decide +kernel
theorem dX5_store_123 : decode cX5_store 123 = .ok (.pop, 1) := by decide +kernel
theorem dX5_store_124 : decode cX5_store 124 = .ok (.aload_n 1, 1) := by decide +kernel
theorem dX5_store_125 : decode cX5_store 125 = .ok (.iload_n 2, 1) := by decide +kernel
theorem dX5_store_126 : decode cX5_store 126 = .ok (.invokevirtual 150, 3) := by decide +kernel
theorem dX5_store_129 : decode cX5_store 129 = .ok (.return_, 1) := by decide +kernel
theorem dX5_copyFrom_0 : decode cX5_copyFrom 0 = .ok (.aload_n 0, 1) := by decide +kernel
theorem dX5_copyFrom_1 : decode cX5_copyFrom 1 = .ok (.getfield 12, 3) := by decide +kernel
theorem dX5_copyFrom_4 : decode cX5_copyFrom 4 = .ok (.aload_n 1, 1) := by decide +kernel
theorem dX5_copyFrom_5 : decode cX5_copyFrom 5 = .ok (.getfield 12, 3) := by decide +kernel
theorem dX5_copyFrom_8 : decode cX5_copyFrom 8 = .ok (.invokevirtual 166, 3) := by decide +kernel
theorem dX5_copyFrom_11 : decode cX5_copyFrom 11 = .ok (.iconst 0, 1) := by decide +kernel
theorem dX5_copyFrom_12 : decode cX5_copyFrom 12 = .ok (.istore_n 2, 1) := by decide +kernel
theorem dX5_copyFrom_13 : decode cX5_copyFrom 13 = .ok (.iload_n 2, 1) := by decide +kernel
theorem dX5_copyFrom_14 : decode cX5_copyFrom 14 = .ok (.aload_n 0, 1) := by decide +kernel
theorem dX5_copyFrom_15 : decode cX5_copyFrom 15 = .ok (.getfield 20, 3) := by decide +kernel
theorem dX5_copyFrom_18 : decode cX5_copyFrom 18 = .ok (.arraylength, 1) := by decide +kernel
theorem dX5_copyFrom_19 : decode cX5_copyFrom 19 = .ok (.if_icmp .ge 33, 3) := by decide +kernel
theorem dX5_copyFrom_22 : decode cX5_copyFrom 22 = .ok (.iload_n 2, 1) := by decide +kernel
theorem dX5_copyFrom_23 : decode cX5_copyFrom 23 = .ok (.aload_n 1, 1) := by decide +kernel
theorem dX5_copyFrom_24 : decode cX5_copyFrom 24 = .ok (.getfield 20, 3) := by decide +kernel
theorem dX5_copyFrom_27 : decode cX5_copyFrom 27 = .ok (.arraylength, 1) := by decide +kernel
theorem dX5_copyFrom_28 : decode cX5_copyFrom 28 = .ok (.if_icmp .ge 24, 3) := by decide +kernel
theorem dX5_copyFrom_31 : decode cX5_copyFrom 31 = .ok (.aload_n 0, 1) := by decide +kernel
theorem dX5_copyFrom_32 : decode cX5_copyFrom 32 = .ok (.getfield 20, 3) := by decide +kernel
theorem dX5_copyFrom_35 : decode cX5_copyFrom 35 = .ok (.iload_n 2, 1) := by decide +kernel
theorem dX5_copyFrom_36 : decode cX5_copyFrom 36 = .ok (.aaload, 1) := by decide +kernel
theorem dX5_copyFrom_37 : decode cX5_copyFrom 37 = .ok (.aload_n 1, 1) := by decide +kernel
theorem dX5_copyFrom_38 : decode cX5_copyFrom 38 = .ok (.getfield 20, 3) := by decide +kernel
theorem dX5_copyFrom_41 : decode cX5_copyFrom 41 = .ok (.iload_n 2, 1) := by decide +kernel
theorem dX5_copyFrom_42 : decode cX5_copyFrom 42 = .ok (.aaload, 1) := by decide +kernel
theorem dX5_copyFrom_43 : decode cX5_copyFrom 43 = .ok (.invokevirtual 170, 3) := by decide +kernel
theorem dX5_copyFrom_46 : decode cX5_copyFrom 46 = .ok (.iinc 2 1, 3) := by decide +kernel
theorem dX5_copyFrom_49 : decode cX5_copyFrom 49 = .ok (.goto (-36), 3) := by decide +kernel
theorem dX5_copyFrom_52 : decode cX5_copyFrom 52 = .ok (.aload_n 0, 1) := by decide +kernel
theorem dX5_copyFrom_53 : decode cX5_copyFrom 53 = .ok (.getfield 27, 3) := by decide +kernel
theorem dX5_copyFrom_56 : decode cX5_copyFrom 56 = .ok (.aload_n 1, 1) := by decide +kernel
theorem dX5_copyFrom_57 : decode cX5_copyFrom 57 = .ok (.getfield 27, 3) := by decide +kernel
theorem dX5_copyFrom_60 : decode cX5_copyFrom 60 = .ok (.invokevirtual 173, 3) := by decide +kernel
theorem dX5_copyFrom_63 : decode cX5_copyFrom 63 = .ok (.aload_n 0, 1) := by decide +kernel
theorem dX5_copyFrom_64 : decode cX5_copyFrom 64 = .ok (.aload_n 1, 1) := by decide +kernel
theorem dX5_copyFrom_65 : decode cX5_copyFrom 65 = .ok (.getfield 31, 3) := by decide +kernel
theorem dX5_copyFrom_68 : decode cX5_copyFrom 68 = .ok (.putfield 31, 3) := by decide +kernel
theorem dX5_copyFrom_71 : decode cX5_copyFrom 71 = .ok (.aload_n 0, 1) := by decide +kernel
theorem dX5_copyFrom_72 : decode cX5_copyFrom 72 = .ok (.aload_n 1, 1) := by decide +kernel
theorem dX5_copyFrom_73 : decode cX5_copyFrom 73 = .ok (.getfield 35, 3) := by decide +kernel
theorem dX5_copyFrom_76 : decode cX5_copyFrom 76 = .ok (.putfield 35, 3) := by decide +kernel
theorem dX5_copyFrom_79 : decode cX5_copyFrom 79 = .ok (.aload_n 0, 1) := by decide +kernel
theorem dX5_copyFrom_80 : decode cX5_copyFrom 80 = .ok (.aload_n 1, 1) := by decide +kernel
theorem dX5_copyFrom_81 : decode cX5_copyFrom 81 = .ok (.getfield 38, 3) := by decide +kernel
theorem dX5_copyFrom_84 : decode cX5_copyFrom 84 = .ok (.putfield 38, 3) := by decide +kernel
theorem dX5_copyFrom_87 : decode cX5_copyFrom 87 = .ok (.return_, 1) := by decide +kernel
end
section
theorem dX6_init_0 : decode cX6_init 0 = .ok (.aload_n 0, 1) := by decide +kernel
theorem dX6_init_1 : decode cX6_init 1 = .ok (.invokespecial 1, 3) := by decide +kernel
theorem dX6_init_4 : decode cX6_init 4 = .ok (.aload_n 0, 1) := by decide +kernel
theorem dX6_init_5 : decode cX6_init 5 = .ok (.new 7, 3) := by decide +kernel
theorem dX6_init_8 : decode cX6_init 8 = .ok (.dup, 1) := by decide +kernel
theorem dX6_init_9 : decode cX6_init 9 = .ok (.invokespecial 9, 3) := by decide +kernel
theorem dX6_init_12 : decode cX6_init 12 = .ok (.putfield 10, 3) := by decide +kernel
theorem dX6_init_15 : decode cX6_init 15 = .ok (.aload_n 0, 1) := by decide +kernel
theorem dX6_init_16 : decode cX6_init 16 = .ok (.new 7, 3) := by decide +kernel
theorem dX6_init_19 : decode cX6_init 19 = .ok (.dup, 1) := by decide +kernel
theorem dX6_init_20 : decode cX6_init 20 = .ok (.invokespecial 9, 3) := by decide +kernel
theorem dX6_init_23 : decode cX6_init 23 = .ok (.putfield 16, 3) := by decide +kernel
theorem dX6_init_26 : decode cX6_init 26 = .ok (.aload_n 0, 1) := by decide +kernel
theorem dX6_init_27 : decode cX6_init 27 = .ok (.bipush 8, 2) := by decide +kernel
theorem dX6_init_29 : decode cX6_init 29 = .ok (.anewarray 7, 3) := by decide +kernel
theorem dX6_init_32 : decode cX6_init 32 = .ok (.putfield 19, 3) := by decide +kernel
theorem dX6_init_35 : decode cX6_init 35 = .ok (.aload_n 0, 1) := by decide +kernel
theorem dX6_init_36 : decode cX6_init 36 = .ok (.iconst 2, 1) := by decide +kernel
theorem dX6_init_37 : decode cX6_init 37 = .ok (.anewarray 7, 3) := by decide +kernel
theorem dX6_init_40 : decode cX6_init 40 = .ok (.putfield 23, 3) := by decide +kernel
theorem dX6_init_43 : decode cX6_init 43 = .ok (.aload_n 0, 1) := by decide +kernel
theorem dX6_init_44 : decode cX6_init 44 = .ok (.iconst 2, 1) := by decide +kernel
theorem dX6_init_45 : decode cX6_init 45 = .ok (.newarray .boolean, 2) := by decide +kernel
theorem dX6_init_47 : decode cX6_init 47 = .ok (.putfield 26, 3) := by decide +kernel
theorem dX6_init_50 : decode cX6_init 50 = .ok (.aload_n 0, 1) := by decide +kernel
theorem dX6_init_51 : decode cX6_init 51 = .ok (.iconst 0, 1) := by decide +kernel
theorem dX6_init_52 : decode cX6_init 52 = .ok (.putfield 30, 3) := by decide +kernel
theorem dX6_init_55 : decode cX6_init 55 = .ok (.iconst 0, 1) := by decide +kernel
theorem dX6_init_56 : decode cX6_init 56 = .ok (.istore_n 1, 1) := by decide +kernel
theorem dX6_init_57 : decode cX6_init 57 = .ok (.iload_n 1, 1) := by decide +kernel
theorem dX6_init_58 : decode cX6_init 58 = .ok (.aload_n 0, 1) := by decide +kernel
theorem dX6_init_59 : decode cX6_init 59 = .ok (.getfield 19, 3) := by decide +kernel
theorem dX6_init_62 : decode cX6_init 62 = .ok (.arraylength, 1) := by decide +kernel
theorem dX6_init_63 : decode cX6_init 63 = .ok (.if_icmp .ge 22, 3) := by decide +kernel
theorem dX6_init_66 : decode cX6_init 66 = .ok (.aload_n 0, 1) := by decide +kernel
theorem dX6_init_67 : decode cX6_init 67 = .ok (.getfield 19, 3) := by decide +kernel
theorem dX6_init_70 : decode cX6_init 70 = .ok (.iload_n 1, 1) := by decide +kernel
theorem dX6_init_71 : decode cX6_init 71 = .ok (.new 7, 3) := by decide +kernel
theorem dX6_init_74 : decode cX6_init 74 = .ok (.dup, 1) := by decide +kernel
theorem dX6_init_75 : decode cX6_init 75 = .ok (.invokespecial 9, 3) := by decide +kernel
theorem dX6_init_78 : decode cX6_init 78 = .ok (.aastore, 1) := by decide +kernel
theorem dX6_init_79 : decode cX6_init 79 = .ok (.iinc 1 1, 3) := by decide +kernel
theorem dX6_init_82 : decode cX6_init 82 = .ok (.goto (-25), 3) := by decide +kernel
theorem dX6_init_85 : decode cX6_init 85 = .ok (.iconst 0, 1) := by decide +kernel
theorem dX6_init_86 : decode cX6_init 86 = .ok (.istore_n 1, 1) := by decide +kernel
theorem dX6_init_87 : decode cX6_init 87 = .ok (.iload_n 1, 1) := by decide +kernel
theorem dX6_init_88 : decode cX6_init 88 = .ok (.aload_n 0, 1) := by decide +kernel
theorem dX6_init_89 : decode cX6_init 89 = .ok (.getfield 23, 3) := by decide +kernel
theorem dX6_init_92 : decode cX6_init 92 = .ok (.arraylength, 1) := by decide +kernel
theorem dX6_init_93 : decode cX6_init 93 = .ok (.if_icmp .ge 22, 3) := by decide +kernel
theorem dX6_init_96 : decode cX6_init 96 = .ok (.aload_n 0, 1) := by decide +kernel
theorem dX6_init_97 : decode cX6_init 97 = .ok (.getfield 23, 3) := by decide +kernel
theorem dX6_init_100 : decode cX6_init 100 = .ok (.iload_n 1, 1) := by decide +kernel
theorem dX6_init_101 : decode cX6_init 101 = .ok (.new 7, 3) := by decide +kernel
theorem dX6_init_104 : decode cX6_init 104 = .ok (.dup, 1) := by decide +kernel
theorem dX6_init_105 : decode cX6_init 105 = .ok (.invokespecial 9, 3) := by decide +kernel
theorem dX6_init_108 : decode cX6_init 108 = .ok (.aastore, 1) := by decide +kernel
theorem dX6_init_109 : decode cX6_init 109 = .ok (.iinc 1 1, 3) := by decide +kernel
theorem dX6_init_112 : decode cX6_init 112 = .ok (.goto (-25), 3) := by decide +kernel
theorem dX6_init_115 : decode cX6_init 115 = .ok (.return_, 1) := by decide +kernel
theorem dX6_begin_0 : decode cX6_begin 0 = .ok (.iload_n 1, 1) := by decide +kernel
theorem dX6_begin_1 : decode cX6_begin 1 = .ok (.iconst 2, 1) := by decide +kernel
theorem dX6_begin_2 : decode cX6_begin 2 = .ok (.bipush 12, 2) := by decide +kernel
theorem dX6_begin_4 : decode cX6_begin 4 = .ok (.invokestatic 34, 3) := by decide +kernel
theorem dX6_begin_7 : decode cX6_begin 7 = .ok (.ifCond .eq 12, 3) := by decide +kernel
theorem dX6_begin_10 : decode cX6_begin 10 = .ok (.iload_n 2, 1) := by decide +kernel
theorem dX6_begin_11 : decode cX6_begin 11 = .ok (.iconst 0, 1) := by decide +kernel
theorem dX6_begin_12 : decode cX6_begin 12 = .ok (.iconst 3, 1) := by decide +kernel
theorem dX6_begin_13 : decode cX6_begin 13 = .ok (.invokestatic 34, 3) := by decide +kernel
theorem dX6_begin_16 : decode cX6_begin 16 = .ok (.ifCond .ne 5, 3) := by decide +kernel
theorem dX6_begin_19 : decode cX6_begin 19 = .ok (.iconst (-1), 1) := by decide +kernel
theorem dX6_begin_20 : decode cX6_begin 20 = .ok (.ireturn, 1) := by decide +kernel
theorem dX6_begin_21 : decode cX6_begin 21 = .ok (.aload_n 0, 1) := by decide +kernel
theorem dX6_begin_22 : decode cX6_begin 22 = .ok (.invokevirtual 38, 3) := by decide +kernel
theorem dX6_begin_25 : decode cX6_begin 25 = .ok (.aload_n 0, 1) := by decide +kernel
theorem dX6_begin_26 : decode cX6_begin 26 = .ok (.getfield 10, 3) := by decide +kernel
theorem dX6_begin_29 : decode cX6_begin 29 = .ok (.getfield 41, 3) := by decide +kernel
theorem dX6_begin_32 : decode cX6_begin 32 = .ok (.istore_n 3, 1) := by decide +kernel
theorem dX6_begin_33 : decode cX6_begin 33 = .ok (.aload_n 0, 1) := by decide +kernel
theorem dX6_begin_34 : decode cX6_begin 34 = .ok (.getfield 10, 3) := by decide +kernel
theorem dX6_begin_37 : decode cX6_begin 37 = .ok (.iload_n 1, 1) := by decide +kernel
theorem dX6_begin_38 : decode cX6_begin 38 = .ok (.iload_n 2, 1) := by decide +kernel
theorem dX6_begin_39 : decode cX6_begin 39 = .ok (.invokevirtual 44, 3) := by decide +kernel
theorem dX6_begin_42 : decode cX6_begin 42 = .ok (.iload_n 3, 1) := by decide +kernel
theorem dX6_begin_43 : decode cX6_begin 43 = .ok (.ireturn, 1) := by decide +kernel
theorem dX6_setBlock_0 : decode cX6_setBlock 0 = .ok (.aload_n 0, 1) := by decide +kernel
theorem dX6_setBlock_1 : decode cX6_setBlock 1 = .ok (.iload_n 1, 1) := by decide +kernel
theorem dX6_setBlock_2 : decode cX6_setBlock 2 = .ok (.invokevirtual 48, 3) := by decide +kernel
theorem dX6_setBlock_5 : decode cX6_setBlock 5 = .ok (.ifCond .eq 14, 3) := by decide +kernel
theorem dX6_setBlock_8 : decode cX6_setBlock 8 = .ok (.iload_n 2, 1) := by decide +kernel
theorem dX6_setBlock_9 : decode cX6_setBlock 9 = .ok (.iconst 0, 1) := by decide +kernel
theorem dX6_setBlock_10 : decode cX6_setBlock 10 = .ok (.sipush 255, 3) := by decide +kernel
theorem dX6_setBlock_13 : decode cX6_setBlock 13 = .ok (.invokestatic 34, 3) := by decide +kernel
theorem dX6_setBlock_16 : decode cX6_setBlock 16 = .ok (.ifCond .ne 5, 3) := by decide +kernel
theorem dX6_setBlock_19 : decode cX6_setBlock 19 = .ok (.iconst (-1), 1) := by decide +kernel
theorem dX6_setBlock_20 : decode cX6_setBlock 20 = .ok (.ireturn, 1) := by decide +kernel
theorem dX6_setBlock_21 : decode cX6_setBlock 21 = .ok (.aload_n 0, 1) := by decide +kernel
theorem dX6_setBlock_22 : decode cX6_setBlock 22 = .ok (.getfield 10, 3) := by decide +kernel
theorem dX6_setBlock_25 : decode cX6_setBlock 25 = .ok (.getfield 41, 3) := by decide +kernel
theorem dX6_setBlock_28 : decode cX6_setBlock 28 = .ok (.ifCond .ne 16, 3) := by decide +kernel
theorem dX6_setBlock_31 : decode cX6_setBlock 31 = .ok (.aload_n 0, 1) := by decide +kernel
theorem dX6_setBlock_32 : decode cX6_setBlock 32 = .ok (.getfield 10, 3) := by decide +kernel
theorem dX6_setBlock_35 : decode cX6_setBlock 35 = .ok (.getfield 52, 3) := by decide +kernel
theorem dX6_setBlock_38 : decode cX6_setBlock 38 = .ok (.getfield 56, 3) := by decide +kernel
theorem dX6_setBlock_41 : decode cX6_setBlock 41 = .ok (.ifCond .eq 6, 3) := by decide +kernel
theorem dX6_setBlock_44 : decode cX6_setBlock 44 = .ok (.bipush (-2), 2) := by decide +kernel
theorem dX6_setBlock_46 : decode cX6_setBlock 46 = .ok (.ireturn, 1) := by decide +kernel
theorem dX6_setBlock_47 : decode cX6_setBlock 47 = .ok (.aload_n 0, 1) := by decide +kernel
theorem dX6_setBlock_48 : decode cX6_setBlock 48 = .ok (.invokevirtual 38, 3) := by decide +kernel
theorem dX6_setBlock_51 : decode cX6_setBlock 51 = .ok (.aload_n 0, 1) := by decide +kernel
theorem dX6_setBlock_52 : decode cX6_setBlock 52 = .ok (.getfield 10, 3) := by decide +kernel
theorem dX6_setBlock_55 : decode cX6_setBlock 55 = .ok (.getfield 61, 3) := by decide +kernel
theorem dX6_setBlock_58 : decode cX6_setBlock 58 = .ok (.getfield 65, 3) := by decide +kernel
theorem dX6_setBlock_61 : decode cX6_setBlock 61 = .ok (.iload_n 1, 1) := by decide +kernel
theorem dX6_setBlock_62 : decode cX6_setBlock 62 = .ok (.iaload, 1) := by decide +kernel
theorem dX6_setBlock_63 : decode cX6_setBlock 63 = .ok (.istore_n 3, 1) := by decide +kernel
theorem dX6_setBlock_64 : decode cX6_setBlock 64 = .ok (.aload_n 0, 1) := by decide +kernel
theorem dX6_setBlock_65 : decode cX6_setBlock 65 = .ok (.getfield 10, 3) := by decide +kernel
theorem dX6_setBlock_68 : decode cX6_setBlock 68 = .ok (.getfield 61, 3) := by decide +kernel
theorem dX6_setBlock_71 : decode cX6_setBlock 71 = .ok (.getfield 65, 3) := by decide +kernel
theorem dX6_setBlock_74 : decode cX6_setBlock 74 = .ok (.iload_n 1, 1) := by decide +kernel
theorem dX6_setBlock_75 : decode cX6_setBlock 75 = .ok (.iload_n 2, 1) := by decide +kernel
theorem dX6_setBlock_76 : decode cX6_setBlock 76 = .ok (.iastore, 1) := by decide +kernel
theorem dX6_setBlock_77 : decode cX6_setBlock 77 = .ok (.iload_n 3, 1) := by decide +kernel
theorem dX6_setBlock_78 : decode cX6_setBlock 78 = .ok (.ireturn, 1) := by decide +kernel
theorem dX6_setLoss_0 : decode cX6_setLoss 0 = .ok (.aload_n 0, 1) := by decide +kernel
theorem dX6_setLoss_1 : decode cX6_setLoss 1 = .ok (.iload_n 1, 1) := by decide +kernel
theorem dX6_setLoss_2 : decode cX6_setLoss 2 = .ok (.invokevirtual 71, 3) := by decide +kernel
theorem dX6_setLoss_5 : decode cX6_setLoss 5 = .ok (.ifCond .eq 13, 3) := by decide +kernel
theorem dX6_setLoss_8 : decode cX6_setLoss 8 = .ok (.iload_n 2, 1) := by decide +kernel
theorem dX6_setLoss_9 : decode cX6_setLoss 9 = .ok (.iconst 0, 1) := by decide +kernel
theorem dX6_setLoss_10 : decode cX6_setLoss 10 = .ok (.bipush 99, 2) := by decide +kernel
theorem dX6_setLoss_12 : decode cX6_setLoss 12 = .ok (.invokestatic 34, 3) := by decide +kernel
theorem dX6_setLoss_15 : decode cX6_setLoss 15 = .ok (.ifCond .ne 5, 3) := by decide +kernel
theorem dX6_setLoss_18 : decode cX6_setLoss 18 = .ok (.iconst (-1), 1) := by decide +kernel
theorem dX6_setLoss_19 : decode cX6_setLoss 19 = .ok (.ireturn, 1) := by decide +kernel
theorem dX6_setLoss_20 : decode cX6_setLoss 20 = .ok (.aload_n 0, 1) := by decide +kernel
theorem dX6_setLoss_21 : decode cX6_setLoss 21 = .ok (.invokevirtual 38, 3) := by decide +kernel
theorem dX6_setLoss_24 : decode cX6_setLoss 24 = .ok (.aload_n 0, 1) := by decide +kernel
theorem dX6_setLoss_25 : decode cX6_setLoss 25 = .ok (.getfield 10, 3) := by decide +kernel
theorem dX6_setLoss_28 : decode cX6_setLoss 28 = .ok (.getfield 61, 3) := by decide +kernel
theorem dX6_setLoss_31 : decode cX6_setLoss 31 = .ok (.getfield 74, 3) := by decide +kernel
theorem dX6_setLoss_34 : decode cX6_setLoss 34 = .ok (.iload_n 1, 1) := by decide +kernel
theorem dX6_setLoss_35 : decode cX6_setLoss 35 = .ok (.iaload, 1) := by decide +kernel
theorem dX6_setLoss_36 : decode cX6_setLoss 36 = .ok (.istore_n 3, 1) := by decide +kernel
theorem dX6_setLoss_37 : decode cX6_setLoss 37 = .ok (.aload_n 0, 1) := by decide +kernel
theorem dX6_setLoss_38 : decode cX6_setLoss 38 = .ok (.getfield 10, 3) := by decide +kernel
theorem dX6_setLoss_41 : decode cX6_setLoss 41 = .ok (.getfield 61, 3) := by decide +kernel
theorem dX6_setLoss_44 : decode cX6_setLoss 44 = .ok (.getfield 74, 3) := by decide +kernel
theorem dX6_setLoss_47 : decode cX6_setLoss 47 = .ok (.iload_n 1, 1) := by decide +kernel
theorem dX6_setLoss_48 : decode cX6_setLoss 48 = .ok (.iload_n 2, 1) := by decide +kernel
theorem dX6_setLoss_49 : decode cX6_setLoss 49 = .ok (.iastore, 1) := by decide +kernel
theorem dX6_setLoss_50 : decode cX6_setLoss 50 = .ok (.iload_n 3, 1) := by decide +kernel
theorem dX6_setLoss_51 : decode cX6_setLoss 51 = .ok (.ireturn, 1) := by decide +kernel
theorem dX6_setWeight_0 : decode cX6_setWeight 0 = .ok (.iload_n 1, 1) := by decide +kernel
theorem dX6_setWeight_1 : decode cX6_setWeight 1 = .ok (.iconst 1, 1) := by decide +kernel
theorem dX6_setWeight_2 : decode cX6_setWeight 2 = .ok (.bipush 6, 2) := by decide +kernel
theorem dX6_setWeight_4 : decode cX6_setWeight 4 = .ok (.invokestatic 34, 3) := by decide +kernel
theorem dX6_setWeight_7 : decode cX6_setWeight 7 = .ok (.ifCond .eq 13, 3) := by decide +kernel
theorem dX6_setWeight_10 : decode cX6_setWeight 10 = .ok (.iload_n 2, 1) := by decide +kernel
theorem dX6_setWeight_11 : decode cX6_setWeight 11 = .ok (.iconst 0, 1) := by decide +kernel
theorem dX6_setWeight_12 : decode cX6_setWeight 12 = .ok (.bipush 9, 2) := by decide +kernel
theorem dX6_setWeight_14 : decode cX6_setWeight 14 = .ok (.invokestatic 34, 3) := by decide +kernel
theorem dX6_setWeight_17 : decode cX6_setWeight 17 = .ok (.ifCond .ne 5, 3) := by decide +kernel
theorem dX6_setWeight_20 : decode cX6_setWeight 20 = .ok (.iconst (-1), 1) := by decide +kernel
theorem dX6_setWeight_21 : decode cX6_setWeight 21 = .ok (.ireturn, 1) := by decide +kernel
theorem dX6_setWeight_22 : decode cX6_setWeight 22 = .ok (.aload_n 0, 1) := by decide +kernel
theorem dX6_setWeight_23 : decode cX6_setWeight 23 = .ok (.getfield 10, 3) := by decide +kernel
theorem dX6_setWeight_26 : decode cX6_setWeight 26 = .ok (.getfield 61, 3) := by decide +kernel
theorem dX6_setWeight_29 : decode cX6_setWeight 29 = .ok (.getfield 77, 3) := by decide +kernel
theorem dX6_setWeight_32 : decode cX6_setWeight 32 = .ok (.iload_n 1, 1) := by decide +kernel
theorem dX6_setWeight_33 : decode cX6_setWeight 33 = .ok (.iaload, 1) := by decide +kernel
theorem dX6_setWeight_34 : decode cX6_setWeight 34 = .ok (.istore_n 3, 1) := by decide +kernel
theorem dX6_setWeight_35 : decode cX6_setWeight 35 = .ok (.aload_n 0, 1) := by decide +kernel
theorem dX6_setWeight_36 : decode cX6_setWeight 36 = .ok (.getfield 10, 3) := by decide +kernel
theorem dX6_setWeight_39 : decode cX6_setWeight 39 = .ok (.getfield 61, 3) := by decide +kernel
theorem dX6_setWeight_42 : decode cX6_setWeight 42 = .ok (.invokevirtual 80, 3) := by decide +kernel
theorem dX6_setWeight_45 : decode cX6_setWeight 45 = .ok (.iload_n 3, 1) := by decide +kernel
theorem dX6_setWeight_46 : decode cX6_setWeight 46 = .ok (.isub, 1) := by decide +kernel
theorem dX6_setWeight_47 : decode cX6_setWeight 47 = .ok (.iload_n 2, 1) := by decide +kernel
theorem dX6_setWeight_48 : decode cX6_setWeight 48 = .ok (.iadd, 1) := by decide +kernel
theorem dX6_setWeight_49 : decode cX6_setWeight 49 = .ok (.ifCond .ne 6, 3) := by decide +kernel
theorem dX6_setWeight_52 : decode cX6_setWeight 52 = .ok (.bipush (-2), 2) := by decide +kernel
theorem dX6_setWeight_54 : decode cX6_setWeight 54 = .ok (.ireturn, 1) := by decide +kernel
theorem dX6_setWeight_55 : decode cX6_setWeight 55 = .ok (.aload_n 0, 1) := by decide +kernel
theorem dX6_setWeight_56 : decode cX6_setWeight 56 = .ok (.invokevirtual 38, 3) := by decide +kernel
theorem dX6_setWeight_59 : decode cX6_setWeight 59 = .ok (.aload_n 0, 1) := by decide +kernel
theorem dX6_setWeight_60 : decode cX6_setWeight 60 = .ok (.getfield 10, 3) := by decide +kernel
theorem dX6_setWeight_63 : decode cX6_setWeight 63 = .ok (.getfield 61, 3) := by decide +kernel
theorem dX6_setWeight_66 : decode cX6_setWeight 66 = .ok (.getfield 77, 3) := by decide +kernel
theorem dX6_setWeight_69 : decode cX6_setWeight 69 = .ok (.iload_n 1, 1) := by decide +kernel
theorem dX6_setWeight_70 : decode cX6_setWeight 70 = .ok (.iload_n 2, 1) := by decide +kernel
theorem dX6_setWeight_71 : decode cX6_setWeight 71 = .ok (.iastore, 1) := by decide +kernel
theorem dX6_setWeight_72 : decode cX6_setWeight 72 = .ok (.iload_n 3, 1) := by decide +kernel
theorem dX6_setWeight_73 : decode cX6_setWeight 73 = .ok (.ireturn, 1) := by decide +kernel
theorem dX6_set_0 : decode cX6_set 0 = .ok (.iload_n 1, 1) := by decide +kernel
theorem dX6_set_1 : decode cX6_set 1 = .ok (.iload_n 2, 1) := by decide +kernel
theorem dX6_set_2 : decode cX6_set 2 = .ok (.invokestatic 84, 3) := by decide +kernel
theorem dX6_set_5 : decode cX6_set 5 = .ok (.ifCond .ne 5, 3) := by decide +kernel
theorem dX6_set_8 : decode cX6_set 8 = .ok (.iconst (-1), 1) := by decide +kernel
theorem dX6_set_9 : decode cX6_set 9 = .ok (.ireturn, 1) := by decide +kernel
theorem dX6_set_10 : decode cX6_set 10 = .ok (.aload_n 0, 1) := by decide +kernel
theorem dX6_set_11 : decode cX6_set 11 = .ok (.invokevirtual 38, 3) := by decide +kernel
theorem dX6_set_14 : decode cX6_set 14 = .ok (.iload_n 1, 1) := by decide +kernel
theorem dX6_set_15 : decode cX6_set 15 = .ok (.tableswitch 58 0 2 #[25, 34, 46], 25) := by decide +kernel
theorem dX6_set_40 : decode cX6_set 40 = .ok (.aload_n 0, 1) := by decide +kernel
theorem dX6_set_41 : decode cX6_set 41 = .ok (.getfield 10, 3) := by decide +kernel
theorem dX6_set_44 : decode cX6_set 44 = .ok (.iload_n 2, 1) := by decide +kernel
theorem dX6_set_45 : decode cX6_set 45 = .ok (.invokevirtual 88, 3) := by decide +kernel
theorem dX6_set_48 : decode cX6_set 48 = .ok (.ireturn, 1) := by decide +kernel
theorem dX6_set_49 : decode cX6_set 49 = .ok (.aload_n 0, 1) := by decide +kernel
theorem dX6_set_50 : decode cX6_set 50 = .ok (.getfield 10, 3) := by decide +kernel
theorem dX6_set_53 : decode cX6_set 53 = .ok (.getfield 61, 3) := by decide +kernel
theorem dX6_set_56 : decode cX6_set 56 = .ok (.iload_n 2, 1) := by decide +kernel
theorem dX6_set_57 : decode cX6_set 57 = .ok (.invokevirtual 92, 3) := by decide +kernel
theorem dX6_set_60 : decode cX6_set 60 = .ok (.ireturn, 1) := by decide +kernel
theorem dX6_set_61 : decode cX6_set 61 = .ok (.aload_n 0, 1) := by decide +kernel
theorem dX6_set_62 : decode cX6_set 62 = .ok (.getfield 10, 3) := by decide +kernel
theorem dX6_set_65 : decode cX6_set 65 = .ok (.getfield 61, 3) := by decide +kernel
theorem dX6_set_68 : decode cX6_set 68 = .ok (.iload_n 2, 1) := by decide +kernel
theorem dX6_set_69 : decode cX6_set 69 = .ok (.invokevirtual 95, 3) := by decide +kernel
theorem dX6_set_72 : decode cX6_set 72 = .ok (.ireturn, 1) := by decide +kernel
theorem dX6_set_73 : decode cX6_set 73 = .ok (.aload_n 0, 1) := by decide +kernel
theorem dX6_set_74 : decode cX6_set 74 = .ok (.getfield 10, 3) := by decide +kernel
theorem dX6_set_77 : decode cX6_set 77 = .ok (.getfield 61, 3) := by decide +kernel
theorem dX6_set_80 : decode cX6_set 80 = .ok (.iload_n 2, 1) := by decide +kernel
theorem dX6_set_81 : decode cX6_set 81 = .ok (.invokevirtual 98, 3) := by decide +kernel
theorem dX6_set_84 : decode cX6_set 84 = .ok (.ireturn, 1) := by decide +kernel
theorem dX6_run_0 : decode cX6_run 0 = .ok (.iload_n 1, 1) := by decide +kernel
theorem dX6_run_1 : decode cX6_run 1 = .ok (.iconst 1, 1) := by decide +kernel
theorem dX6_run_2 : decode cX6_run 2 = .ok (.bipush 100, 2) := by decide +kernel
theorem dX6_run_4 : decode cX6_run 4 = .ok (.invokestatic 34, 3) := by decide +kernel
theorem dX6_run_7 : decode cX6_run 7 = .ok (.ifCond .ne 5, 3) := by decide +kernel
theorem dX6_run_10 : decode cX6_run 10 = .ok (.iconst (-1), 1) := by decide +kernel
theorem dX6_run_11 : decode cX6_run 11 = .ok (.ireturn, 1) := by decide +kernel
theorem dX6_run_12 : decode cX6_run 12 = .ok (.aload_n 0, 1) := by decide +kernel
theorem dX6_run_13 : decode cX6_run 13 = .ok (.invokevirtual 38, 3) := by decide +kernel
theorem dX6_run_16 : decode cX6_run 16 = .ok (.iconst 0, 1) := by decide +kernel
theorem dX6_run_17 : decode cX6_run 17 = .ok (.istore_n 2, 1) := by decide +kernel
theorem dX6_run_18 : decode cX6_run 18 = .ok (.iload_n 2, 1) := by decide +kernel
theorem dX6_run_19 : decode cX6_run 19 = .ok (.iload_n 1, 1) := by decide +kernel
theorem dX6_run_20 : decode cX6_run 20 = .ok (.if_icmp .ge 16, 3) := by decide +kernel
theorem dX6_run_23 : decode cX6_run 23 = .ok (.aload_n 0, 1) := by decide +kernel
theorem dX6_run_24 : decode cX6_run 24 = .ok (.getfield 10, 3) := by decide +kernel
theorem dX6_run_27 : decode cX6_run 27 = .ok (.invokevirtual 101, 3) := by decide +kernel
theorem dX6_run_30 : decode cX6_run 30 = .ok (.iinc 2 1, 3) := by decide +kernel
theorem dX6_run_33 : decode cX6_run 33 = .ok (.goto (-15), 3) := by decide +kernel
theorem dX6_run_36 : decode cX6_run 36 = .ok (.aload_n 0, 1) := by decide +kernel
theorem dX6_run_37 : decode cX6_run 37 = .ok (.getfield 10, 3) := by decide +kernel
theorem dX6_run_40 : decode cX6_run 40 = .ok (.getfield 52, 3) := by decide +kernel
theorem dX6_run_43 : decode cX6_run 43 = .ok (.getfield 104, 3) := by decide +kernel
theorem dX6_run_46 : decode cX6_run 46 = .ok (.getfield 108, 3) := by decide +kernel
theorem dX6_run_49 : decode cX6_run 49 = .ok (.ireturn, 1) := by decide +kernel
theorem dX6_inject_0 : decode cX6_inject 0 = .ok (.aload_n 0, 1) := by decide +kernel
theorem dX6_inject_1 : decode cX6_inject 1 = .ok (.iload_n 1, 1) := by decide +kernel
theorem dX6_inject_2 : decode cX6_inject 2 = .ok (.invokevirtual 113, 3) := by decide +kernel
theorem dX6_inject_5 : decode cX6_inject 5 = .ok (.ifCond .ne 5, 3) := by decide +kernel
theorem dX6_inject_8 : decode cX6_inject 8 = .ok (.iconst (-1), 1) := by decide +kernel
theorem dX6_inject_9 : decode cX6_inject 9 = .ok (.ireturn, 1) := by decide +kernel
theorem dX6_inject_10 : decode cX6_inject 10 = .ok (.aload_n 0, 1) := by decide +kernel
theorem dX6_inject_11 : decode cX6_inject 11 = .ok (.invokevirtual 38, 3) := by decide +kernel
theorem dX6_inject_14 : decode cX6_inject 14 = .ok (.aload_n 0, 1) := by decide +kernel
theorem dX6_inject_15 : decode cX6_inject 15 = .ok (.getfield 10, 3) := by decide +kernel
theorem dX6_inject_18 : decode cX6_inject 18 = .ok (.getfield 52, 3) := by decide +kernel
theorem dX6_inject_21 : decode cX6_inject 21 = .ok (.aload_n 0, 1) := by decide +kernel
theorem dX6_inject_22 : decode cX6_inject 22 = .ok (.getfield 10, 3) := by decide +kernel
theorem dX6_inject_25 : decode cX6_inject 25 = .ok (.getfield 61, 3) := by decide +kernel
theorem dX6_inject_28 : decode cX6_inject 28 = .ok (.iload_n 1, 1) := by decide +kernel
theorem dX6_inject_29 : decode cX6_inject 29 = .ok (.invokevirtual 116, 3) := by decide +kernel
theorem dX6_inject_32 : decode cX6_inject 32 = .ok (.aload_n 0, 1) := by decide +kernel
theorem dX6_inject_33 : decode cX6_inject 33 = .ok (.getfield 10, 3) := by decide +kernel
theorem dX6_inject_36 : decode cX6_inject 36 = .ok (.getfield 41, 3) := by decide +kernel
theorem dX6_inject_39 : decode cX6_inject 39 = .ok (.invokevirtual 119, 3) := by decide +kernel
theorem dX6_inject_42 : decode cX6_inject 42 = .ok (.ifCond .eq 7, 3) := by decide +kernel
theorem dX6_inject_45 : decode cX6_inject 45 = .ok (.iconst 1, 1) := by decide +kernel
theorem dX6_inject_46 : decode cX6_inject 46 = .ok (.goto 4, 3) := by decide +kernel
theorem dX6_inject_49 : decode cX6_inject 49 = .ok (.iconst 0, 1) := by decide +kernel
theorem dX6_inject_50 : decode cX6_inject 50 = .ok (.ireturn, 1) := by decide +kernel
theorem dX6_undo_0 : decode cX6_undo 0 = .ok (.aload_n 0, 1) := by decide +kernel
theorem dX6_undo_1 : decode cX6_undo 1 = .ok (.getfield 30, 3) := by decide +kernel
theorem dX6_undo_4 : decode cX6_undo 4 = .ok (.iconst 1, 1) := by decide +kernel
theorem dX6_undo_5 : decode cX6_undo 5 = .ok (.bipush 8, 2) := by decide +kernel
theorem dX6_undo_7 : decode cX6_undo 7 = .ok (.invokestatic 34, 3) := by decide +kernel
theorem dX6_undo_10 : decode cX6_undo 10 = .ok (.ifCond .ne 6, 3) := by decide +kernel
theorem dX6_undo_13 : decode cX6_undo 13 = .ok (.bipush (-2), 2) := by decide +kernel
theorem dX6_undo_15 : decode cX6_undo 15 = .ok (.ireturn, 1) := by decide +kernel
theorem dX6_undo_16 : decode cX6_undo 16 = .ok (.aload_n 0, 1) := by decide +kernel
theorem dX6_undo_17 : decode cX6_undo 17 = .ok (.dup, 1) := by decide +kernel
theorem dX6_undo_18 : decode cX6_undo 18 = .ok (.getfield 30, 3) := by decide +kernel
theorem dX6_undo_21 : decode cX6_undo 21 = .ok (.iconst 1, 1) := by decide +kernel
theorem dX6_undo_22 : decode cX6_undo 22 = .ok (.isub, 1) := by decide +kernel
theorem dX6_undo_23 : decode cX6_undo 23 = .ok (.putfield 30, 3) := by decide +kernel
theorem dX6_undo_26 : decode cX6_undo 26 = .ok (.aload_n 0, 1) := by decide +kernel
theorem dX6_undo_27 : decode cX6_undo 27 = .ok (.getfield 10, 3) := by decide +kernel
theorem dX6_undo_30 : decode cX6_undo 30 = .ok (.aload_n 0, 1) := by decide +kernel
theorem dX6_undo_31 : decode cX6_undo 31 = .ok (.getfield 19, 3) := by decide +kernel
theorem dX6_undo_34 : decode cX6_undo 34 = .ok (.aload_n 0, 1) := by decide +kernel
theorem dX6_undo_35 : decode cX6_undo 35 = .ok (.getfield 30, 3) := by decide +kernel
theorem dX6_undo_38 : decode cX6_undo 38 = .ok (.aaload, 1) := by decide +kernel
theorem dX6_undo_39 : decode cX6_undo 39 = .ok (.invokevirtual 122, 3) := by decide +kernel
theorem dX6_undo_42 : decode cX6_undo 42 = .ok (.aload_n 0, 1) := by decide +kernel
theorem dX6_undo_43 : decode cX6_undo 43 = .ok (.getfield 30, 3) := by decide +kernel
theorem dX6_undo_46 : decode cX6_undo 46 = .ok (.ireturn, 1) := by decide +kernel
theorem dX6_told_0 : decode cX6_told 0 = .ok (.aload_n 0, 1) := by decide +kernel
theorem dX6_told_1 : decode cX6_told 1 = .ok (.getfield 10, 3) := by decide +kernel
theorem dX6_told_4 : decode cX6_told 4 = .ok (.getfield 61, 3) := by decide +kernel
theorem dX6_told_7 : decode cX6_told 7 = .ok (.astore_n 2, 1) := by decide +kernel
theorem dX6_told_8 : decode cX6_told 8 = .ok (.aload_n 0, 1) := by decide +kernel
theorem dX6_told_9 : decode cX6_told 9 = .ok (.getfield 10, 3) := by decide +kernel
theorem dX6_told_12 : decode cX6_told 12 = .ok (.getfield 52, 3) := by decide +kernel
theorem dX6_told_15 : decode cX6_told 15 = .ok (.astore_n 3, 1) := by decide +kernel
theorem dX6_told_16 : decode cX6_told 16 = .ok (.iload_n 1, 1) := by decide +kernel
theorem dX6_told_17 : decode cX6_told 17 = .ok (.tableswitch 189 0 16 #[83, 88, 93, 101, 106, 111, 116, 121, 129, 137, 142, 147, 155, 163, 171, 179, 184], 83) := by decide +kernel
theorem dX6_told_100 : decode cX6_told 100 = .ok (.aload_n 2, 1) := by decide +kernel
theorem dX6_told_101 : decode cX6_told 101 = .ok (.getfield 126, 3) := by decide +kernel
theorem dX6_told_104 : decode cX6_told 104 = .ok (.ireturn, 1) := by decide +kernel
theorem dX6_told_105 : decode cX6_told 105 = .ok (.aload_n 2, 1) := by decide +kernel
theorem dX6_told_106 : decode cX6_told 106 = .ok (.getfield 129, 3) := by decide +kernel
theorem dX6_told_109 : decode cX6_told 109 = .ok (.ireturn, 1) := by decide +kernel
theorem dX6_told_110 : decode cX6_told 110 = .ok (.aload_n 0, 1) := by decide +kernel
theorem dX6_told_111 : decode cX6_told 111 = .ok (.getfield 10, 3) := by decide +kernel
theorem dX6_told_114 : decode cX6_told 114 = .ok (.getfield 41, 3) := by decide +kernel
theorem dX6_told_117 : decode cX6_told 117 = .ok (.ireturn, 1) := by decide +kernel
theorem dX6_told_118 : decode cX6_told 118 = .ok (.aload_n 2, 1) := by decide +kernel
theorem dX6_told_119 : decode cX6_told 119 = .ok (.getfield 132, 3) := by decide +kernel
theorem dX6_told_122 : decode cX6_told 122 = .ok (.ireturn, 1) := by decide +kernel
theorem dX6_told_123 : decode cX6_told 123 = .ok (.aload_n 2, 1) := by decide +kernel
theorem dX6_told_124 : decode cX6_told 124 = .ok (.getfield 135, 3) := by decide +kernel
theorem dX6_told_127 : decode cX6_told 127 = .ok (.ireturn, 1) := by decide +kernel
theorem dX6_told_128 : decode cX6_told 128 = .ok (.aload_n 2, 1) := by decide +kernel
theorem dX6_told_129 : decode cX6_told 129 = .ok (.getfield 138, 3) := by decide +kernel
theorem dX6_told_132 : decode cX6_told 132 = .ok (.ireturn, 1) := by decide +kernel
theorem dX6_told_133 : decode cX6_told 133 = .ok (.aload_n 2, 1) := by decide +kernel
theorem dX6_told_134 : decode cX6_told 134 = .ok (.getfield 141, 3) := by decide +kernel
theorem dX6_told_137 : decode cX6_told 137 = .ok (.ireturn, 1) := by decide +kernel
theorem dX6_told_138 : decode cX6_told 138 = .ok (.aload_n 0, 1) := by decide +kernel
theorem dX6_told_139 : decode cX6_told 139 = .ok (.getfield 10, 3) := by decide +kernel
theorem dX6_told_142 : decode cX6_told 142 = .ok (.getfield 144, 3) := by decide +kernel
theorem dX6_told_145 : decode cX6_told 145 = .ok (.ireturn, 1) := by decide +kernel
theorem dX6_told_146 : decode cX6_told 146 = .ok (.aload_n 0, 1) := by decide +kernel
theorem dX6_told_147 : decode cX6_told 147 = .ok (.getfield 10, 3) := by decide +kernel
theorem dX6_told_150 : decode cX6_told 150 = .ok (.getfield 147, 3) := by decide +kernel
theorem dX6_told_153 : decode cX6_told 153 = .ok (.ireturn, 1) := by decide +kernel
theorem dX6_told_154 : decode cX6_told 154 = .ok (.aload_n 3, 1) := by decide +kernel
theorem dX6_told_155 : decode cX6_told 155 = .ok (.getfield 56, 3) := by decide +kernel
theorem dX6_told_158 : decode cX6_told 158 = .ok (.ireturn, 1) := by decide +kernel
theorem dX6_told_159 : decode cX6_told 159 = .ok (.aload_n 3, 1) := by decide +kernel
theorem dX6_told_160 : decode cX6_told 160 = .ok (.getfield 150, 3) := by decide +kernel
theorem dX6_told_163 : decode cX6_told 163 = .ok (.ireturn, 1) := by decide +kernel
theorem dX6_told_164 : decode cX6_told 164 = .ok (.aload_n 3, 1) := by decide +kernel
theorem dX6_told_165 : decode cX6_told 165 = .ok (.getfield 104, 3) := by decide +kernel
theorem dX6_told_168 : decode cX6_told 168 = .ok (.getfield 108, 3) := by decide +kernel
theorem dX6_told_171 : decode cX6_told 171 = .ok (.ireturn, 1) := by decide +kernel
theorem dX6_told_172 : decode cX6_told 172 = .ok (.aload_n 3, 1) := by decide +kernel
theorem dX6_told_173 : decode cX6_told 173 = .ok (.getfield 153, 3) := by decide +kernel
theorem dX6_told_176 : decode cX6_told 176 = .ok (.getfield 157, 3) := by decide +kernel
theorem dX6_told_179 : decode cX6_told 179 = .ok (.ireturn, 1) := by decide +kernel
theorem dX6_told_180 : decode cX6_told 180 = .ok (.aload_n 3, 1) := by decide +kernel
theorem dX6_told_181 : decode cX6_told 181 = .ok (.getfield 162, 3) := by decide +kernel
theorem dX6_told_184 : decode cX6_told 184 = .ok (.getfield 108, 3) := by decide +kernel
theorem dX6_told_187 : decode cX6_told 187 = .ok (.ireturn, 1) := by decide +kernel
theorem dX6_told_188 : decode cX6_told 188 = .ok (.aload_n 3, 1) := by decide +kernel
theorem dX6_told_189 : decode cX6_told 189 = .ok (.getfield 165, 3) := by decide +kernel
theorem dX6_told_192 : decode cX6_told 192 = .ok (.getfield 157, 3) := by decide +kernel
theorem dX6_told_195 : decode cX6_told 195 = .ok (.ireturn, 1) := by decide +kernel
theorem dX6_told_196 : decode cX6_told 196 = .ok (.aload_n 3, 1) := by decide +kernel
theorem dX6_told_197 : decode cX6_told 197 = .ok (.getfield 168, 3) := by decide +kernel
theorem dX6_told_200 : decode cX6_told 200 = .ok (.ireturn, 1) := by decide +kernel
theorem dX6_told_201 : decode cX6_told 201 = .ok (.aload_n 0, 1) := by decide +kernel
theorem dX6_told_202 : decode cX6_told 202 = .ok (.getfield 30, 3) := by decide +kernel
theorem dX6_told_205 : decode cX6_told 205 = .ok (.ireturn, 1) := by decide +kernel
theorem dX6_told_206 : decode cX6_told 206 = .ok (.iconst (-1), 1) := by decide +kernel
theorem dX6_told_207 : decode cX6_told 207 = .ok (.ireturn, 1) := by decide +kernel
theorem dX6_block_0 : decode cX6_block 0 = .ok (.aload_n 0, 1) := by decide +kernel
theorem dX6_block_1 : decode cX6_block 1 = .ok (.iload_n 1, 1) := by decide +kernel
theorem dX6_block_2 : decode cX6_block 2 = .ok (.invokevirtual 48, 3) := by decide +kernel
theorem dX6_block_5 : decode cX6_block 5 = .ok (.ifCond .ne 5, 3) := by decide +kernel
theorem dX6_block_8 : decode cX6_block 8 = .ok (.iconst (-1), 1) := by decide +kernel
theorem dX6_block_9 : decode cX6_block 9 = .ok (.ireturn, 1) := by decide +kernel
theorem dX6_block_10 : decode cX6_block 10 = .ok (.iload_n 2, 1) := by decide +kernel
theorem dX6_block_11 : decode cX6_block 11 = .ok (.tableswitch 108 0 4 #[33, 46, 61, 76, 92], 33) := by decide +kernel
theorem dX6_block_44 : decode cX6_block 44 = .ok (.aload_n 0, 1) := by decide +kernel
theorem dX6_block_45 : decode cX6_block 45 = .ok (.getfield 10, 3) := by decide +kernel
theorem dX6_block_48 : decode cX6_block 48 = .ok (.getfield 61, 3) := by decide +kernel
theorem dX6_block_51 : decode cX6_block 51 = .ok (.getfield 65, 3) := by decide +kernel
theorem dX6_block_54 : decode cX6_block 54 = .ok (.iload_n 1, 1) := by decide +kernel
theorem dX6_block_55 : decode cX6_block 55 = .ok (.iaload, 1) := by decide +kernel
theorem dX6_block_56 : decode cX6_block 56 = .ok (.ireturn, 1) := by decide +kernel
theorem dX6_block_57 : decode cX6_block 57 = .ok (.aload_n 0, 1) := by decide +kernel
theorem dX6_block_58 : decode cX6_block 58 = .ok (.getfield 10, 3) := by decide +kernel
theorem dX6_block_61 : decode cX6_block 61 = .ok (.getfield 52, 3) := by decide +kernel
theorem dX6_block_64 : decode cX6_block 64 = .ok (.getfield 153, 3) := by decide +kernel
theorem dX6_block_67 : decode cX6_block 67 = .ok (.iload_n 1, 1) := by decide +kernel
theorem dX6_block_68 : decode cX6_block 68 = .ok (.invokevirtual 171, 3) := by decide +kernel
theorem dX6_block_71 : decode cX6_block 71 = .ok (.ireturn, 1) := by decide +kernel
theorem dX6_block_72 : decode cX6_block 72 = .ok (.aload_n 0, 1) := by decide +kernel
theorem dX6_block_73 : decode cX6_block 73 = .ok (.getfield 10, 3) := by decide +kernel
theorem dX6_block_76 : decode cX6_block 76 = .ok (.getfield 52, 3) := by decide +kernel
theorem dX6_block_79 : decode cX6_block 79 = .ok (.getfield 165, 3) := by decide +kernel
theorem dX6_block_82 : decode cX6_block 82 = .ok (.iload_n 1, 1) := by decide +kernel
theorem dX6_block_83 : decode cX6_block 83 = .ok (.invokevirtual 171, 3) := by decide +kernel
theorem dX6_block_86 : decode cX6_block 86 = .ok (.ireturn, 1) := by decide +kernel
theorem dX6_block_87 : decode cX6_block 87 = .ok (.aload_n 0, 1) := by decide +kernel
theorem dX6_block_88 : decode cX6_block 88 = .ok (.getfield 10, 3) := by decide +kernel
theorem dX6_block_91 : decode cX6_block 91 = .ok (.getfield 52, 3) := by decide +kernel
theorem dX6_block_94 : decode cX6_block 94 = .ok (.getfield 153, 3) := by decide +kernel
theorem dX6_block_97 : decode cX6_block 97 = .ok (.getfield 174, 3) := by decide +kernel
theorem dX6_block_100 : decode cX6_block 100 = .ok (.iload_n 1, 1) := by decide +kernel
theorem dX6_block_101 : decode cX6_block 101 = .ok (.iaload, 1) := by decide +kernel
theorem dX6_block_102 : decode cX6_block 102 = .ok (.ireturn, 1) := by decide +kernel
theorem dX6_block_103 : decode cX6_block 103 = .ok (.aload_n 0, 1) := by decide +kernel
theorem dX6_block_104 : decode cX6_block 104 = .ok (.getfield 10, 3) := by decide +kernel
theorem dX6_block_107 : decode cX6_block 107 = .ok (.getfield 52, 3) := by decide +kernel
theorem dX6_block_110 : decode cX6_block 110 = .ok (.getfield 165, 3) := by decide +kernel
theorem dX6_block_113 : decode cX6_block 113 = .ok (.getfield 174, 3) := by decide +kernel
theorem dX6_block_116 : decode cX6_block 116 = .ok (.iload_n 1, 1) := by decide +kernel
theorem dX6_block_117 : decode cX6_block 117 = .ok (.iaload, 1) := by decide +kernel
theorem dX6_block_118 : decode cX6_block 118 = .ok (.ireturn, 1) := by decide +kernel
theorem dX6_block_119 : decode cX6_block 119 = .ok (.iconst (-1), 1) := by decide +kernel
theorem dX6_block_120 : decode cX6_block 120 = .ok (.ireturn, 1) := by decide +kernel
theorem dX6_packet_0 : decode cX6_packet 0 = .ok (.aload_n 0, 1) := by decide +kernel
theorem dX6_packet_1 : decode cX6_packet 1 = .ok (.getfield 10, 3) := by decide +kernel
theorem dX6_packet_4 : decode cX6_packet 4 = .ok (.iload_n 1, 1) := by decide +kernel
theorem dX6_packet_5 : decode cX6_packet 5 = .ok (.invokevirtual 177, 3) := by decide +kernel
theorem dX6_packet_8 : decode cX6_packet 8 = .ok (.astore 4, 2) := by decide +kernel
theorem dX6_packet_10 : decode cX6_packet 10 = .ok (.aload 4, 2) := by decide +kernel
theorem dX6_packet_12 : decode cX6_packet 12 = .ok (.ifnonnull 7, 3) := by decide +kernel
theorem dX6_packet_15 : decode cX6_packet 15 = .ok (.iconst (-1), 1) := by decide +kernel
theorem dX6_packet_16 : decode cX6_packet 16 = .ok (.goto 10, 3) := by decide +kernel
theorem dX6_packet_19 : decode cX6_packet 19 = .ok (.aload 4, 2) := by decide +kernel
theorem dX6_packet_21 : decode cX6_packet 21 = .ok (.iload_n 2, 1) := by decide +kernel
theorem dX6_packet_22 : decode cX6_packet 22 = .ok (.iload_n 3, 1) := by decide +kernel
theorem dX6_packet_23 : decode cX6_packet 23 = .ok (.invokestatic 181, 3) := by decide +kernel
theorem dX6_packet_26 : decode cX6_packet 26 = .ok (.ireturn, 1) := by decide +kernel
theorem dX6_waiting_0 : decode cX6_waiting 0 = .ok (.aload_n 0, 1) := by decide +kernel
theorem dX6_waiting_1 : decode cX6_waiting 1 = .ok (.getfield 10, 3) := by decide +kernel
theorem dX6_waiting_4 : decode cX6_waiting 4 = .ok (.getfield 52, 3) := by decide +kernel
theorem dX6_waiting_7 : decode cX6_waiting 7 = .ok (.getfield 162, 3) := by decide +kernel
theorem dX6_waiting_10 : decode cX6_waiting 10 = .ok (.iload_n 1, 1) := by decide +kernel
theorem dX6_waiting_11 : decode cX6_waiting 11 = .ok (.iload_n 2, 1) := by decide +kernel
theorem dX6_waiting_12 : decode cX6_waiting 12 = .ok (.invokestatic 181, 3) := by decide +kernel
theorem dX6_waiting_15 : decode cX6_waiting 15 = .ok (.ireturn, 1) := by decide +kernel
theorem dX6_node_0 : decode cX6_node 0 = .ok (.iload_n 1, 1) := by decide +kernel
theorem dX6_node_1 : decode cX6_node 1 = .ok (.iconst 0, 1) := by decide +kernel
theorem dX6_node_2 : decode cX6_node 2 = .ok (.aload_n 0, 1) := by decide +kernel
theorem dX6_node_3 : decode cX6_node 3 = .ok (.getfield 10, 3) := by decide +kernel
theorem dX6_node_6 : decode cX6_node 6 = .ok (.getfield 61, 3) := by decide +kernel
theorem dX6_node_9 : decode cX6_node 9 = .ok (.getfield 129, 3) := by decide +kernel
theorem dX6_node_12 : decode cX6_node 12 = .ok (.iconst 1, 1) := by decide +kernel
theorem dX6_node_13 : decode cX6_node 13 = .ok (.iadd, 1) := by decide +kernel
theorem dX6_node_14 : decode cX6_node 14 = .ok (.invokestatic 34, 3) := by decide +kernel
theorem dX6_node_17 : decode cX6_node 17 = .ok (.ifCond .eq 12, 3) := by decide +kernel
theorem dX6_node_20 : decode cX6_node 20 = .ok (.iload_n 2, 1) := by decide +kernel
theorem dX6_node_21 : decode cX6_node 21 = .ok (.iconst 0, 1) := by decide +kernel
theorem dX6_node_22 : decode cX6_node 22 = .ok (.iconst 2, 1) := by decide +kernel
theorem dX6_node_23 : decode cX6_node 23 = .ok (.invokestatic 34, 3) := by decide +kernel
theorem dX6_node_26 : decode cX6_node 26 = .ok (.ifCond .ne 5, 3) := by decide +kernel
theorem dX6_node_29 : decode cX6_node 29 = .ok (.iconst (-1), 1) := by decide +kernel
theorem dX6_node_30 : decode cX6_node 30 = .ok (.ireturn, 1) := by decide +kernel
theorem dX6_node_31 : decode cX6_node 31 = .ok (.iload_n 2, 1) := by decide +kernel
theorem dX6_node_32 : decode cX6_node 32 = .ok (.iconst 2, 1) := by decide +kernel
theorem dX6_node_33 : decode cX6_node 33 = .ok (.if_icmp .ne 29, 3) := by decide +kernel
theorem dX6_node_36 : decode cX6_node 36 = .ok (.aload_n 0, 1) := by decide +kernel
theorem dX6_node_37 : decode cX6_node 37 = .ok (.iload_n 1, 1) := by decide +kernel
theorem dX6_node_38 : decode cX6_node 38 = .ok (.invokevirtual 71, 3) := by decide +kernel
theorem dX6_node_41 : decode cX6_node 41 = .ok (.ifCond .eq 18, 3) := by decide +kernel
theorem dX6_node_44 : decode cX6_node 44 = .ok (.aload_n 0, 1) := by decide +kernel
theorem dX6_node_45 : decode cX6_node 45 = .ok (.getfield 10, 3) := by decide +kernel
theorem dX6_node_48 : decode cX6_node 48 = .ok (.getfield 61, 3) := by decide +kernel
theorem dX6_node_51 : decode cX6_node 51 = .ok (.getfield 74, 3) := by decide +kernel
theorem dX6_node_54 : decode cX6_node 54 = .ok (.iload_n 1, 1) := by decide +kernel
theorem dX6_node_55 : decode cX6_node 55 = .ok (.iaload, 1) := by decide +kernel
theorem dX6_node_56 : decode cX6_node 56 = .ok (.goto 5, 3) := by decide +kernel
theorem dX6_node_59 : decode cX6_node 59 = .ok (.bipush (-9), 2) := by decide +kernel
theorem dX6_node_61 : decode cX6_node 61 = .ok (.ireturn, 1) := by decide +kernel
theorem dX6_node_62 : decode cX6_node 62 = .ok (.aload_n 0, 1) := by decide +kernel
theorem dX6_node_63 : decode cX6_node 63 = .ok (.getfield 10, 3) := by decide +kernel
theorem dX6_node_66 : decode cX6_node 66 = .ok (.iload_n 1, 1) := by decide +kernel
theorem dX6_node_67 : decode cX6_node 67 = .ok (.invokevirtual 177, 3) := by decide +kernel
theorem dX6_node_70 : decode cX6_node 70 = .ok (.astore_n 3, 1) := by decide +kernel
theorem dX6_node_71 : decode cX6_node 71 = .ok (.aload_n 3, 1) := by decide +kernel
theorem dX6_node_72 : decode cX6_node 72 = .ok (.ifnonnull 14, 3) := by decide +kernel
theorem dX6_node_75 : decode cX6_node 75 = .ok (.aload_n 0, 1) := by decide +kernel
theorem dX6_node_76 : decode cX6_node 76 = .ok (.getfield 10, 3) := by decide +kernel
theorem dX6_node_79 : decode cX6_node 79 = .ok (.getfield 61, 3) := by decide +kernel
theorem dX6_node_82 : decode cX6_node 82 = .ok (.getfield 126, 3) := by decide +kernel
theorem dX6_node_85 : decode cX6_node 85 = .ok (.ireturn, 1) := by decide +kernel
theorem dX6_node_86 : decode cX6_node 86 = .ok (.iload_n 2, 1) := by decide +kernel
theorem dX6_node_87 : decode cX6_node 87 = .ok (.ifCond .ne 10, 3) := by decide +kernel
theorem dX6_node_90 : decode cX6_node 90 = .ok (.aload_n 3, 1) := by decide +kernel
theorem dX6_node_91 : decode cX6_node 91 = .ok (.getfield 108, 3) := by decide +kernel
theorem dX6_node_94 : decode cX6_node 94 = .ok (.goto 11, 3) := by decide +kernel
theorem dX6_node_97 : decode cX6_node 97 = .ok (.aload_n 0, 1) := by decide +kernel
theorem dX6_node_98 : decode cX6_node 98 = .ok (.getfield 10, 3) := by decide +kernel
theorem dX6_node_101 : decode cX6_node 101 = .ok (.aload_n 3, 1) := by decide +kernel
theorem dX6_node_102 : decode cX6_node 102 = .ok (.invokevirtual 185, 3) := by decide +kernel
theorem dX6_node_105 : decode cX6_node 105 = .ok (.ireturn, 1) := by decide +kernel
theorem dX6_novel_0 : decode cX6_novel 0 = .ok (.aload_n 0, 1) := by decide +kernel
theorem dX6_novel_1 : decode cX6_novel 1 = .ok (.getfield 10, 3) := by decide +kernel
theorem dX6_novel_4 : decode cX6_novel 4 = .ok (.iload_n 1, 1) := by decide +kernel
theorem dX6_novel_5 : decode cX6_novel 5 = .ok (.invokevirtual 177, 3) := by decide +kernel
theorem dX6_novel_8 : decode cX6_novel 8 = .ok (.astore_n 3, 1) := by decide +kernel
theorem dX6_novel_9 : decode cX6_novel 9 = .ok (.aload_n 3, 1) := by decide +kernel
theorem dX6_novel_10 : decode cX6_novel 10 = .ok (.ifnull 11, 3) := by decide +kernel
theorem dX6_novel_13 : decode cX6_novel 13 = .ok (.aload_n 0, 1) := by decide +kernel
theorem dX6_novel_14 : decode cX6_novel 14 = .ok (.iload_n 2, 1) := by decide +kernel
theorem dX6_novel_15 : decode cX6_novel 15 = .ok (.invokevirtual 113, 3) := by decide +kernel
theorem dX6_novel_18 : decode cX6_novel 18 = .ok (.ifCond .ne 5, 3) := by decide +kernel
theorem dX6_novel_21 : decode cX6_novel 21 = .ok (.iconst (-1), 1) := by decide +kernel
theorem dX6_novel_22 : decode cX6_novel 22 = .ok (.ireturn, 1) := by decide +kernel
theorem dX6_novel_23 : decode cX6_novel 23 = .ok (.aload_n 0, 1) := by decide +kernel
theorem dX6_novel_24 : decode cX6_novel 24 = .ok (.getfield 10, 3) := by decide +kernel
theorem dX6_novel_27 : decode cX6_novel 27 = .ok (.aload_n 3, 1) := by decide +kernel
theorem dX6_novel_28 : decode cX6_novel 28 = .ok (.aload_n 0, 1) := by decide +kernel
theorem dX6_novel_29 : decode cX6_novel 29 = .ok (.getfield 10, 3) := by decide +kernel
theorem dX6_novel_32 : decode cX6_novel 32 = .ok (.getfield 61, 3) := by decide +kernel
theorem dX6_novel_35 : decode cX6_novel 35 = .ok (.iload_n 2, 1) := by decide +kernel
theorem dX6_novel_36 : decode cX6_novel 36 = .ok (.invokevirtual 116, 3) := by decide +kernel
theorem dX6_novel_39 : decode cX6_novel 39 = .ok (.invokevirtual 189, 3) := by decide +kernel
theorem dX6_novel_42 : decode cX6_novel 42 = .ok (.ifCond .eq 7, 3) := by decide +kernel
theorem dX6_novel_45 : decode cX6_novel 45 = .ok (.iconst 1, 1) := by decide +kernel
theorem dX6_novel_46 : decode cX6_novel 46 = .ok (.goto 4, 3) := by decide +kernel
theorem dX6_novel_49 : decode cX6_novel 49 = .ok (.iconst 0, 1) := by decide +kernel
theorem dX6_novel_50 : decode cX6_novel 50 = .ok (.ireturn, 1) := by decide +kernel
theorem dX6_overhead_0 : decode cX6_overhead 0 = .ok (.aload_n 0, 1) := by decide +kernel
theorem dX6_overhead_1 : decode cX6_overhead 1 = .ok (.getfield 10, 3) := by decide +kernel
theorem dX6_overhead_4 : decode cX6_overhead 4 = .ok (.getfield 52, 3) := by decide +kernel
theorem dX6_overhead_7 : decode cX6_overhead 7 = .ok (.getfield 104, 3) := by decide +kernel
theorem dX6_overhead_10 : decode cX6_overhead 10 = .ok (.getfield 108, 3) := by decide +kernel
theorem dX6_overhead_13 : decode cX6_overhead 13 = .ok (.istore_n 1, 1) := by decide +kernel
theorem dX6_overhead_14 : decode cX6_overhead 14 = .ok (.iload_n 1, 1) := by decide +kernel
theorem dX6_overhead_15 : decode cX6_overhead 15 = .ok (.ifCond .ne 7, 3) := by decide +kernel
theorem dX6_overhead_18 : decode cX6_overhead 18 = .ok (.fconst 0, 1) := by decide +kernel
theorem dX6_overhead_19 : decode cX6_overhead 19 = .ok (.goto 17, 3) := by decide +kernel
theorem dX6_overhead_22 : decode cX6_overhead 22 = .ok (.aload_n 0, 1) := by decide +kernel
theorem dX6_overhead_23 : decode cX6_overhead 23 = .ok (.getfield 10, 3) := by decide +kernel
theorem dX6_overhead_26 : decode cX6_overhead 26 = .ok (.getfield 52, 3) := by decide +kernel
theorem dX6_overhead_29 : decode cX6_overhead 29 = .ok (.getfield 56, 3) := by decide +kernel
theorem dX6_overhead_32 : decode cX6_overhead 32 = .ok (.i2f, 1) := by decide +kernel
theorem dX6_overhead_33 : decode cX6_overhead 33 = .ok (.iload_n 1, 1) := by decide +kernel
theorem dX6_overhead_34 : decode cX6_overhead 34 = .ok (.i2f, 1) := by decide +kernel
theorem dX6_overhead_35 : decode cX6_overhead 35 = .ok (.fdiv, 1) := by decide +kernel
theorem dX6_overhead_36 : decode cX6_overhead 36 = .ok (.freturn, 1) := by decide +kernel
theorem dX6_forecast_0 : decode cX6_forecast 0 = .ok (.iload_n 1, 1) := by decide +kernel
theorem dX6_forecast_1 : decode cX6_forecast 1 = .ok (.iconst 0, 1) := by decide +kernel
theorem dX6_forecast_2 : decode cX6_forecast 2 = .ok (.iconst 1, 1) := by decide +kernel
theorem dX6_forecast_3 : decode cX6_forecast 3 = .ok (.invokestatic 34, 3) := by decide +kernel
theorem dX6_forecast_6 : decode cX6_forecast 6 = .ok (.ifCond .ne 5, 3) := by decide +kernel
theorem dX6_forecast_9 : decode cX6_forecast 9 = .ok (.iconst (-1), 1) := by decide +kernel
theorem dX6_forecast_10 : decode cX6_forecast 10 = .ok (.ireturn, 1) := by decide +kernel
theorem dX6_forecast_11 : decode cX6_forecast 11 = .ok (.aload_n 0, 1) := by decide +kernel
theorem dX6_forecast_12 : decode cX6_forecast 12 = .ok (.getfield 16, 3) := by decide +kernel
theorem dX6_forecast_15 : decode cX6_forecast 15 = .ok (.aload_n 0, 1) := by decide +kernel
theorem dX6_forecast_16 : decode cX6_forecast 16 = .ok (.getfield 10, 3) := by decide +kernel
theorem dX6_forecast_19 : decode cX6_forecast 19 = .ok (.invokevirtual 122, 3) := by decide +kernel
theorem dX6_forecast_22 : decode cX6_forecast 22 = .ok (.aload_n 0, 1) := by decide +kernel
theorem dX6_forecast_23 : decode cX6_forecast 23 = .ok (.iload_n 1, 1) := by decide +kernel
theorem dX6_forecast_24 : decode cX6_forecast 24 = .ok (.sipush 300, 3) := by decide +kernel
theorem dX6_forecast_27 : decode cX6_forecast 27 = .ok (.invokevirtual 193, 3) := by decide +kernel
theorem dX6_forecast_30 : decode cX6_forecast 30 = .ok (.ireturn, 1) := by decide +kernel
theorem dX6_bestPolicy_0 : decode cX6_bestPolicy 0 = .ok (.bipush (-9), 2) := by decide +kernel
theorem dX6_bestPolicy_2 : decode cX6_bestPolicy 2 = .ok (.istore_n 1, 1) := by decide +kernel
theorem dX6_bestPolicy_3 : decode cX6_bestPolicy 3 = .ok (.sipush 301, 3) := by decide +kernel
theorem dX6_bestPolicy_6 : decode cX6_bestPolicy 6 = .ok (.istore_n 2, 1) := by decide +kernel
theorem dX6_bestPolicy_7 : decode cX6_bestPolicy 7 = .ok (.iconst 0, 1) := by decide +kernel
theorem dX6_bestPolicy_8 : decode cX6_bestPolicy 8 = .ok (.istore_n 3, 1) := by decide +kernel
theorem dX6_bestPolicy_9 : decode cX6_bestPolicy 9 = .ok (.iload_n 3, 1) := by decide +kernel
theorem dX6_bestPolicy_10 : decode cX6_bestPolicy 10 = .ok (.iconst 3, 1) := by decide +kernel
theorem dX6_bestPolicy_11 : decode cX6_bestPolicy 11 = .ok (.if_icmp .gt 59, 3) := by decide +kernel
theorem dX6_bestPolicy_14 : decode cX6_bestPolicy 14 = .ok (.aload_n 0, 1) := by decide +kernel
theorem dX6_bestPolicy_15 : decode cX6_bestPolicy 15 = .ok (.getfield 16, 3) := by decide +kernel
theorem dX6_bestPolicy_18 : decode cX6_bestPolicy 18 = .ok (.aload_n 0, 1) := by decide +kernel
theorem dX6_bestPolicy_19 : decode cX6_bestPolicy 19 = .ok (.getfield 10, 3) := by decide +kernel
theorem dX6_bestPolicy_22 : decode cX6_bestPolicy 22 = .ok (.invokevirtual 122, 3) := by decide +kernel
theorem dX6_bestPolicy_25 : decode cX6_bestPolicy 25 = .ok (.aload_n 0, 1) := by decide +kernel
theorem dX6_bestPolicy_26 : decode cX6_bestPolicy 26 = .ok (.getfield 16, 3) := by decide +kernel
theorem dX6_bestPolicy_29 : decode cX6_bestPolicy 29 = .ok (.getfield 61, 3) := by decide +kernel
theorem dX6_bestPolicy_32 : decode cX6_bestPolicy 32 = .ok (.iload_n 3, 1) := by decide +kernel
theorem dX6_bestPolicy_33 : decode cX6_bestPolicy 33 = .ok (.putfield 135, 3) := by decide +kernel
theorem dX6_bestPolicy_36 : decode cX6_bestPolicy 36 = .ok (.aload_n 0, 1) := by decide +kernel
theorem dX6_bestPolicy_37 : decode cX6_bestPolicy 37 = .ok (.iconst 1, 1) := by decide +kernel
theorem dX6_bestPolicy_38 : decode cX6_bestPolicy 38 = .ok (.sipush 300, 3) := by decide +kernel
theorem dX6_bestPolicy_41 : decode cX6_bestPolicy 41 = .ok (.invokevirtual 193, 3) := by decide +kernel
theorem dX6_bestPolicy_44 : decode cX6_bestPolicy 44 = .ok (.istore 4, 2) := by decide +kernel
theorem dX6_bestPolicy_46 : decode cX6_bestPolicy 46 = .ok (.iload 4, 2) := by decide +kernel
theorem dX6_bestPolicy_48 : decode cX6_bestPolicy 48 = .ok (.bipush (-9), 2) := by decide +kernel
theorem dX6_bestPolicy_50 : decode cX6_bestPolicy 50 = .ok (.if_icmp .eq 14, 3) := by decide +kernel
theorem dX6_bestPolicy_53 : decode cX6_bestPolicy 53 = .ok (.iload 4, 2) := by decide +kernel
theorem dX6_bestPolicy_55 : decode cX6_bestPolicy 55 = .ok (.iload_n 2, 1) := by decide +kernel
theorem dX6_bestPolicy_56 : decode cX6_bestPolicy 56 = .ok (.if_icmp .ge 8, 3) := by decide +kernel
theorem dX6_bestPolicy_59 : decode cX6_bestPolicy 59 = .ok (.iload_n 3, 1) := by decide +kernel
theorem dX6_bestPolicy_60 : decode cX6_bestPolicy 60 = .ok (.istore_n 1, 1) := by decide +kernel
theorem dX6_bestPolicy_61 : decode cX6_bestPolicy 61 = .ok (.iload 4, 2) := by decide +kernel
theorem dX6_bestPolicy_63 : decode cX6_bestPolicy 63 = .ok (.istore_n 2, 1) := by decide +kernel
theorem dX6_bestPolicy_64 : decode cX6_bestPolicy 64 = .ok (.iinc 3 1, 3) := by decide +kernel
theorem dX6_bestPolicy_67 : decode cX6_bestPolicy 67 = .ok (.goto (-58), 3) := by decide +kernel
theorem dX6_bestPolicy_70 : decode cX6_bestPolicy 70 = .ok (.iload_n 1, 1) := by decide +kernel
theorem dX6_bestPolicy_71 : decode cX6_bestPolicy 71 = .ok (.ireturn, 1) := by decide +kernel
theorem dX6_bearable_0 : decode cX6_bearable 0 = .ok (.aload_n 0, 1) := by decide +kernel
theorem dX6_bearable_1 : decode cX6_bearable 1 = .ok (.iload_n 1, 1) := by decide +kernel
theorem dX6_bearable_2 : decode cX6_bearable 2 = .ok (.invokevirtual 71, 3) := by decide +kernel
theorem dX6_bearable_5 : decode cX6_bearable 5 = .ok (.ifCond .eq 13, 3) := by decide +kernel
theorem dX6_bearable_8 : decode cX6_bearable 8 = .ok (.iload_n 2, 1) := by decide +kernel
theorem dX6_bearable_9 : decode cX6_bearable 9 = .ok (.iconst 0, 1) := by decide +kernel
theorem dX6_bearable_10 : decode cX6_bearable 10 = .ok (.bipush 100, 2) := by decide +kernel
theorem dX6_bearable_12 : decode cX6_bearable 12 = .ok (.invokestatic 34, 3) := by decide +kernel
theorem dX6_bearable_15 : decode cX6_bearable 15 = .ok (.ifCond .ne 5, 3) := by decide +kernel
theorem dX6_bearable_18 : decode cX6_bearable 18 = .ok (.iconst (-1), 1) := by decide +kernel
theorem dX6_bearable_19 : decode cX6_bearable 19 = .ok (.ireturn, 1) := by decide +kernel
theorem dX6_bearable_20 : decode cX6_bearable 20 = .ok (.bipush 99, 2) := by decide +kernel
theorem dX6_bearable_22 : decode cX6_bearable 22 = .ok (.istore_n 3, 1) := by decide +kernel
theorem dX6_bearable_23 : decode cX6_bearable 23 = .ok (.iload_n 3, 1) := by decide +kernel
theorem dX6_bearable_24 : decode cX6_bearable 24 = .ok (.ifCond .lt 46, 3) := by decide +kernel
theorem dX6_bearable_27 : decode cX6_bearable 27 = .ok (.aload_n 0, 1) := by decide +kernel
theorem dX6_bearable_28 : decode cX6_bearable 28 = .ok (.getfield 16, 3) := by decide +kernel
theorem dX6_bearable_31 : decode cX6_bearable 31 = .ok (.aload_n 0, 1) := by decide +kernel
theorem dX6_bearable_32 : decode cX6_bearable 32 = .ok (.getfield 10, 3) := by decide +kernel
theorem dX6_bearable_35 : decode cX6_bearable 35 = .ok (.invokevirtual 122, 3) := by decide +kernel
theorem dX6_bearable_38 : decode cX6_bearable 38 = .ok (.aload_n 0, 1) := by decide +kernel
theorem dX6_bearable_39 : decode cX6_bearable 39 = .ok (.getfield 16, 3) := by decide +kernel
theorem dX6_bearable_42 : decode cX6_bearable 42 = .ok (.getfield 61, 3) := by decide +kernel
theorem dX6_bearable_45 : decode cX6_bearable 45 = .ok (.getfield 74, 3) := by decide +kernel
theorem dX6_bearable_48 : decode cX6_bearable 48 = .ok (.iload_n 1, 1) := by decide +kernel
theorem dX6_bearable_49 : decode cX6_bearable 49 = .ok (.iload_n 3, 1) := by decide +kernel
theorem dX6_bearable_50 : decode cX6_bearable 50 = .ok (.iastore, 1) := by decide +kernel
theorem dX6_bearable_51 : decode cX6_bearable 51 = .ok (.aload_n 0, 1) := by decide +kernel
theorem dX6_bearable_52 : decode cX6_bearable 52 = .ok (.iconst 1, 1) := by decide +kernel
theorem dX6_bearable_53 : decode cX6_bearable 53 = .ok (.iload_n 2, 1) := by decide +kernel
theorem dX6_bearable_54 : decode cX6_bearable 54 = .ok (.invokevirtual 193, 3) := by decide +kernel
theorem dX6_bearable_57 : decode cX6_bearable 57 = .ok (.bipush (-9), 2) := by decide +kernel
theorem dX6_bearable_59 : decode cX6_bearable 59 = .ok (.if_icmp .eq 5, 3) := by decide +kernel
theorem dX6_bearable_62 : decode cX6_bearable 62 = .ok (.iload_n 3, 1) := by decide +kernel
theorem dX6_bearable_63 : decode cX6_bearable 63 = .ok (.ireturn, 1) := by decide +kernel
theorem dX6_bearable_64 : decode cX6_bearable 64 = .ok (.iinc 3 (-1), 3) := by decide +kernel
theorem dX6_bearable_67 : decode cX6_bearable 67 = .ok (.goto (-44), 3) := by decide +kernel
theorem dX6_bearable_70 : decode cX6_bearable 70 = .ok (.bipush (-9), 2) := by decide +kernel
theorem dX6_bearable_72 : decode cX6_bearable 72 = .ok (.ireturn, 1) := by decide +kernel
theorem dX6_keep_0 : decode cX6_keep 0 = .ok (.iload_n 1, 1) := by decide +kernel
theorem dX6_keep_1 : decode cX6_keep 1 = .ok (.iconst 0, 1) := by decide +kernel
theorem dX6_keep_2 : decode cX6_keep 2 = .ok (.iconst 1, 1) := by decide +kernel
theorem dX6_keep_3 : decode cX6_keep 3 = .ok (.invokestatic 34, 3) := by decide +kernel
theorem dX6_keep_6 : decode cX6_keep 6 = .ok (.ifCond .ne 5, 3) := by decide +kernel
theorem dX6_keep_9 : decode cX6_keep 9 = .ok (.iconst (-1), 1) := by decide +kernel
theorem dX6_keep_10 : decode cX6_keep 10 = .ok (.ireturn, 1) := by decide +kernel
theorem dX6_keep_11 : decode cX6_keep 11 = .ok (.aload_n 0, 1) := by decide +kernel
theorem dX6_keep_12 : decode cX6_keep 12 = .ok (.getfield 23, 3) := by decide +kernel
theorem dX6_keep_15 : decode cX6_keep 15 = .ok (.iload_n 1, 1) := by decide +kernel
theorem dX6_keep_16 : decode cX6_keep 16 = .ok (.aaload, 1) := by decide +kernel
theorem dX6_keep_17 : decode cX6_keep 17 = .ok (.aload_n 0, 1) := by decide +kernel
theorem dX6_keep_18 : decode cX6_keep 18 = .ok (.getfield 10, 3) := by decide +kernel
theorem dX6_keep_21 : decode cX6_keep 21 = .ok (.invokevirtual 122, 3) := by decide +kernel
theorem dX6_keep_24 : decode cX6_keep 24 = .ok (.aload_n 0, 1) := by decide +kernel
theorem dX6_keep_25 : decode cX6_keep 25 = .ok (.getfield 26, 3) := by decide +kernel
theorem dX6_keep_28 : decode cX6_keep 28 = .ok (.iload_n 1, 1) := by decide +kernel
theorem dX6_keep_29 : decode cX6_keep 29 = .ok (.iconst 1, 1) := by decide +kernel
theorem dX6_keep_30 : decode cX6_keep 30 = .ok (.bastore, 1) := by decide +kernel
theorem dX6_keep_31 : decode cX6_keep 31 = .ok (.aload_n 0, 1) := by decide +kernel
theorem dX6_keep_32 : decode cX6_keep 32 = .ok (.getfield 10, 3) := by decide +kernel
theorem dX6_keep_35 : decode cX6_keep 35 = .ok (.getfield 41, 3) := by decide +kernel
theorem dX6_keep_38 : decode cX6_keep 38 = .ok (.ireturn, 1) := by decide +kernel
theorem dX6_back_0 : decode cX6_back 0 = .ok (.iload_n 1, 1) := by decide +kernel
theorem dX6_back_1 : decode cX6_back 1 = .ok (.iconst 0, 1) := by decide +kernel
theorem dX6_back_2 : decode cX6_back 2 = .ok (.iconst 1, 1) := by decide +kernel
theorem dX6_back_3 : decode cX6_back 3 = .ok (.invokestatic 34, 3) := by decide +kernel
theorem dX6_back_6 : decode cX6_back 6 = .ok (.ifCond .ne 5, 3) := by decide +kernel
theorem dX6_back_9 : decode cX6_back 9 = .ok (.iconst (-1), 1) := by decide +kernel
theorem dX6_back_10 : decode cX6_back 10 = .ok (.ireturn, 1) := by decide +kernel
theorem dX6_back_11 : decode cX6_back 11 = .ok (.aload_n 0, 1) := by decide +kernel
theorem dX6_back_12 : decode cX6_back 12 = .ok (.getfield 26, 3) := by decide +kernel
theorem dX6_back_15 : decode cX6_back 15 = .ok (.iload_n 1, 1) := by decide +kernel
theorem dX6_back_16 : decode cX6_back 16 = .ok (.baload, 1) := by decide +kernel
theorem dX6_back_17 : decode cX6_back 17 = .ok (.ifCond .ne 6, 3) := by decide +kernel
theorem dX6_back_20 : decode cX6_back 20 = .ok (.bipush (-2), 2) := by decide +kernel
theorem dX6_back_22 : decode cX6_back 22 = .ok (.ireturn, 1) := by decide +kernel
theorem dX6_back_23 : decode cX6_back 23 = .ok (.aload_n 0, 1) := by decide +kernel
theorem dX6_back_24 : decode cX6_back 24 = .ok (.invokevirtual 38, 3) := by decide +kernel
theorem dX6_back_27 : decode cX6_back 27 = .ok (.aload_n 0, 1) := by decide +kernel
theorem dX6_back_28 : decode cX6_back 28 = .ok (.getfield 10, 3) := by decide +kernel
theorem dX6_back_31 : decode cX6_back 31 = .ok (.aload_n 0, 1) := by decide +kernel
theorem dX6_back_32 : decode cX6_back 32 = .ok (.getfield 23, 3) := by decide +kernel
theorem dX6_back_35 : decode cX6_back 35 = .ok (.iload_n 1, 1) := by decide +kernel
theorem dX6_back_36 : decode cX6_back 36 = .ok (.aaload, 1) := by decide +kernel
theorem dX6_back_37 : decode cX6_back 37 = .ok (.invokevirtual 122, 3) := by decide +kernel
theorem dX6_back_40 : decode cX6_back 40 = .ok (.aload_n 0, 1) := by decide +kernel
theorem dX6_back_41 : decode cX6_back 41 = .ok (.getfield 10, 3) := by decide +kernel
theorem dX6_back_44 : decode cX6_back 44 = .ok (.getfield 41, 3) := by decide +kernel
theorem dX6_back_47 : decode cX6_back 47 = .ok (.ireturn, 1) := by decide +kernel
theorem dX6_remember_0 : decode cX6_remember 0 = .ok (.aload_n 0, 1) := by decide +kernel
theorem dX6_remember_1 : decode cX6_remember 1 = .ok (.getfield 30, 3) := by decide +kernel
theorem dX6_remember_4 : decode cX6_remember 4 = .ok (.bipush 8, 2) := by decide +kernel
theorem dX6_remember_6 : decode cX6_remember 6 = .ok (.if_icmp .lt 7, 3) := by decide +kernel
theorem dX6_remember_9 : decode cX6_remember 9 = .ok (.aload_n 0, 1) := by decide +kernel
theorem dX6_remember_10 : decode cX6_remember 10 = .ok (.invokevirtual 197, 3) := by decide +kernel
theorem dX6_remember_13 : decode cX6_remember 13 = .ok (.aload_n 0, 1) := by decide +kernel
theorem dX6_remember_14 : decode cX6_remember 14 = .ok (.getfield 19, 3) := by decide +kernel
theorem dX6_remember_17 : decode cX6_remember 17 = .ok (.aload_n 0, 1) := by decide +kernel
theorem dX6_remember_18 : decode cX6_remember 18 = .ok (.getfield 30, 3) := by decide +kernel
theorem dX6_remember_21 : decode cX6_remember 21 = .ok (.aaload, 1) := by decide +kernel
theorem dX6_remember_22 : decode cX6_remember 22 = .ok (.aload_n 0, 1) := by decide +kernel
theorem dX6_remember_23 : decode cX6_remember 23 = .ok (.getfield 10, 3) := by decide +kernel
theorem dX6_remember_26 : decode cX6_remember 26 = .ok (.invokevirtual 122, 3) := by decide +kernel
theorem dX6_remember_29 : decode cX6_remember 29 = .ok (.aload_n 0, 1) := by decide +kernel
theorem dX6_remember_30 : decode cX6_remember 30 = .ok (.dup, 1) := by decide +kernel
theorem dX6_remember_31 : decode cX6_remember 31 = .ok (.getfield 30, 3) := by decide +kernel
theorem dX6_remember_34 : decode cX6_remember 34 = .ok (.iconst 1, 1) := by decide +kernel
theorem dX6_remember_35 : decode cX6_remember 35 = .ok (.iadd, 1) := by decide +kernel
theorem dX6_remember_36 : decode cX6_remember 36 = .ok (.putfield 30, 3) := by decide +kernel
theorem dX6_remember_39 : decode cX6_remember 39 = .ok (.return_, 1) := by decide +kernel
theorem dX6_dropOldestRecord_0 : decode cX6_dropOldestRecord 0 = .ok (.aload_n 0, 1) := by decide +kernel
theorem dX6_dropOldestRecord_1 : decode cX6_dropOldestRecord 1 = .ok (.getfield 19, 3) := by decide +kernel
theorem dX6_dropOldestRecord_4 : decode cX6_dropOldestRecord 4 = .ok (.iconst 0, 1) := by decide +kernel
theorem dX6_dropOldestRecord_5 : decode cX6_dropOldestRecord 5 = .ok (.aaload, 1) := by decide +kernel
theorem dX6_dropOldestRecord_6 : decode cX6_dropOldestRecord 6 = .ok (.astore_n 1, 1) := by decide +kernel
theorem dX6_dropOldestRecord_7 : decode cX6_dropOldestRecord 7 = .ok (.iconst 1, 1) := by decide +kernel
theorem dX6_dropOldestRecord_8 : decode cX6_dropOldestRecord 8 = .ok (.istore_n 2, 1) := by decide +kernel
theorem dX6_dropOldestRecord_9 : decode cX6_dropOldestRecord 9 = .ok (.iload_n 2, 1) := by decide +kernel
theorem dX6_dropOldestRecord_10 : decode cX6_dropOldestRecord 10 = .ok (.aload_n 0, 1) := by decide +kernel
theorem dX6_dropOldestRecord_11 : decode cX6_dropOldestRecord 11 = .ok (.getfield 19, 3) := by decide +kernel
theorem dX6_dropOldestRecord_14 : decode cX6_dropOldestRecord 14 = .ok (.arraylength, 1) := by decide +kernel
theorem dX6_dropOldestRecord_15 : decode cX6_dropOldestRecord 15 = .ok (.if_icmp .ge 23, 3) := by decide +kernel
theorem dX6_dropOldestRecord_18 : decode cX6_dropOldestRecord 18 = .ok (.aload_n 0, 1) := by decide +kernel
theorem dX6_dropOldestRecord_19 : decode cX6_dropOldestRecord 19 = .ok (.getfield 19, 3) := by decide +kernel
theorem dX6_dropOldestRecord_22 : decode cX6_dropOldestRecord 22 = .ok (.iload_n 2, 1) := by decide +kernel
theorem dX6_dropOldestRecord_23 : decode cX6_dropOldestRecord 23 = .ok (.iconst 1, 1) := by decide +kernel
theorem dX6_dropOldestRecord_24 : decode cX6_dropOldestRecord 24 = .ok (.isub, 1) := by decide +kernel
theorem dX6_dropOldestRecord_25 : decode cX6_dropOldestRecord 25 = .ok (.aload_n 0, 1) := by decide +kernel
theorem dX6_dropOldestRecord_26 : decode cX6_dropOldestRecord 26 = .ok (.getfield 19, 3) := by decide +kernel
theorem dX6_dropOldestRecord_29 : decode cX6_dropOldestRecord 29 = .ok (.iload_n 2, 1) := by decide +kernel
theorem dX6_dropOldestRecord_30 : decode cX6_dropOldestRecord 30 = .ok (.aaload, 1) := by decide +kernel
theorem dX6_dropOldestRecord_31 : decode cX6_dropOldestRecord 31 = .ok (.aastore, 1) := by decide +kernel
theorem dX6_dropOldestRecord_32 : decode cX6_dropOldestRecord 32 = .ok (.iinc 2 1, 3) := by decide +kernel
theorem dX6_dropOldestRecord_35 : decode cX6_dropOldestRecord 35 = .ok (.goto (-26), 3) := by decide +kernel
theorem dX6_dropOldestRecord_38 : decode cX6_dropOldestRecord 38 = .ok (.aload_n 0, 1) := by decide +kernel
theorem dX6_dropOldestRecord_39 : decode cX6_dropOldestRecord 39 = .ok (.getfield 19, 3) := by decide +kernel
theorem dX6_dropOldestRecord_42 : decode cX6_dropOldestRecord 42 = .ok (.aload_n 0, 1) := by decide +kernel
theorem dX6_dropOldestRecord_43 : decode cX6_dropOldestRecord 43 = .ok (.getfield 19, 3) := by decide +kernel
theorem dX6_dropOldestRecord_46 : decode cX6_dropOldestRecord 46 = .ok (.arraylength, 1) := by decide +kernel
theorem dX6_dropOldestRecord_47 : decode cX6_dropOldestRecord 47 = .ok (.iconst 1, 1) := by decide +kernel
theorem dX6_dropOldestRecord_48 : decode cX6_dropOldestRecord 48 = .ok (.isub, 1) := by decide +kernel
theorem dX6_dropOldestRecord_49 : decode cX6_dropOldestRecord 49 = .ok (.aload_n 1, 1) := by decide +kernel
theorem dX6_dropOldestRecord_50 : decode cX6_dropOldestRecord 50 = .ok (.aastore, 1) := by decide +kernel
theorem dX6_dropOldestRecord_51 : decode cX6_dropOldestRecord 51 = .ok (.aload_n 0, 1) := by decide +kernel
theorem dX6_dropOldestRecord_52 : decode cX6_dropOldestRecord 52 = .ok (.aload_n 0, 1) := by decide +kernel
theorem dX6_dropOldestRecord_53 : decode cX6_dropOldestRecord 53 = .ok (.getfield 19, 3) := by decide +kernel
theorem dX6_dropOldestRecord_56 : decode cX6_dropOldestRecord 56 = .ok (.arraylength, 1) := by decide +kernel
theorem dX6_dropOldestRecord_57 : decode cX6_dropOldestRecord 57 = .ok (.iconst 1, 1) := by decide +kernel
theorem dX6_dropOldestRecord_58 : decode cX6_dropOldestRecord 58 = .ok (.isub, 1) := by decide +kernel
theorem dX6_dropOldestRecord_59 : decode cX6_dropOldestRecord 59 = .ok (.putfield 30, 3) := by decide +kernel
theorem dX6_dropOldestRecord_62 : decode cX6_dropOldestRecord 62 = .ok (.return_, 1) := by decide +kernel
theorem dX6_ticksOfTrial_0 : decode cX6_ticksOfTrial 0 = .ok (.iconst 0, 1) := by decide +kernel
theorem dX6_ticksOfTrial_1 : decode cX6_ticksOfTrial 1 = .ok (.istore_n 3, 1) := by decide +kernel
theorem dX6_ticksOfTrial_2 : decode cX6_ticksOfTrial 2 = .ok (.iload_n 3, 1) := by decide +kernel
theorem dX6_ticksOfTrial_3 : decode cX6_ticksOfTrial 3 = .ok (.iload_n 2, 1) := by decide +kernel
theorem dX6_ticksOfTrial_4 : decode cX6_ticksOfTrial 4 = .ok (.if_icmp .ge 27, 3) := by decide +kernel
theorem dX6_ticksOfTrial_7 : decode cX6_ticksOfTrial 7 = .ok (.aload_n 0, 1) := by decide +kernel
theorem dX6_ticksOfTrial_8 : decode cX6_ticksOfTrial 8 = .ok (.getfield 16, 3) := by decide +kernel
theorem dX6_ticksOfTrial_11 : decode cX6_ticksOfTrial 11 = .ok (.iload_n 1, 1) := by decide +kernel
theorem dX6_ticksOfTrial_12 : decode cX6_ticksOfTrial 12 = .ok (.invokevirtual 200, 3) := by decide +kernel
theorem dX6_ticksOfTrial_15 : decode cX6_ticksOfTrial 15 = .ok (.ifCond .ne 16, 3) := by decide +kernel
theorem dX6_ticksOfTrial_18 : decode cX6_ticksOfTrial 18 = .ok (.aload_n 0, 1) := by decide +kernel
theorem dX6_ticksOfTrial_19 : decode cX6_ticksOfTrial 19 = .ok (.getfield 16, 3) := by decide +kernel
theorem dX6_ticksOfTrial_22 : decode cX6_ticksOfTrial 22 = .ok (.invokevirtual 101, 3) := by decide +kernel
theorem dX6_ticksOfTrial_25 : decode cX6_ticksOfTrial 25 = .ok (.iinc 3 1, 3) := by decide +kernel
theorem dX6_ticksOfTrial_28 : decode cX6_ticksOfTrial 28 = .ok (.goto (-26), 3) := by decide +kernel
theorem dX6_ticksOfTrial_31 : decode cX6_ticksOfTrial 31 = .ok (.aload_n 0, 1) := by decide +kernel
theorem dX6_ticksOfTrial_32 : decode cX6_ticksOfTrial 32 = .ok (.getfield 16, 3) := by decide +kernel
theorem dX6_ticksOfTrial_35 : decode cX6_ticksOfTrial 35 = .ok (.iload_n 1, 1) := by decide +kernel
theorem dX6_ticksOfTrial_36 : decode cX6_ticksOfTrial 36 = .ok (.invokevirtual 200, 3) := by decide +kernel
theorem dX6_ticksOfTrial_39 : decode cX6_ticksOfTrial 39 = .ok (.ifCond .eq 7, 3) := by decide +kernel
theorem dX6_ticksOfTrial_42 : decode cX6_ticksOfTrial 42 = .ok (.iload_n 3, 1) := by decide +kernel
theorem dX6_ticksOfTrial_43 : decode cX6_ticksOfTrial 43 = .ok (.goto 5, 3) := by decide +kernel
theorem dX6_ticksOfTrial_46 : decode cX6_ticksOfTrial 46 = .ok (.bipush (-9), 2) := by decide +kernel
theorem dX6_ticksOfTrial_48 : decode cX6_ticksOfTrial 48 = .ok (.ireturn, 1) := by decide +kernel
theorem dX6_isBlock_0 : decode cX6_isBlock 0 = .ok (.iload_n 1, 1) := by decide +kernel
theorem dX6_isBlock_1 : decode cX6_isBlock 1 = .ok (.iconst 0, 1) := by decide +kernel
theorem dX6_isBlock_2 : decode cX6_isBlock 2 = .ok (.aload_n 0, 1) := by decide +kernel
theorem dX6_isBlock_3 : decode cX6_isBlock 3 = .ok (.getfield 10, 3) := by decide +kernel
theorem dX6_isBlock_6 : decode cX6_isBlock 6 = .ok (.getfield 61, 3) := by decide +kernel
theorem dX6_isBlock_9 : decode cX6_isBlock 9 = .ok (.getfield 126, 3) := by decide +kernel
theorem dX6_isBlock_12 : decode cX6_isBlock 12 = .ok (.iconst 1, 1) := by decide +kernel
theorem dX6_isBlock_13 : decode cX6_isBlock 13 = .ok (.isub, 1) := by decide +kernel
theorem dX6_isBlock_14 : decode cX6_isBlock 14 = .ok (.invokestatic 34, 3) := by decide +kernel
theorem dX6_isBlock_17 : decode cX6_isBlock 17 = .ok (.ireturn, 1) := by decide +kernel
theorem dX6_isLink_0 : decode cX6_isLink 0 = .ok (.iload_n 1, 1) := by decide +kernel
theorem dX6_isLink_1 : decode cX6_isLink 1 = .ok (.iconst 0, 1) := by decide +kernel
theorem dX6_isLink_2 : decode cX6_isLink 2 = .ok (.aload_n 0, 1) := by decide +kernel
theorem dX6_isLink_3 : decode cX6_isLink 3 = .ok (.getfield 10, 3) := by decide +kernel
theorem dX6_isLink_6 : decode cX6_isLink 6 = .ok (.getfield 61, 3) := by decide +kernel
theorem dX6_isLink_9 : decode cX6_isLink 9 = .ok (.getfield 129, 3) := by decide +kernel
theorem dX6_isLink_12 : decode cX6_isLink 12 = .ok (.invokestatic 34, 3) := by decide +kernel
theorem dX6_isLink_15 : decode cX6_isLink 15 = .ok (.ireturn, 1) := by decide +kernel
theorem dX6_isBlockSet_0 : decode cX6_isBlockSet 0 = .ok (.iload_n 1, 1) := by decide +kernel
theorem dX6_isBlockSet_1 : decode cX6_isBlockSet 1 = .ok (.iconst 1, 1) := by decide +kernel
theorem dX6_isBlockSet_2 : decode cX6_isBlockSet 2 = .ok (.iconst 1, 1) := by decide +kernel
theorem dX6_isBlockSet_3 : decode cX6_isBlockSet 3 = .ok (.aload_n 0, 1) := by decide +kernel
theorem dX6_isBlockSet_4 : decode cX6_isBlockSet 4 = .ok (.getfield 10, 3) := by decide +kernel
theorem dX6_isBlockSet_7 : decode cX6_isBlockSet 7 = .ok (.getfield 61, 3) := by decide +kernel
theorem dX6_isBlockSet_10 : decode cX6_isBlockSet 10 = .ok (.getfield 126, 3) := by decide +kernel
theorem dX6_isBlockSet_13 : decode cX6_isBlockSet 13 = .ok (.ishl, 1) := by decide +kernel
theorem dX6_isBlockSet_14 : decode cX6_isBlockSet 14 = .ok (.iconst 1, 1) := by decide +kernel
theorem dX6_isBlockSet_15 : decode cX6_isBlockSet 15 = .ok (.isub, 1) := by decide +kernel
theorem dX6_isBlockSet_16 : decode cX6_isBlockSet 16 = .ok (.invokestatic 34, 3) := by decide +kernel
theorem dX6_isBlockSet_19 : decode cX6_isBlockSet 19 = .ok (.ireturn, 1) := by decide +kernel
theorem dX6_isSetting_0 : decode cX6_isSetting 0 = .ok (.iload_n 0, 1) := by decide +kernel
theorem dX6_isSetting_1 : decode cX6_isSetting 1 = .ok (.tableswitch 62 0 3 #[31, 38, 45, 52], 31) := by decide +kernel
theorem dX6_isSetting_32 : decode cX6_isSetting 32 = .ok (.iload_n 1, 1) := by decide +kernel
theorem dX6_isSetting_33 : decode cX6_isSetting 33 = .ok (.iconst 1, 1) := by decide +kernel
theorem dX6_isSetting_34 : decode cX6_isSetting 34 = .ok (.iconst 4, 1) := by decide +kernel
theorem dX6_isSetting_35 : decode cX6_isSetting 35 = .ok (.invokestatic 34, 3) := by decide +kernel
theorem dX6_isSetting_38 : decode cX6_isSetting 38 = .ok (.ireturn, 1) := by decide +kernel
theorem dX6_isSetting_39 : decode cX6_isSetting 39 = .ok (.iload_n 1, 1) := by decide +kernel
theorem dX6_isSetting_40 : decode cX6_isSetting 40 = .ok (.iconst 0, 1) := by decide +kernel
theorem dX6_isSetting_41 : decode cX6_isSetting 41 = .ok (.iconst 3, 1) := by decide +kernel
theorem dX6_isSetting_42 : decode cX6_isSetting 42 = .ok (.invokestatic 34, 3) := by decide +kernel
theorem dX6_isSetting_45 : decode cX6_isSetting 45 = .ok (.ireturn, 1) := by decide +kernel
theorem dX6_isSetting_46 : decode cX6_isSetting 46 = .ok (.iload_n 1, 1) := by decide +kernel
theorem dX6_isSetting_47 : decode cX6_isSetting 47 = .ok (.iconst 0, 1) := by decide +kernel
theorem dX6_isSetting_48 : decode cX6_isSetting 48 = .ok (.iconst 1, 1) := by decide +kernel
theorem dX6_isSetting_49 : decode cX6_isSetting 49 = .ok (.invokestatic 34, 3) := by decide +kernel
theorem dX6_isSetting_52 : decode cX6_isSetting 52 = .ok (.ireturn, 1) := by decide +kernel
theorem dX6_isSetting_53 : decode cX6_isSetting 53 = .ok (.iload_n 1, 1) := by decide +kernel
theorem dX6_isSetting_54 : decode cX6_isSetting 54 = .ok (.ifCond .lt 7, 3) := by decide +kernel
theorem dX6_isSetting_57 : decode cX6_isSetting 57 = .ok (.iconst 1, 1) := by decide +kernel
theorem dX6_isSetting_58 : decode cX6_isSetting 58 = .ok (.goto 4, 3) := by decide +kernel
theorem dX6_isSetting_61 : decode cX6_isSetting 61 = .ok (.iconst 0, 1) := by decide +kernel
theorem dX6_isSetting_62 : decode cX6_isSetting 62 = .ok (.ireturn, 1) := by decide +kernel
theorem dX6_isSetting_63 : decode cX6_isSetting 63 = .ok (.iconst 0, 1) := by decide +kernel
theorem dX6_isSetting_64 : decode cX6_isSetting 64 = .ok (.ireturn, 1) := by decide +kernel
theorem dX6_isWithin_0 : decode cX6_isWithin 0 = .ok (.iload_n 0, 1) := by decide +kernel
theorem dX6_isWithin_1 : decode cX6_isWithin 1 = .ok (.iload_n 1, 1) := by decide +kernel
theorem dX6_isWithin_2 : decode cX6_isWithin 2 = .ok (.if_icmp .lt 12, 3) := by decide +kernel
theorem dX6_isWithin_5 : decode cX6_isWithin 5 = .ok (.iload_n 0, 1) := by decide +kernel
theorem dX6_isWithin_6 : decode cX6_isWithin 6 = .ok (.iload_n 2, 1) := by decide +kernel
theorem dX6_isWithin_7 : decode cX6_isWithin 7 = .ok (.if_icmp .gt 7, 3) := by decide +kernel
theorem dX6_isWithin_10 : decode cX6_isWithin 10 = .ok (.iconst 1, 1) := by decide +kernel
theorem dX6_isWithin_11 : decode cX6_isWithin 11 = .ok (.goto 4, 3) := by decide +kernel
theorem dX6_isWithin_14 : decode cX6_isWithin 14 = .ok (.iconst 0, 1) := by decide +kernel
theorem dX6_isWithin_15 : decode cX6_isWithin 15 = .ok (.ireturn, 1) := by decide +kernel
theorem dX6_numberOfPacket_0 : decode cX6_numberOfPacket 0 = .ok (.iload_n 1, 1) := by decide +kernel
theorem dX6_numberOfPacket_1 : decode cX6_numberOfPacket 1 = .ok (.ifCond .lt 12, 3) := by decide +kernel
theorem dX6_numberOfPacket_4 : decode cX6_numberOfPacket 4 = .ok (.iload_n 2, 1) := by decide +kernel
theorem dX6_numberOfPacket_5 : decode cX6_numberOfPacket 5 = .ok (.iconst 0, 1) := by decide +kernel
theorem dX6_numberOfPacket_6 : decode cX6_numberOfPacket 6 = .ok (.iconst 2, 1) := by decide +kernel
theorem dX6_numberOfPacket_7 : decode cX6_numberOfPacket 7 = .ok (.invokestatic 34, 3) := by decide +kernel
theorem dX6_numberOfPacket_10 : decode cX6_numberOfPacket 10 = .ok (.ifCond .ne 5, 3) := by decide +kernel
theorem dX6_numberOfPacket_13 : decode cX6_numberOfPacket 13 = .ok (.iconst (-1), 1) := by decide +kernel
theorem dX6_numberOfPacket_14 : decode cX6_numberOfPacket 14 = .ok (.ireturn, 1) := by decide +kernel
theorem dX6_numberOfPacket_15 : decode cX6_numberOfPacket 15 = .ok (.iload_n 1, 1) := by decide +kernel
theorem dX6_numberOfPacket_16 : decode cX6_numberOfPacket 16 = .ok (.aload_n 0, 1) := by decide +kernel
theorem dX6_numberOfPacket_17 : decode cX6_numberOfPacket 17 = .ok (.getfield 108, 3) := by decide +kernel
theorem dX6_numberOfPacket_20 : decode cX6_numberOfPacket 20 = .ok (.if_icmp .lt 6, 3) := by decide +kernel
theorem dX6_numberOfPacket_23 : decode cX6_numberOfPacket 23 = .ok (.bipush (-9), 2) := by decide +kernel
theorem dX6_numberOfPacket_25 : decode cX6_numberOfPacket 25 = .ok (.ireturn, 1) := by decide +kernel
theorem dX6_numberOfPacket_26 : decode cX6_numberOfPacket 26 = .ok (.aload_n 0, 1) := by decide +kernel
theorem dX6_numberOfPacket_27 : decode cX6_numberOfPacket 27 = .ok (.iload_n 1, 1) := by decide +kernel
theorem dX6_numberOfPacket_28 : decode cX6_numberOfPacket 28 = .ok (.invokevirtual 203, 3) := by decide +kernel
theorem dX6_numberOfPacket_31 : decode cX6_numberOfPacket 31 = .ok (.istore_n 3, 1) := by decide +kernel
theorem dX6_numberOfPacket_32 : decode cX6_numberOfPacket 32 = .ok (.iload_n 2, 1) := by decide +kernel
theorem dX6_numberOfPacket_33 : decode cX6_numberOfPacket 33 = .ok (.lookupswitch 37 #[(0, 27), (1, 32)], 27) := by decide +kernel
theorem dX6_numberOfPacket_60 : decode cX6_numberOfPacket 60 = .ok (.iload_n 3, 1) := by decide +kernel
theorem dX6_numberOfPacket_61 : decode cX6_numberOfPacket 61 = .ok (.invokestatic 206, 3) := by decide +kernel
theorem dX6_numberOfPacket_64 : decode cX6_numberOfPacket 64 = .ok (.ireturn, 1) := by decide +kernel
theorem dX6_numberOfPacket_65 : decode cX6_numberOfPacket 65 = .ok (.iload_n 3, 1) := by decide +kernel
theorem dX6_numberOfPacket_66 : decode cX6_numberOfPacket 66 = .ok (.invokestatic 209, 3) := by decide +kernel
theorem dX6_numberOfPacket_69 : decode cX6_numberOfPacket 69 = .ok (.ireturn, 1) := by decide +kernel
theorem dX6_numberOfPacket_70 : decode cX6_numberOfPacket 70 = .ok (.iload_n 3, 1) := by decide +kernel
theorem dX6_numberOfPacket_71 : decode cX6_numberOfPacket 71 = .ok (.invokestatic 212, 3) := by decide +kernel
theorem dX6_numberOfPacket_74 : decode cX6_numberOfPacket 74 = .ok (.ireturn, 1) := by decide +kernel
theorem dX6_setIn_0 : decode cX6_setIn 0 = .ok (.iload_n 0, 1) := by decide +kernel
theorem dX6_setIn_1 : decode cX6_setIn 1 = .ok (.bipush 8, 2) := by decide +kernel
theorem dX6_setIn_3 : decode cX6_setIn 3 = .ok (.ishr, 1) := by decide +kernel
theorem dX6_setIn_4 : decode cX6_setIn 4 = .ok (.ireturn, 1) := by decide +kernel
theorem dX6_valueIn_0 : decode cX6_valueIn 0 = .ok (.iload_n 0, 1) := by decide +kernel
theorem dX6_valueIn_1 : decode cX6_valueIn 1 = .ok (.sipush 255, 3) := by decide +kernel
theorem dX6_valueIn_4 : decode cX6_valueIn 4 = .ok (.iand, 1) := by decide +kernel
theorem dX6_valueIn_5 : decode cX6_valueIn 5 = .ok (.ireturn, 1) := by decide +kernel
theorem dX6_degreeOf_0 : decode cX6_degreeOf 0 = .ok (.iload_n 0, 1) := by decide +kernel
theorem dX6_degreeOf_1 : decode cX6_degreeOf 1 = .ok (.bipush 8, 2) := by decide +kernel
theorem dX6_degreeOf_3 : decode cX6_degreeOf 3 = .ok (.ishr, 1) := by decide +kernel
theorem dX6_degreeOf_4 : decode cX6_degreeOf 4 = .ok (.invokestatic 215, 3) := by decide +kernel
theorem dX6_degreeOf_7 : decode cX6_degreeOf 7 = .ok (.ireturn, 1) := by decide +kernel
theorem dX6_hasBlock_0 : decode cX6_hasBlock 0 = .ok (.iload_n 0, 1) := by decide +kernel
theorem dX6_hasBlock_1 : decode cX6_hasBlock 1 = .ok (.bipush 8, 2) := by decide +kernel
theorem dX6_hasBlock_3 : decode cX6_hasBlock 3 = .ok (.iload_n 1, 1) := by decide +kernel
theorem dX6_hasBlock_4 : decode cX6_hasBlock 4 = .ok (.iadd, 1) := by decide +kernel
theorem dX6_hasBlock_5 : decode cX6_hasBlock 5 = .ok (.ishr, 1) := by decide +kernel
theorem dX6_hasBlock_6 : decode cX6_hasBlock 6 = .ok (.iconst 1, 1) := by decide +kernel
theorem dX6_hasBlock_7 : decode cX6_hasBlock 7 = .ok (.iand, 1) := by decide +kernel
theorem dX6_hasBlock_8 : decode cX6_hasBlock 8 = .ok (.ifCond .eq 7, 3) := by decide +kernel
theorem dX6_hasBlock_11 : decode cX6_hasBlock 11 = .ok (.iconst 1, 1) := by decide +kernel
theorem dX6_hasBlock_12 : decode cX6_hasBlock 12 = .ok (.goto 4, 3) := by decide +kernel
theorem dX6_hasBlock_15 : decode cX6_hasBlock 15 = .ok (.iconst 0, 1) := by decide +kernel
theorem dX6_hasBlock_16 : decode cX6_hasBlock 16 = .ok (.ireturn, 1) := by decide +kernel
theorem dX6_packetWith_0 : decode cX6_packetWith 0 = .ok (.iconst 1, 1) := by decide +kernel
theorem dX6_packetWith_1 : decode cX6_packetWith 1 = .ok (.bipush 8, 2) := by decide +kernel
theorem dX6_packetWith_3 : decode cX6_packetWith 3 = .ok (.iload_n 0, 1) := by decide +kernel
theorem dX6_packetWith_4 : decode cX6_packetWith 4 = .ok (.iadd, 1) := by decide +kernel
theorem dX6_packetWith_5 : decode cX6_packetWith 5 = .ok (.ishl, 1) := by decide +kernel
theorem dX6_packetWith_6 : decode cX6_packetWith 6 = .ok (.iload_n 1, 1) := by decide +kernel
theorem dX6_packetWith_7 : decode cX6_packetWith 7 = .ok (.ior, 1) := by decide +kernel
theorem dX6_packetWith_8 : decode cX6_packetWith 8 = .ok (.ireturn, 1) := by decide +kernel
theorem dX6_copyRow_0 : decode cX6_copyRow 0 = .ok (.aload_n 0, 1) := by decide +kernel
theorem dX6_copyRow_1 : decode cX6_copyRow 1 = .ok (.iconst 0, 1) := by decide +kernel
theorem dX6_copyRow_2 : decode cX6_copyRow 2 = .ok (.aload_n 1, 1) := by decide +kernel
theorem dX6_copyRow_3 : decode cX6_copyRow 3 = .ok (.iconst 0, 1) := by decide +kernel
theorem dX6_copyRow_4 : decode cX6_copyRow 4 = .ok (.aload_n 0, 1) := by decide +kernel
theorem dX6_copyRow_5 : decode cX6_copyRow 5 = .ok (.arraylength, 1) := by decide +kernel
theorem dX6_copyRow_6 : decode cX6_copyRow 6 = .ok (.aload_n 1, 1) := by decide +kernel
theorem dX6_copyRow_7 : decode cX6_copyRow 7 = .ok (.arraylength, 1) := by decide +kernel
theorem dX6_copyRow_8 : decode cX6_copyRow 8 = .ok (.invokestatic 220, 3) := by decide +kernel
theorem dX6_copyRow_11 : decode cX6_copyRow 11 = .ok (.invokestatic 225, 3) := by decide +kernel
theorem dX6_copyRow_14 : decode cX6_copyRow 14 = .ok (.return_, 1) := by decide +kernel
theorem dJ6_bitCount_0f7a4_0 : decode cJ6_bitCount_0f7a4 0 = .ok (.iload_n 0, 1) := by decide +kernel
theorem dJ6_bitCount_0f7a4_1 : decode cJ6_bitCount_0f7a4 1 = .ok (.iload_n 0, 1) := by decide +kernel
theorem dJ6_bitCount_0f7a4_2 : decode cJ6_bitCount_0f7a4 2 = .ok (.iconst 1, 1) := by decide +kernel
theorem dJ6_bitCount_0f7a4_3 : decode cJ6_bitCount_0f7a4 3 = .ok (.iushr, 1) := by decide +kernel
theorem dJ6_bitCount_0f7a4_4 : decode cJ6_bitCount_0f7a4 4 = .ok (.ldc_w 265, 3) := by decide +kernel
theorem dJ6_bitCount_0f7a4_7 : decode cJ6_bitCount_0f7a4 7 = .ok (.iand, 1) := by decide +kernel
theorem dJ6_bitCount_0f7a4_8 : decode cJ6_bitCount_0f7a4 8 = .ok (.isub, 1) := by decide +kernel
theorem dJ6_bitCount_0f7a4_9 : decode cJ6_bitCount_0f7a4 9 = .ok (.istore_n 0, 1) := by decide +kernel
theorem dJ6_bitCount_0f7a4_10 : decode cJ6_bitCount_0f7a4 10 = .ok (.iload_n 0, 1) := by decide +kernel
theorem dJ6_bitCount_0f7a4_11 : decode cJ6_bitCount_0f7a4 11 = .ok (.ldc_w 266, 3) := by decide +kernel
theorem dJ6_bitCount_0f7a4_14 : decode cJ6_bitCount_0f7a4 14 = .ok (.iand, 1) := by decide +kernel
theorem dJ6_bitCount_0f7a4_15 : decode cJ6_bitCount_0f7a4 15 = .ok (.iload_n 0, 1) := by decide +kernel
theorem dJ6_bitCount_0f7a4_16 : decode cJ6_bitCount_0f7a4 16 = .ok (.iconst 2, 1) := by decide +kernel
theorem dJ6_bitCount_0f7a4_17 : decode cJ6_bitCount_0f7a4 17 = .ok (.iushr, 1) := by decide +kernel
theorem dJ6_bitCount_0f7a4_18 : decode cJ6_bitCount_0f7a4 18 = .ok (.ldc_w 266, 3) := by decide +kernel
theorem dJ6_bitCount_0f7a4_21 : decode cJ6_bitCount_0f7a4 21 = .ok (.iand, 1) := by decide +kernel
theorem dJ6_bitCount_0f7a4_22 : decode cJ6_bitCount_0f7a4 22 = .ok (.iadd, 1) := by decide +kernel
theorem dJ6_bitCount_0f7a4_23 : decode cJ6_bitCount_0f7a4 23 = .ok (.istore_n 0, 1) := by decide +kernel
theorem dJ6_bitCount_0f7a4_24 : decode cJ6_bitCount_0f7a4 24 = .ok (.iload_n 0, 1) := by decide +kernel
theorem dJ6_bitCount_0f7a4_25 : decode cJ6_bitCount_0f7a4 25 = .ok (.iload_n 0, 1) := by decide +kernel
theorem dJ6_bitCount_0f7a4_26 : decode cJ6_bitCount_0f7a4 26 = .ok (.iconst 4, 1) := by decide +kernel
theorem dJ6_bitCount_0f7a4_27 : decode cJ6_bitCount_0f7a4 27 = .ok (.iushr, 1) := by decide +kernel
theorem dJ6_bitCount_0f7a4_28 : decode cJ6_bitCount_0f7a4 28 = .ok (.iadd, 1) := by decide +kernel
theorem dJ6_bitCount_0f7a4_29 : decode cJ6_bitCount_0f7a4 29 = .ok (.ldc_w 267, 3) := by decide +kernel
theorem dJ6_bitCount_0f7a4_32 : decode cJ6_bitCount_0f7a4 32 = .ok (.iand, 1) := by decide +kernel
theorem dJ6_bitCount_0f7a4_33 : decode cJ6_bitCount_0f7a4 33 = .ok (.istore_n 0, 1) := by decide +kernel
theorem dJ6_bitCount_0f7a4_34 : decode cJ6_bitCount_0f7a4 34 = .ok (.iload_n 0, 1) := by decide +kernel
theorem dJ6_bitCount_0f7a4_35 : decode cJ6_bitCount_0f7a4 35 = .ok (.iload_n 0, 1) := by decide +kernel
theorem dJ6_bitCount_0f7a4_36 : decode cJ6_bitCount_0f7a4 36 = .ok (.bipush 8, 2) := by decide +kernel
theorem dJ6_bitCount_0f7a4_38 : decode cJ6_bitCount_0f7a4 38 = .ok (.iushr, 1) := by decide +kernel
theorem dJ6_bitCount_0f7a4_39 : decode cJ6_bitCount_0f7a4 39 = .ok (.iadd, 1) := by decide +kernel
theorem dJ6_bitCount_0f7a4_40 : decode cJ6_bitCount_0f7a4 40 = .ok (.istore_n 0, 1) := by decide +kernel
theorem dJ6_bitCount_0f7a4_41 : decode cJ6_bitCount_0f7a4 41 = .ok (.iload_n 0, 1) := by decide +kernel
theorem dJ6_bitCount_0f7a4_42 : decode cJ6_bitCount_0f7a4 42 = .ok (.iload_n 0, 1) := by decide +kernel
theorem dJ6_bitCount_0f7a4_43 : decode cJ6_bitCount_0f7a4 43 = .ok (.bipush 16, 2) := by decide +kernel
theorem dJ6_bitCount_0f7a4_45 : decode cJ6_bitCount_0f7a4 45 = .ok (.iushr, 1) := by decide +kernel
theorem dJ6_bitCount_0f7a4_46 : decode cJ6_bitCount_0f7a4 46 = .ok (.iadd, 1) := by decide +kernel
theorem dJ6_bitCount_0f7a4_47 : decode cJ6_bitCount_0f7a4 47 = .ok (.istore_n 0, 1) := by decide +kernel
theorem dJ6_bitCount_0f7a4_48 : decode cJ6_bitCount_0f7a4 48 = .ok (.iload_n 0, 1) := by decide +kernel
theorem dJ6_bitCount_0f7a4_49 : decode cJ6_bitCount_0f7a4 49 = .ok (.bipush 63, 2) := by decide +kernel
theorem dJ6_bitCount_0f7a4_51 : decode cJ6_bitCount_0f7a4 51 = .ok (.iand, 1) := by decide +kernel
theorem dJ6_bitCount_0f7a4_52 : decode cJ6_bitCount_0f7a4 52 = .ok (.ireturn, 1) := by decide +kernel
theorem dJ9_max_7cf53_0 : decode cJ9_max_7cf53 0 = .ok (.iload_n 0, 1) := by decide +kernel
theorem dJ9_max_7cf53_1 : decode cJ9_max_7cf53 1 = .ok (.iload_n 1, 1) := by decide +kernel
theorem dJ9_max_7cf53_2 : decode cJ9_max_7cf53 2 = .ok (.if_icmp .lt 7, 3) := by decide +kernel
theorem dJ9_max_7cf53_5 : decode cJ9_max_7cf53 5 = .ok (.iload_n 0, 1) := by decide +kernel
theorem dJ9_max_7cf53_6 : decode cJ9_max_7cf53 6 = .ok (.goto 4, 3) := by decide +kernel
theorem dJ9_max_7cf53_9 : decode cJ9_max_7cf53 9 = .ok (.iload_n 1, 1) := by decide +kernel
theorem dJ9_max_7cf53_10 : decode cJ9_max_7cf53 10 = .ok (.ireturn, 1) := by decide +kernel
theorem dJ9_min_7cf53_0 : decode cJ9_min_7cf53 0 = .ok (.iload_n 0, 1) := by decide +kernel
theorem dJ9_min_7cf53_1 : decode cJ9_min_7cf53 1 = .ok (.iload_n 1, 1) := by decide +kernel
theorem dJ9_min_7cf53_2 : decode cJ9_min_7cf53 2 = .ok (.if_icmp .gt 7, 3) := by decide +kernel
theorem dJ9_min_7cf53_5 : decode cJ9_min_7cf53 5 = .ok (.iload_n 0, 1) := by decide +kernel
theorem dJ9_min_7cf53_6 : decode cJ9_min_7cf53 6 = .ok (.goto 4, 3) := by decide +kernel
theorem dJ9_min_7cf53_9 : decode cJ9_min_7cf53 9 = .ok (.iload_n 1, 1) := by decide +kernel
theorem dJ9_min_7cf53_10 : decode cJ9_min_7cf53 10 = .ok (.ireturn, 1) := by decide +kernel
end
section
theorem dX7_init_0 : decode cX7_init 0 = .ok (.aload_n 0, 1) := by decide +kernel
theorem dX7_init_1 : decode cX7_init 1 = .ok (.invokespecial 1, 3) := by decide +kernel
theorem dX7_init_4 : decode cX7_init 4 = .ok (.aload_n 0, 1) := by decide +kernel
theorem dX7_init_5 : decode cX7_init 5 = .ok (.sipush 165, 3) := by decide +kernel
theorem dX7_init_8 : decode cX7_init 8 = .ok (.newarray .int, 2) := by decide +kernel
theorem dX7_init_10 : decode cX7_init 10 = .ok (.putfield 7, 3) := by decide +kernel
theorem dX7_init_13 : decode cX7_init 13 = .ok (.aload_n 0, 1) := by decide +kernel
theorem dX7_init_14 : decode cX7_init 14 = .ok (.sipush 1320, 3) := by decide +kernel
theorem dX7_init_17 : decode cX7_init 17 = .ok (.newarray .int, 2) := by decide +kernel
theorem dX7_init_19 : decode cX7_init 19 = .ok (.putfield 13, 3) := by decide +kernel
theorem dX7_init_22 : decode cX7_init 22 = .ok (.aload_n 0, 1) := by decide +kernel
theorem dX7_init_23 : decode cX7_init 23 = .ok (.sipush 330, 3) := by decide +kernel
theorem dX7_init_26 : decode cX7_init 26 = .ok (.newarray .int, 2) := by decide +kernel
theorem dX7_init_28 : decode cX7_init 28 = .ok (.putfield 16, 3) := by decide +kernel
theorem dX7_init_31 : decode cX7_init 31 = .ok (.aload_n 0, 1) := by decide +kernel
theorem dX7_init_32 : decode cX7_init 32 = .ok (.bipush 12, 2) := by decide +kernel
theorem dX7_init_34 : decode cX7_init 34 = .ok (.newarray .int, 2) := by decide +kernel
theorem dX7_init_36 : decode cX7_init 36 = .ok (.putfield 19, 3) := by decide +kernel
theorem dX7_init_39 : decode cX7_init 39 = .ok (.aload_n 0, 1) := by decide +kernel
theorem dX7_init_40 : decode cX7_init 40 = .ok (.bipush 12, 2) := by decide +kernel
theorem dX7_init_42 : decode cX7_init 42 = .ok (.newarray .int, 2) := by decide +kernel
theorem dX7_init_44 : decode cX7_init 44 = .ok (.putfield 22, 3) := by decide +kernel
theorem dX7_init_47 : decode cX7_init 47 = .ok (.aload_n 0, 1) := by decide +kernel
theorem dX7_init_48 : decode cX7_init 48 = .ok (.iconst 4, 1) := by decide +kernel
theorem dX7_init_49 : decode cX7_init 49 = .ok (.newarray .int, 2) := by decide +kernel
theorem dX7_init_51 : decode cX7_init 51 = .ok (.putfield 25, 3) := by decide +kernel
theorem dX7_init_54 : decode cX7_init 54 = .ok (.aload_n 0, 1) := by decide +kernel
theorem dX7_init_55 : decode cX7_init 55 = .ok (.iconst 4, 1) := by decide +kernel
theorem dX7_init_56 : decode cX7_init 56 = .ok (.newarray .int, 2) := by decide +kernel
theorem dX7_init_58 : decode cX7_init 58 = .ok (.putfield 28, 3) := by decide +kernel
theorem dX7_init_61 : decode cX7_init 61 = .ok (.aload_n 0, 1) := by decide +kernel
theorem dX7_init_62 : decode cX7_init 62 = .ok (.sipush 165, 3) := by decide +kernel
theorem dX7_init_65 : decode cX7_init 65 = .ok (.newarray .int, 2) := by decide +kernel
theorem dX7_init_67 : decode cX7_init 67 = .ok (.putfield 31, 3) := by decide +kernel
theorem dX7_init_70 : decode cX7_init 70 = .ok (.aload_n 0, 1) := by decide +kernel
theorem dX7_init_71 : decode cX7_init 71 = .ok (.getfield 7, 3) := by decide +kernel
theorem dX7_init_74 : decode cX7_init 74 = .ok (.iconst 3, 1) := by decide +kernel
theorem dX7_init_75 : decode cX7_init 75 = .ok (.iconst 2, 1) := by decide +kernel
theorem dX7_init_76 : decode cX7_init 76 = .ok (.iastore, 1) := by decide +kernel
theorem dX7_init_77 : decode cX7_init 77 = .ok (.aload_n 0, 1) := by decide +kernel
theorem dX7_init_78 : decode cX7_init 78 = .ok (.getfield 7, 3) := by decide +kernel
theorem dX7_init_81 : decode cX7_init 81 = .ok (.bipush 6, 2) := by decide +kernel
theorem dX7_init_83 : decode cX7_init 83 = .ok (.iconst 1, 1) := by decide +kernel
theorem dX7_init_84 : decode cX7_init 84 = .ok (.iastore, 1) := by decide +kernel
theorem dX7_init_85 : decode cX7_init 85 = .ok (.aload_n 0, 1) := by decide +kernel
theorem dX7_init_86 : decode cX7_init 86 = .ok (.getfield 7, 3) := by decide +kernel
theorem dX7_init_89 : decode cX7_init 89 = .ok (.bipush 11, 2) := by decide +kernel
theorem dX7_init_91 : decode cX7_init 91 = .ok (.iconst 1, 1) := by decide +kernel
theorem dX7_init_92 : decode cX7_init 92 = .ok (.iastore, 1) := by decide +kernel
theorem dX7_init_93 : decode cX7_init 93 = .ok (.aload_n 0, 1) := by decide +kernel
theorem dX7_init_94 : decode cX7_init 94 = .ok (.getfield 7, 3) := by decide +kernel
theorem dX7_init_97 : decode cX7_init 97 = .ok (.bipush 12, 2) := by decide +kernel
theorem dX7_init_99 : decode cX7_init 99 = .ok (.iconst 5, 1) := by decide +kernel
theorem dX7_init_100 : decode cX7_init 100 = .ok (.iastore, 1) := by decide +kernel
theorem dX7_init_101 : decode cX7_init 101 = .ok (.aload_n 0, 1) := by decide +kernel
theorem dX7_init_102 : decode cX7_init 102 = .ok (.getfield 7, 3) := by decide +kernel
theorem dX7_init_105 : decode cX7_init 105 = .ok (.bipush 13, 2) := by decide +kernel
theorem dX7_init_107 : decode cX7_init 107 = .ok (.iconst 2, 1) := by decide +kernel
theorem dX7_init_108 : decode cX7_init 108 = .ok (.iastore, 1) := by decide +kernel
theorem dX7_init_109 : decode cX7_init 109 = .ok (.aload_n 0, 1) := by decide +kernel
theorem dX7_init_110 : decode cX7_init 110 = .ok (.getfield 7, 3) := by decide +kernel
theorem dX7_init_113 : decode cX7_init 113 = .ok (.bipush 14, 2) := by decide +kernel
theorem dX7_init_115 : decode cX7_init 115 = .ok (.iconst 1, 1) := by decide +kernel
theorem dX7_init_116 : decode cX7_init 116 = .ok (.iastore, 1) := by decide +kernel
theorem dX7_init_117 : decode cX7_init 117 = .ok (.aload_n 0, 1) := by decide +kernel
theorem dX7_init_118 : decode cX7_init 118 = .ok (.iconst 4, 1) := by decide +kernel
theorem dX7_init_119 : decode cX7_init 119 = .ok (.iconst 1, 1) := by decide +kernel
theorem dX7_init_120 : decode cX7_init 120 = .ok (.invokevirtual 34, 3) := by decide +kernel
theorem dX7_init_123 : decode cX7_init 123 = .ok (.return_, 1) := by decide +kernel
theorem dX7_isIn_0 : decode cX7_isIn 0 = .ok (.iload_n 0, 1) := by decide +kernel
theorem dX7_isIn_1 : decode cX7_isIn 1 = .ok (.iload_n 1, 1) := by decide +kernel
theorem dX7_isIn_2 : decode cX7_isIn 2 = .ok (.if_icmp .lt 12, 3) := by decide +kernel
theorem dX7_isIn_5 : decode cX7_isIn 5 = .ok (.iload_n 0, 1) := by decide +kernel
theorem dX7_isIn_6 : decode cX7_isIn 6 = .ok (.iload_n 2, 1) := by decide +kernel
theorem dX7_isIn_7 : decode cX7_isIn 7 = .ok (.if_icmp .gt 7, 3) := by decide +kernel
theorem dX7_isIn_10 : decode cX7_isIn 10 = .ok (.iconst 1, 1) := by decide +kernel
theorem dX7_isIn_11 : decode cX7_isIn 11 = .ok (.goto 4, 3) := by decide +kernel
theorem dX7_isIn_14 : decode cX7_isIn 14 = .ok (.iconst 0, 1) := by decide +kernel
theorem dX7_isIn_15 : decode cX7_isIn 15 = .ok (.ireturn, 1) := by decide +kernel
theorem dX7_lay_0 : decode cX7_lay 0 = .ok (.iconst 0, 1) := by decide +kernel
theorem dX7_lay_1 : decode cX7_lay 1 = .ok (.istore_n 3, 1) := by decide +kernel
theorem dX7_lay_2 : decode cX7_lay 2 = .ok (.iload_n 3, 1) := by decide +kernel
theorem dX7_lay_3 : decode cX7_lay 3 = .ok (.iconst 4, 1) := by decide +kernel
theorem dX7_lay_4 : decode cX7_lay 4 = .ok (.if_icmp .ge 46, 3) := by decide +kernel
theorem dX7_lay_7 : decode cX7_lay 7 = .ok (.aload_n 0, 1) := by decide +kernel
theorem dX7_lay_8 : decode cX7_lay 8 = .ok (.getfield 7, 3) := by decide +kernel
theorem dX7_lay_11 : decode cX7_lay 11 = .ok (.bipush 7, 2) := by decide +kernel
theorem dX7_lay_13 : decode cX7_lay 13 = .ok (.iload_n 3, 1) := by decide +kernel
theorem dX7_lay_14 : decode cX7_lay 14 = .ok (.iadd, 1) := by decide +kernel
theorem dX7_lay_15 : decode cX7_lay 15 = .ok (.iload_n 3, 1) := by decide +kernel
theorem dX7_lay_16 : decode cX7_lay 16 = .ok (.aload_n 0, 1) := by decide +kernel
theorem dX7_lay_17 : decode cX7_lay 17 = .ok (.getfield 7, 3) := by decide +kernel
theorem dX7_lay_20 : decode cX7_lay 20 = .ok (.iconst 1, 1) := by decide +kernel
theorem dX7_lay_21 : decode cX7_lay 21 = .ok (.iaload, 1) := by decide +kernel
theorem dX7_lay_22 : decode cX7_lay 22 = .ok (.if_icmp .gt 20, 3) := by decide +kernel
theorem dX7_lay_25 : decode cX7_lay 25 = .ok (.iload_n 3, 1) := by decide +kernel
theorem dX7_lay_26 : decode cX7_lay 26 = .ok (.iload_n 2, 1) := by decide +kernel
theorem dX7_lay_27 : decode cX7_lay 27 = .ok (.if_icmp .gt 15, 3) := by decide +kernel
theorem dX7_lay_30 : decode cX7_lay 30 = .ok (.aload_n 0, 1) := by decide +kernel
theorem dX7_lay_31 : decode cX7_lay 31 = .ok (.getfield 7, 3) := by decide +kernel
theorem dX7_lay_34 : decode cX7_lay 34 = .ok (.bipush 7, 2) := by decide +kernel
theorem dX7_lay_36 : decode cX7_lay 36 = .ok (.iload_n 3, 1) := by decide +kernel
theorem dX7_lay_37 : decode cX7_lay 37 = .ok (.iadd, 1) := by decide +kernel
theorem dX7_lay_38 : decode cX7_lay 38 = .ok (.iaload, 1) := by decide +kernel
theorem dX7_lay_39 : decode cX7_lay 39 = .ok (.goto 4, 3) := by decide +kernel
theorem dX7_lay_42 : decode cX7_lay 42 = .ok (.iconst 0, 1) := by decide +kernel
theorem dX7_lay_43 : decode cX7_lay 43 = .ok (.iastore, 1) := by decide +kernel
theorem dX7_lay_44 : decode cX7_lay 44 = .ok (.iinc 3 1, 3) := by decide +kernel
theorem dX7_lay_47 : decode cX7_lay 47 = .ok (.goto (-45), 3) := by decide +kernel
theorem dX7_lay_50 : decode cX7_lay 50 = .ok (.aload_n 0, 1) := by decide +kernel
theorem dX7_lay_51 : decode cX7_lay 51 = .ok (.getfield 7, 3) := by decide +kernel
theorem dX7_lay_54 : decode cX7_lay 54 = .ok (.iconst 0, 1) := by decide +kernel
theorem dX7_lay_55 : decode cX7_lay 55 = .ok (.iload_n 1, 1) := by decide +kernel
theorem dX7_lay_56 : decode cX7_lay 56 = .ok (.iastore, 1) := by decide +kernel
theorem dX7_lay_57 : decode cX7_lay 57 = .ok (.aload_n 0, 1) := by decide +kernel
theorem dX7_lay_58 : decode cX7_lay 58 = .ok (.getfield 7, 3) := by decide +kernel
theorem dX7_lay_61 : decode cX7_lay 61 = .ok (.iconst 1, 1) := by decide +kernel
theorem dX7_lay_62 : decode cX7_lay 62 = .ok (.iload_n 2, 1) := by decide +kernel
theorem dX7_lay_63 : decode cX7_lay 63 = .ok (.iastore, 1) := by decide +kernel
theorem dX7_lay_64 : decode cX7_lay 64 = .ok (.aload_n 0, 1) := by decide +kernel
theorem dX7_lay_65 : decode cX7_lay 65 = .ok (.getfield 7, 3) := by decide +kernel
theorem dX7_lay_68 : decode cX7_lay 68 = .ok (.iconst 2, 1) := by decide +kernel
theorem dX7_lay_69 : decode cX7_lay 69 = .ok (.iconst 0, 1) := by decide +kernel
theorem dX7_lay_70 : decode cX7_lay 70 = .ok (.iastore, 1) := by decide +kernel
theorem dX7_lay_71 : decode cX7_lay 71 = .ok (.bipush 29, 2) := by decide +kernel
theorem dX7_lay_73 : decode cX7_lay 73 = .ok (.istore_n 3, 1) := by decide +kernel
theorem dX7_lay_74 : decode cX7_lay 74 = .ok (.iload_n 3, 1) := by decide +kernel
theorem dX7_lay_75 : decode cX7_lay 75 = .ok (.sipush 165, 3) := by decide +kernel
theorem dX7_lay_78 : decode cX7_lay 78 = .ok (.if_icmp .ge 16, 3) := by decide +kernel
theorem dX7_lay_81 : decode cX7_lay 81 = .ok (.aload_n 0, 1) := by decide +kernel
theorem dX7_lay_82 : decode cX7_lay 82 = .ok (.getfield 7, 3) := by decide +kernel
theorem dX7_lay_85 : decode cX7_lay 85 = .ok (.iload_n 3, 1) := by decide +kernel
theorem dX7_lay_86 : decode cX7_lay 86 = .ok (.iconst 0, 1) := by decide +kernel
theorem dX7_lay_87 : decode cX7_lay 87 = .ok (.iastore, 1) := by decide +kernel
theorem dX7_lay_88 : decode cX7_lay 88 = .ok (.iinc 3 1, 3) := by decide +kernel
theorem dX7_lay_91 : decode cX7_lay 91 = .ok (.goto (-17), 3) := by decide +kernel
theorem dX7_lay_94 : decode cX7_lay 94 = .ok (.iconst 0, 1) := by decide +kernel
theorem dX7_lay_95 : decode cX7_lay 95 = .ok (.istore_n 3, 1) := by decide +kernel
theorem dX7_lay_96 : decode cX7_lay 96 = .ok (.iload_n 3, 1) := by decide +kernel
theorem dX7_lay_97 : decode cX7_lay 97 = .ok (.bipush 12, 2) := by decide +kernel
theorem dX7_lay_99 : decode cX7_lay 99 = .ok (.if_icmp .ge 58, 3) := by decide +kernel
theorem dX7_lay_102 : decode cX7_lay 102 = .ok (.aload_n 0, 1) := by decide +kernel
theorem dX7_lay_103 : decode cX7_lay 103 = .ok (.getfield 7, 3) := by decide +kernel
theorem dX7_lay_106 : decode cX7_lay 106 = .ok (.bipush 17, 2) := by decide +kernel
theorem dX7_lay_108 : decode cX7_lay 108 = .ok (.iload_n 3, 1) := by decide +kernel
theorem dX7_lay_109 : decode cX7_lay 109 = .ok (.iadd, 1) := by decide +kernel
theorem dX7_lay_110 : decode cX7_lay 110 = .ok (.bipush 10, 2) := by decide +kernel
theorem dX7_lay_112 : decode cX7_lay 112 = .ok (.iload_n 3, 1) := by decide +kernel
theorem dX7_lay_113 : decode cX7_lay 113 = .ok (.imul, 1) := by decide +kernel
theorem dX7_lay_114 : decode cX7_lay 114 = .ok (.bipush 7, 2) := by decide +kernel
theorem dX7_lay_116 : decode cX7_lay 116 = .ok (.iadd, 1) := by decide +kernel
theorem dX7_lay_117 : decode cX7_lay 117 = .ok (.iastore, 1) := by decide +kernel
theorem dX7_lay_118 : decode cX7_lay 118 = .ok (.aload_n 0, 1) := by decide +kernel
theorem dX7_lay_119 : decode cX7_lay 119 = .ok (.getfield 7, 3) := by decide +kernel
theorem dX7_lay_122 : decode cX7_lay 122 = .ok (.bipush 86, 2) := by decide +kernel
theorem dX7_lay_124 : decode cX7_lay 124 = .ok (.iload_n 3, 1) := by decide +kernel
theorem dX7_lay_125 : decode cX7_lay 125 = .ok (.iadd, 1) := by decide +kernel
theorem dX7_lay_126 : decode cX7_lay 126 = .ok (.bipush (-9), 2) := by decide +kernel
theorem dX7_lay_128 : decode cX7_lay 128 = .ok (.iastore, 1) := by decide +kernel
theorem dX7_lay_129 : decode cX7_lay 129 = .ok (.aload_n 0, 1) := by decide +kernel
theorem dX7_lay_130 : decode cX7_lay 130 = .ok (.getfield 7, 3) := by decide +kernel
theorem dX7_lay_133 : decode cX7_lay 133 = .ok (.bipush 98, 2) := by decide +kernel
theorem dX7_lay_135 : decode cX7_lay 135 = .ok (.iload_n 3, 1) := by decide +kernel
theorem dX7_lay_136 : decode cX7_lay 136 = .ok (.iadd, 1) := by decide +kernel
theorem dX7_lay_137 : decode cX7_lay 137 = .ok (.bipush (-9), 2) := by decide +kernel
theorem dX7_lay_139 : decode cX7_lay 139 = .ok (.iastore, 1) := by decide +kernel
theorem dX7_lay_140 : decode cX7_lay 140 = .ok (.aload_n 0, 1) := by decide +kernel
theorem dX7_lay_141 : decode cX7_lay 141 = .ok (.getfield 7, 3) := by decide +kernel
theorem dX7_lay_144 : decode cX7_lay 144 = .ok (.bipush 110, 2) := by decide +kernel
theorem dX7_lay_146 : decode cX7_lay 146 = .ok (.iload_n 3, 1) := by decide +kernel
theorem dX7_lay_147 : decode cX7_lay 147 = .ok (.iadd, 1) := by decide +kernel
theorem dX7_lay_148 : decode cX7_lay 148 = .ok (.bipush (-9), 2) := by decide +kernel
theorem dX7_lay_150 : decode cX7_lay 150 = .ok (.iastore, 1) := by decide +kernel
theorem dX7_lay_151 : decode cX7_lay 151 = .ok (.iinc 3 1, 3) := by decide +kernel
theorem dX7_lay_154 : decode cX7_lay 154 = .ok (.goto (-58), 3) := by decide +kernel
theorem dX7_lay_157 : decode cX7_lay 157 = .ok (.return_, 1) := by decide +kernel
theorem dX7_remember_0 : decode cX7_remember 0 = .ok (.aload_n 0, 1) := by decide +kernel
theorem dX7_remember_1 : decode cX7_remember 1 = .ok (.getfield 38, 3) := by decide +kernel
theorem dX7_remember_4 : decode cX7_remember 4 = .ok (.bipush 8, 2) := by decide +kernel
theorem dX7_remember_6 : decode cX7_remember 6 = .ok (.if_icmp .ne 44, 3) := by decide +kernel
theorem dX7_remember_9 : decode cX7_remember 9 = .ok (.iconst 0, 1) := by decide +kernel
theorem dX7_remember_10 : decode cX7_remember 10 = .ok (.istore_n 1, 1) := by decide +kernel
theorem dX7_remember_11 : decode cX7_remember 11 = .ok (.iload_n 1, 1) := by decide +kernel
theorem dX7_remember_12 : decode cX7_remember 12 = .ok (.sipush 1155, 3) := by decide +kernel
theorem dX7_remember_15 : decode cX7_remember 15 = .ok (.if_icmp .ge 25, 3) := by decide +kernel
theorem dX7_remember_18 : decode cX7_remember 18 = .ok (.aload_n 0, 1) := by decide +kernel
theorem dX7_remember_19 : decode cX7_remember 19 = .ok (.getfield 13, 3) := by decide +kernel
theorem dX7_remember_22 : decode cX7_remember 22 = .ok (.iload_n 1, 1) := by decide +kernel
theorem dX7_remember_23 : decode cX7_remember 23 = .ok (.aload_n 0, 1) := by decide +kernel
theorem dX7_remember_24 : decode cX7_remember 24 = .ok (.getfield 13, 3) := by decide +kernel
theorem dX7_remember_27 : decode cX7_remember 27 = .ok (.iload_n 1, 1) := by decide +kernel
theorem dX7_remember_28 : decode cX7_remember 28 = .ok (.sipush 165, 3) := by decide +kernel
theorem dX7_remember_31 : decode cX7_remember 31 = .ok (.iadd, 1) := by decide +kernel
theorem dX7_remember_32 : decode cX7_remember 32 = .ok (.iaload, 1) := by decide +kernel
theorem dX7_remember_33 : decode cX7_remember 33 = .ok (.iastore, 1) := by decide +kernel
theorem dX7_remember_34 : decode cX7_remember 34 = .ok (.iinc 1 1, 3) := by decide +kernel
theorem dX7_remember_37 : decode cX7_remember 37 = .ok (.goto (-26), 3) := by decide +kernel
theorem dX7_remember_40 : decode cX7_remember 40 = .ok (.aload_n 0, 1) := by decide +kernel
theorem dX7_remember_41 : decode cX7_remember 41 = .ok (.dup, 1) := by decide +kernel
theorem dX7_remember_42 : decode cX7_remember 42 = .ok (.getfield 38, 3) := by decide +kernel
theorem dX7_remember_45 : decode cX7_remember 45 = .ok (.iconst 1, 1) := by decide +kernel
theorem dX7_remember_46 : decode cX7_remember 46 = .ok (.isub, 1) := by decide +kernel
theorem dX7_remember_47 : decode cX7_remember 47 = .ok (.putfield 38, 3) := by decide +kernel
theorem dX7_remember_50 : decode cX7_remember 50 = .ok (.iconst 0, 1) := by decide +kernel
theorem dX7_remember_51 : decode cX7_remember 51 = .ok (.istore_n 1, 1) := by decide +kernel
theorem dX7_remember_52 : decode cX7_remember 52 = .ok (.iload_n 1, 1) := by decide +kernel
theorem dX7_remember_53 : decode cX7_remember 53 = .ok (.sipush 165, 3) := by decide +kernel
theorem dX7_remember_56 : decode cX7_remember 56 = .ok (.if_icmp .ge 30, 3) := by decide +kernel
theorem dX7_remember_59 : decode cX7_remember 59 = .ok (.aload_n 0, 1) := by decide +kernel
theorem dX7_remember_60 : decode cX7_remember 60 = .ok (.getfield 13, 3) := by decide +kernel
theorem dX7_remember_63 : decode cX7_remember 63 = .ok (.sipush 165, 3) := by decide +kernel
theorem dX7_remember_66 : decode cX7_remember 66 = .ok (.aload_n 0, 1) := by decide +kernel
theorem dX7_remember_67 : decode cX7_remember 67 = .ok (.getfield 38, 3) := by decide +kernel
theorem dX7_remember_70 : decode cX7_remember 70 = .ok (.imul, 1) := by decide +kernel
theorem dX7_remember_71 : decode cX7_remember 71 = .ok (.iload_n 1, 1) := by decide +kernel
theorem dX7_remember_72 : decode cX7_remember 72 = .ok (.iadd, 1) := by decide +kernel
theorem dX7_remember_73 : decode cX7_remember 73 = .ok (.aload_n 0, 1) := by decide +kernel
theorem dX7_remember_74 : decode cX7_remember 74 = .ok (.getfield 7, 3) := by decide +kernel
theorem dX7_remember_77 : decode cX7_remember 77 = .ok (.iload_n 1, 1) := by decide +kernel
theorem dX7_remember_78 : decode cX7_remember 78 = .ok (.iaload, 1) := by decide +kernel
theorem dX7_remember_79 : decode cX7_remember 79 = .ok (.iastore, 1) := by decide +kernel
theorem dX7_remember_80 : decode cX7_remember 80 = .ok (.iinc 1 1, 3) := by decide +kernel
theorem dX7_remember_83 : decode cX7_remember 83 = .ok (.goto (-31), 3) := by decide +kernel
theorem dX7_remember_86 : decode cX7_remember 86 = .ok (.aload_n 0, 1) := by decide +kernel
theorem dX7_remember_87 : decode cX7_remember 87 = .ok (.dup, 1) := by decide +kernel
theorem dX7_remember_88 : decode cX7_remember 88 = .ok (.getfield 38, 3) := by decide +kernel
theorem dX7_remember_91 : decode cX7_remember 91 = .ok (.iconst 1, 1) := by decide +kernel
theorem dX7_remember_92 : decode cX7_remember 92 = .ok (.iadd, 1) := by decide +kernel
theorem dX7_remember_93 : decode cX7_remember 93 = .ok (.putfield 38, 3) := by decide +kernel
theorem dX7_remember_96 : decode cX7_remember 96 = .ok (.return_, 1) := by decide +kernel
theorem dX7_setAt_0 : decode cX7_setAt 0 = .ok (.iload_n 0, 1) := by decide +kernel
theorem dX7_setAt_1 : decode cX7_setAt 1 = .ok (.iconst 1, 1) := by decide +kernel
theorem dX7_setAt_2 : decode cX7_setAt 2 = .ok (.iadd, 1) := by decide +kernel
theorem dX7_setAt_3 : decode cX7_setAt 3 = .ok (.iconst 2, 1) := by decide +kernel
theorem dX7_setAt_4 : decode cX7_setAt 4 = .ok (.iload_n 1, 1) := by decide +kernel
theorem dX7_setAt_5 : decode cX7_setAt 5 = .ok (.imul, 1) := by decide +kernel
theorem dX7_setAt_6 : decode cX7_setAt 6 = .ok (.iadd, 1) := by decide +kernel
theorem dX7_setAt_7 : decode cX7_setAt 7 = .ok (.ireturn, 1) := by decide +kernel
theorem dX7_append_0 : decode cX7_append 0 = .ok (.aload_n 0, 1) := by decide +kernel
theorem dX7_append_1 : decode cX7_append 1 = .ok (.getfield 7, 3) := by decide +kernel
theorem dX7_append_4 : decode cX7_append 4 = .ok (.iload_n 1, 1) := by decide +kernel
theorem dX7_append_5 : decode cX7_append 5 = .ok (.aload_n 0, 1) := by decide +kernel
theorem dX7_append_6 : decode cX7_append 6 = .ok (.getfield 7, 3) := by decide +kernel
theorem dX7_append_9 : decode cX7_append 9 = .ok (.iload_n 1, 1) := by decide +kernel
theorem dX7_append_10 : decode cX7_append 10 = .ok (.iaload, 1) := by decide +kernel
theorem dX7_append_11 : decode cX7_append 11 = .ok (.invokestatic 42, 3) := by decide +kernel
theorem dX7_append_14 : decode cX7_append 14 = .ok (.iload_n 2, 1) := by decide +kernel
theorem dX7_append_15 : decode cX7_append 15 = .ok (.iastore, 1) := by decide +kernel
theorem dX7_append_16 : decode cX7_append 16 = .ok (.aload_n 0, 1) := by decide +kernel
theorem dX7_append_17 : decode cX7_append 17 = .ok (.getfield 7, 3) := by decide +kernel
theorem dX7_append_20 : decode cX7_append 20 = .ok (.iload_n 1, 1) := by decide +kernel
theorem dX7_append_21 : decode cX7_append 21 = .ok (.aload_n 0, 1) := by decide +kernel
theorem dX7_append_22 : decode cX7_append 22 = .ok (.getfield 7, 3) := by decide +kernel
theorem dX7_append_25 : decode cX7_append 25 = .ok (.iload_n 1, 1) := by decide +kernel
theorem dX7_append_26 : decode cX7_append 26 = .ok (.iaload, 1) := by decide +kernel
theorem dX7_append_27 : decode cX7_append 27 = .ok (.invokestatic 42, 3) := by decide +kernel
theorem dX7_append_30 : decode cX7_append 30 = .ok (.iconst 1, 1) := by decide +kernel
theorem dX7_append_31 : decode cX7_append 31 = .ok (.iadd, 1) := by decide +kernel
theorem dX7_append_32 : decode cX7_append 32 = .ok (.iload_n 3, 1) := by decide +kernel
theorem dX7_append_33 : decode cX7_append 33 = .ok (.iastore, 1) := by decide +kernel
theorem dX7_append_34 : decode cX7_append 34 = .ok (.aload_n 0, 1) := by decide +kernel
theorem dX7_append_35 : decode cX7_append 35 = .ok (.getfield 7, 3) := by decide +kernel
theorem dX7_append_38 : decode cX7_append 38 = .ok (.iload_n 1, 1) := by decide +kernel
theorem dX7_append_39 : decode cX7_append 39 = .ok (.dup2, 1) := by decide +kernel
theorem dX7_append_40 : decode cX7_append 40 = .ok (.iaload, 1) := by decide +kernel
theorem dX7_append_41 : decode cX7_append 41 = .ok (.iconst 1, 1) := by decide +kernel
theorem dX7_append_42 : decode cX7_append 42 = .ok (.iadd, 1) := by decide +kernel
theorem dX7_append_43 : decode cX7_append 43 = .ok (.iastore, 1) := by decide +kernel
theorem dX7_append_44 : decode cX7_append 44 = .ok (.return_, 1) := by decide +kernel
theorem dX7_drop_0 : decode cX7_drop 0 = .ok (.iload_n 1, 1) := by decide +kernel
theorem dX7_drop_1 : decode cX7_drop 1 = .ok (.iload_n 2, 1) := by decide +kernel
theorem dX7_drop_2 : decode cX7_drop 2 = .ok (.invokestatic 42, 3) := by decide +kernel
theorem dX7_drop_5 : decode cX7_drop 5 = .ok (.istore_n 3, 1) := by decide +kernel
theorem dX7_drop_6 : decode cX7_drop 6 = .ok (.iload_n 3, 1) := by decide +kernel
theorem dX7_drop_7 : decode cX7_drop 7 = .ok (.iload_n 1, 1) := by decide +kernel
theorem dX7_drop_8 : decode cX7_drop 8 = .ok (.aload_n 0, 1) := by decide +kernel
theorem dX7_drop_9 : decode cX7_drop 9 = .ok (.getfield 7, 3) := by decide +kernel
theorem dX7_drop_12 : decode cX7_drop 12 = .ok (.iload_n 1, 1) := by decide +kernel
theorem dX7_drop_13 : decode cX7_drop 13 = .ok (.iaload, 1) := by decide +kernel
theorem dX7_drop_14 : decode cX7_drop 14 = .ok (.iconst 1, 1) := by decide +kernel
theorem dX7_drop_15 : decode cX7_drop 15 = .ok (.isub, 1) := by decide +kernel
theorem dX7_drop_16 : decode cX7_drop 16 = .ok (.invokestatic 42, 3) := by decide +kernel
theorem dX7_drop_19 : decode cX7_drop 19 = .ok (.if_icmp .ge 23, 3) := by decide +kernel
theorem dX7_drop_22 : decode cX7_drop 22 = .ok (.aload_n 0, 1) := by decide +kernel
theorem dX7_drop_23 : decode cX7_drop 23 = .ok (.getfield 7, 3) := by decide +kernel
theorem dX7_drop_26 : decode cX7_drop 26 = .ok (.iload_n 3, 1) := by decide +kernel
theorem dX7_drop_27 : decode cX7_drop 27 = .ok (.aload_n 0, 1) := by decide +kernel
theorem dX7_drop_28 : decode cX7_drop 28 = .ok (.getfield 7, 3) := by decide +kernel
theorem dX7_drop_31 : decode cX7_drop 31 = .ok (.iload_n 3, 1) := by decide +kernel
theorem dX7_drop_32 : decode cX7_drop 32 = .ok (.iconst 2, 1) := by decide +kernel
theorem dX7_drop_33 : decode cX7_drop 33 = .ok (.iadd, 1) := by decide +kernel
theorem dX7_drop_34 : decode cX7_drop 34 = .ok (.iaload, 1) := by decide +kernel
theorem dX7_drop_35 : decode cX7_drop 35 = .ok (.iastore, 1) := by decide +kernel
theorem dX7_drop_36 : decode cX7_drop 36 = .ok (.iinc 3 1, 3) := by decide +kernel
theorem dX7_drop_39 : decode cX7_drop 39 = .ok (.goto (-33), 3) := by decide +kernel
theorem dX7_drop_42 : decode cX7_drop 42 = .ok (.aload_n 0, 1) := by decide +kernel
theorem dX7_drop_43 : decode cX7_drop 43 = .ok (.getfield 7, 3) := by decide +kernel
theorem dX7_drop_46 : decode cX7_drop 46 = .ok (.iload_n 1, 1) := by decide +kernel
theorem dX7_drop_47 : decode cX7_drop 47 = .ok (.dup2, 1) := by decide +kernel
theorem dX7_drop_48 : decode cX7_drop 48 = .ok (.iaload, 1) := by decide +kernel
theorem dX7_drop_49 : decode cX7_drop 49 = .ok (.iconst 1, 1) := by decide +kernel
theorem dX7_drop_50 : decode cX7_drop 50 = .ok (.isub, 1) := by decide +kernel
theorem dX7_drop_51 : decode cX7_drop 51 = .ok (.iastore, 1) := by decide +kernel
theorem dX7_drop_52 : decode cX7_drop 52 = .ok (.return_, 1) := by decide +kernel
theorem dX7_size_0 : decode cX7_size 0 = .ok (.iconst 0, 1) := by decide +kernel
theorem dX7_size_1 : decode cX7_size 1 = .ok (.istore_n 1, 1) := by decide +kernel
theorem dX7_size_2 : decode cX7_size 2 = .ok (.iconst 0, 1) := by decide +kernel
theorem dX7_size_3 : decode cX7_size 3 = .ok (.istore_n 2, 1) := by decide +kernel
theorem dX7_size_4 : decode cX7_size 4 = .ok (.iload_n 2, 1) := by decide +kernel
theorem dX7_size_5 : decode cX7_size 5 = .ok (.bipush 12, 2) := by decide +kernel
theorem dX7_size_7 : decode cX7_size 7 = .ok (.if_icmp .ge 17, 3) := by decide +kernel
theorem dX7_size_10 : decode cX7_size 10 = .ok (.iload_n 1, 1) := by decide +kernel
theorem dX7_size_11 : decode cX7_size 11 = .ok (.iload_n 0, 1) := by decide +kernel
theorem dX7_size_12 : decode cX7_size 12 = .ok (.iload_n 2, 1) := by decide +kernel
theorem dX7_size_13 : decode cX7_size 13 = .ok (.ishr, 1) := by decide +kernel
theorem dX7_size_14 : decode cX7_size 14 = .ok (.iconst 1, 1) := by decide +kernel
theorem dX7_size_15 : decode cX7_size 15 = .ok (.iand, 1) := by decide +kernel
theorem dX7_size_16 : decode cX7_size 16 = .ok (.iadd, 1) := by decide +kernel
theorem dX7_size_17 : decode cX7_size 17 = .ok (.istore_n 1, 1) := by decide +kernel
theorem dX7_size_18 : decode cX7_size 18 = .ok (.iinc 2 1, 3) := by decide +kernel
theorem dX7_size_21 : decode cX7_size 21 = .ok (.goto (-17), 3) := by decide +kernel
theorem dX7_size_24 : decode cX7_size 24 = .ok (.iload_n 1, 1) := by decide +kernel
theorem dX7_size_25 : decode cX7_size 25 = .ok (.ireturn, 1) := by decide +kernel
theorem dX7_lowest_0 : decode cX7_lowest 0 = .ok (.iconst 0, 1) := by decide +kernel
theorem dX7_lowest_1 : decode cX7_lowest 1 = .ok (.istore_n 1, 1) := by decide +kernel
theorem dX7_lowest_2 : decode cX7_lowest 2 = .ok (.iload_n 0, 1) := by decide +kernel
theorem dX7_lowest_3 : decode cX7_lowest 3 = .ok (.iload_n 1, 1) := by decide +kernel
theorem dX7_lowest_4 : decode cX7_lowest 4 = .ok (.ishr, 1) := by decide +kernel
theorem dX7_lowest_5 : decode cX7_lowest 5 = .ok (.iconst 1, 1) := by decide +kernel
theorem dX7_lowest_6 : decode cX7_lowest 6 = .ok (.iand, 1) := by decide +kernel
theorem dX7_lowest_7 : decode cX7_lowest 7 = .ok (.ifCond .ne 9, 3) := by decide +kernel
theorem dX7_lowest_10 : decode cX7_lowest 10 = .ok (.iinc 1 1, 3) := by decide +kernel
theorem dX7_lowest_13 : decode cX7_lowest 13 = .ok (.goto (-11), 3) := by decide +kernel
theorem dX7_lowest_16 : decode cX7_lowest 16 = .ok (.iload_n 1, 1) := by decide +kernel
theorem dX7_lowest_17 : decode cX7_lowest 17 = .ok (.ireturn, 1) := by decide +kernel
theorem dX7_valueOf_0 : decode cX7_valueOf 0 = .ok (.iconst 0, 1) := by decide +kernel
theorem dX7_valueOf_1 : decode cX7_valueOf 1 = .ok (.istore_n 2, 1) := by decide +kernel
theorem dX7_valueOf_2 : decode cX7_valueOf 2 = .ok (.iconst 0, 1) := by decide +kernel
theorem dX7_valueOf_3 : decode cX7_valueOf 3 = .ok (.istore_n 3, 1) := by decide +kernel
theorem dX7_valueOf_4 : decode cX7_valueOf 4 = .ok (.iload_n 3, 1) := by decide +kernel
theorem dX7_valueOf_5 : decode cX7_valueOf 5 = .ok (.aload_n 0, 1) := by decide +kernel
theorem dX7_valueOf_6 : decode cX7_valueOf 6 = .ok (.getfield 7, 3) := by decide +kernel
theorem dX7_valueOf_9 : decode cX7_valueOf 9 = .ok (.iconst 0, 1) := by decide +kernel
theorem dX7_valueOf_10 : decode cX7_valueOf 10 = .ok (.iaload, 1) := by decide +kernel
theorem dX7_valueOf_11 : decode cX7_valueOf 11 = .ok (.if_icmp .ge 34, 3) := by decide +kernel
theorem dX7_valueOf_14 : decode cX7_valueOf 14 = .ok (.iload_n 2, 1) := by decide +kernel
theorem dX7_valueOf_15 : decode cX7_valueOf 15 = .ok (.iload_n 1, 1) := by decide +kernel
theorem dX7_valueOf_16 : decode cX7_valueOf 16 = .ok (.iload_n 3, 1) := by decide +kernel
theorem dX7_valueOf_17 : decode cX7_valueOf 17 = .ok (.ishr, 1) := by decide +kernel
theorem dX7_valueOf_18 : decode cX7_valueOf 18 = .ok (.iconst 1, 1) := by decide +kernel
theorem dX7_valueOf_19 : decode cX7_valueOf 19 = .ok (.iand, 1) := by decide +kernel
theorem dX7_valueOf_20 : decode cX7_valueOf 20 = .ok (.iconst 1, 1) := by decide +kernel
theorem dX7_valueOf_21 : decode cX7_valueOf 21 = .ok (.if_icmp .ne 15, 3) := by decide +kernel
theorem dX7_valueOf_24 : decode cX7_valueOf 24 = .ok (.aload_n 0, 1) := by decide +kernel
theorem dX7_valueOf_25 : decode cX7_valueOf 25 = .ok (.getfield 7, 3) := by decide +kernel
theorem dX7_valueOf_28 : decode cX7_valueOf 28 = .ok (.bipush 17, 2) := by decide +kernel
theorem dX7_valueOf_30 : decode cX7_valueOf 30 = .ok (.iload_n 3, 1) := by decide +kernel
theorem dX7_valueOf_31 : decode cX7_valueOf 31 = .ok (.iadd, 1) := by decide +kernel
theorem dX7_valueOf_32 : decode cX7_valueOf 32 = .ok (.iaload, 1) := by decide +kernel
theorem dX7_valueOf_33 : decode cX7_valueOf 33 = .ok (.goto 4, 3) := by decide +kernel
theorem dX7_valueOf_36 : decode cX7_valueOf 36 = .ok (.iconst 0, 1) := by decide +kernel
theorem dX7_valueOf_37 : decode cX7_valueOf 37 = .ok (.ixor, 1) := by decide +kernel
theorem dX7_valueOf_38 : decode cX7_valueOf 38 = .ok (.istore_n 2, 1) := by decide +kernel
theorem dX7_valueOf_39 : decode cX7_valueOf 39 = .ok (.iinc 3 1, 3) := by decide +kernel
theorem dX7_valueOf_42 : decode cX7_valueOf 42 = .ok (.goto (-38), 3) := by decide +kernel
theorem dX7_valueOf_45 : decode cX7_valueOf 45 = .ok (.iload_n 2, 1) := by decide +kernel
theorem dX7_valueOf_46 : decode cX7_valueOf 46 = .ok (.ireturn, 1) := by decide +kernel
theorem dX7_reduce_0 : decode cX7_reduce 0 = .ok (.aload_n 0, 1) := by decide +kernel
theorem dX7_reduce_1 : decode cX7_reduce 1 = .ok (.iload_n 1, 1) := by decide +kernel
theorem dX7_reduce_2 : decode cX7_reduce 2 = .ok (.putfield 46, 3) := by decide +kernel
theorem dX7_reduce_5 : decode cX7_reduce 5 = .ok (.aload_n 0, 1) := by decide +kernel
theorem dX7_reduce_6 : decode cX7_reduce 6 = .ok (.iload_n 2, 1) := by decide +kernel
theorem dX7_reduce_7 : decode cX7_reduce 7 = .ok (.putfield 49, 3) := by decide +kernel
theorem dX7_reduce_10 : decode cX7_reduce 10 = .ok (.bipush 11, 2) := by decide +kernel
theorem dX7_reduce_12 : decode cX7_reduce 12 = .ok (.istore_n 3, 1) := by decide +kernel
theorem dX7_reduce_13 : decode cX7_reduce 13 = .ok (.iload_n 3, 1) := by decide +kernel
theorem dX7_reduce_14 : decode cX7_reduce 14 = .ok (.ifCond .lt 60, 3) := by decide +kernel
theorem dX7_reduce_17 : decode cX7_reduce 17 = .ok (.aload_n 0, 1) := by decide +kernel
theorem dX7_reduce_18 : decode cX7_reduce 18 = .ok (.getfield 46, 3) := by decide +kernel
theorem dX7_reduce_21 : decode cX7_reduce 21 = .ok (.iload_n 3, 1) := by decide +kernel
theorem dX7_reduce_22 : decode cX7_reduce 22 = .ok (.ishr, 1) := by decide +kernel
theorem dX7_reduce_23 : decode cX7_reduce 23 = .ok (.iconst 1, 1) := by decide +kernel
theorem dX7_reduce_24 : decode cX7_reduce 24 = .ok (.iand, 1) := by decide +kernel
theorem dX7_reduce_25 : decode cX7_reduce 25 = .ok (.iconst 1, 1) := by decide +kernel
theorem dX7_reduce_26 : decode cX7_reduce 26 = .ok (.if_icmp .ne 42, 3) := by decide +kernel
theorem dX7_reduce_29 : decode cX7_reduce 29 = .ok (.aload_n 0, 1) := by decide +kernel
theorem dX7_reduce_30 : decode cX7_reduce 30 = .ok (.getfield 19, 3) := by decide +kernel
theorem dX7_reduce_33 : decode cX7_reduce 33 = .ok (.iload_n 3, 1) := by decide +kernel
theorem dX7_reduce_34 : decode cX7_reduce 34 = .ok (.iaload, 1) := by decide +kernel
theorem dX7_reduce_35 : decode cX7_reduce 35 = .ok (.ifCond .eq 33, 3) := by decide +kernel
theorem dX7_reduce_38 : decode cX7_reduce 38 = .ok (.aload_n 0, 1) := by decide +kernel
theorem dX7_reduce_39 : decode cX7_reduce 39 = .ok (.dup, 1) := by decide +kernel
theorem dX7_reduce_40 : decode cX7_reduce 40 = .ok (.getfield 46, 3) := by decide +kernel
theorem dX7_reduce_43 : decode cX7_reduce 43 = .ok (.aload_n 0, 1) := by decide +kernel
theorem dX7_reduce_44 : decode cX7_reduce 44 = .ok (.getfield 19, 3) := by decide +kernel
theorem dX7_reduce_47 : decode cX7_reduce 47 = .ok (.iload_n 3, 1) := by decide +kernel
theorem dX7_reduce_48 : decode cX7_reduce 48 = .ok (.iaload, 1) := by decide +kernel
theorem dX7_reduce_49 : decode cX7_reduce 49 = .ok (.ixor, 1) := by decide +kernel
theorem dX7_reduce_50 : decode cX7_reduce 50 = .ok (.putfield 46, 3) := by decide +kernel
theorem dX7_reduce_53 : decode cX7_reduce 53 = .ok (.aload_n 0, 1) := by decide +kernel
theorem dX7_reduce_54 : decode cX7_reduce 54 = .ok (.dup, 1) := by decide +kernel
theorem dX7_reduce_55 : decode cX7_reduce 55 = .ok (.getfield 49, 3) := by decide +kernel
theorem dX7_reduce_58 : decode cX7_reduce 58 = .ok (.aload_n 0, 1) := by decide +kernel
theorem dX7_reduce_59 : decode cX7_reduce 59 = .ok (.getfield 22, 3) := by decide +kernel
theorem dX7_reduce_62 : decode cX7_reduce 62 = .ok (.iload_n 3, 1) := by decide +kernel
theorem dX7_reduce_63 : decode cX7_reduce 63 = .ok (.iaload, 1) := by decide +kernel
theorem dX7_reduce_64 : decode cX7_reduce 64 = .ok (.ixor, 1) := by decide +kernel
theorem dX7_reduce_65 : decode cX7_reduce 65 = .ok (.putfield 49, 3) := by decide +kernel
theorem dX7_reduce_68 : decode cX7_reduce 68 = .ok (.iinc 3 (-1), 3) := by decide +kernel
theorem dX7_reduce_71 : decode cX7_reduce 71 = .ok (.goto (-58), 3) := by decide +kernel
theorem dX7_reduce_74 : decode cX7_reduce 74 = .ok (.return_, 1) := by decide +kernel
theorem dX7_highest_0 : decode cX7_highest 0 = .ok (.bipush 11, 2) := by decide +kernel
theorem dX7_highest_2 : decode cX7_highest 2 = .ok (.istore_n 2, 1) := by decide +kernel
theorem dX7_highest_3 : decode cX7_highest 3 = .ok (.iload_n 1, 1) := by decide +kernel
theorem dX7_highest_4 : decode cX7_highest 4 = .ok (.iload_n 2, 1) := by decide +kernel
theorem dX7_highest_5 : decode cX7_highest 5 = .ok (.ishr, 1) := by decide +kernel
theorem dX7_highest_6 : decode cX7_highest 6 = .ok (.iconst 1, 1) := by decide +kernel
theorem dX7_highest_7 : decode cX7_highest 7 = .ok (.iand, 1) := by decide +kernel
theorem dX7_highest_8 : decode cX7_highest 8 = .ok (.ifCond .ne 9, 3) := by decide +kernel
theorem dX7_highest_11 : decode cX7_highest 11 = .ok (.iinc 2 (-1), 3) := by decide +kernel
theorem dX7_highest_14 : decode cX7_highest 14 = .ok (.goto (-11), 3) := by decide +kernel
theorem dX7_highest_17 : decode cX7_highest 17 = .ok (.iload_n 2, 1) := by decide +kernel
theorem dX7_highest_18 : decode cX7_highest 18 = .ok (.ireturn, 1) := by decide +kernel
theorem dX7_layBase_0 : decode cX7_layBase 0 = .ok (.iconst 0, 1) := by decide +kernel
theorem dX7_layBase_1 : decode cX7_layBase 1 = .ok (.istore_n 2, 1) := by decide +kernel
theorem dX7_layBase_2 : decode cX7_layBase 2 = .ok (.iload_n 2, 1) := by decide +kernel
theorem dX7_layBase_3 : decode cX7_layBase 3 = .ok (.bipush 12, 2) := by decide +kernel
theorem dX7_layBase_5 : decode cX7_layBase 5 = .ok (.if_icmp .ge 16, 3) := by decide +kernel
theorem dX7_layBase_8 : decode cX7_layBase 8 = .ok (.aload_n 0, 1) := by decide +kernel
theorem dX7_layBase_9 : decode cX7_layBase 9 = .ok (.getfield 19, 3) := by decide +kernel
theorem dX7_layBase_12 : decode cX7_layBase 12 = .ok (.iload_n 2, 1) := by decide +kernel
theorem dX7_layBase_13 : decode cX7_layBase 13 = .ok (.iconst 0, 1) := by decide +kernel
theorem dX7_layBase_14 : decode cX7_layBase 14 = .ok (.iastore, 1) := by decide +kernel
theorem dX7_layBase_15 : decode cX7_layBase 15 = .ok (.iinc 2 1, 3) := by decide +kernel
theorem dX7_layBase_18 : decode cX7_layBase 18 = .ok (.goto (-16), 3) := by decide +kernel
theorem dX7_layBase_21 : decode cX7_layBase 21 = .ok (.iconst 0, 1) := by decide +kernel
theorem dX7_layBase_22 : decode cX7_layBase 22 = .ok (.istore_n 2, 1) := by decide +kernel
theorem dX7_layBase_23 : decode cX7_layBase 23 = .ok (.iconst 0, 1) := by decide +kernel
theorem dX7_layBase_24 : decode cX7_layBase 24 = .ok (.istore_n 3, 1) := by decide +kernel
theorem dX7_layBase_25 : decode cX7_layBase 25 = .ok (.iload_n 3, 1) := by decide +kernel
theorem dX7_layBase_26 : decode cX7_layBase 26 = .ok (.aload_n 0, 1) := by decide +kernel
theorem dX7_layBase_27 : decode cX7_layBase 27 = .ok (.getfield 7, 3) := by decide +kernel
theorem dX7_layBase_30 : decode cX7_layBase 30 = .ok (.iload_n 1, 1) := by decide +kernel
theorem dX7_layBase_31 : decode cX7_layBase 31 = .ok (.iaload, 1) := by decide +kernel
theorem dX7_layBase_32 : decode cX7_layBase 32 = .ok (.if_icmp .ge 79, 3) := by decide +kernel
theorem dX7_layBase_35 : decode cX7_layBase 35 = .ok (.aload_n 0, 1) := by decide +kernel
theorem dX7_layBase_36 : decode cX7_layBase 36 = .ok (.aload_n 0, 1) := by decide +kernel
theorem dX7_layBase_37 : decode cX7_layBase 37 = .ok (.getfield 7, 3) := by decide +kernel
theorem dX7_layBase_40 : decode cX7_layBase 40 = .ok (.iload_n 1, 1) := by decide +kernel
theorem dX7_layBase_41 : decode cX7_layBase 41 = .ok (.iload_n 3, 1) := by decide +kernel
theorem dX7_layBase_42 : decode cX7_layBase 42 = .ok (.invokestatic 42, 3) := by decide +kernel
theorem dX7_layBase_45 : decode cX7_layBase 45 = .ok (.iaload, 1) := by decide +kernel
theorem dX7_layBase_46 : decode cX7_layBase 46 = .ok (.aload_n 0, 1) := by decide +kernel
theorem dX7_layBase_47 : decode cX7_layBase 47 = .ok (.getfield 7, 3) := by decide +kernel
theorem dX7_layBase_50 : decode cX7_layBase 50 = .ok (.iload_n 1, 1) := by decide +kernel
theorem dX7_layBase_51 : decode cX7_layBase 51 = .ok (.iload_n 3, 1) := by decide +kernel
theorem dX7_layBase_52 : decode cX7_layBase 52 = .ok (.invokestatic 42, 3) := by decide +kernel
theorem dX7_layBase_55 : decode cX7_layBase 55 = .ok (.iconst 1, 1) := by decide +kernel
theorem dX7_layBase_56 : decode cX7_layBase 56 = .ok (.iadd, 1) := by decide +kernel
theorem dX7_layBase_57 : decode cX7_layBase 57 = .ok (.iaload, 1) := by decide +kernel
theorem dX7_layBase_58 : decode cX7_layBase 58 = .ok (.invokevirtual 52, 3) := by decide +kernel
theorem dX7_layBase_61 : decode cX7_layBase 61 = .ok (.aload_n 0, 1) := by decide +kernel
theorem dX7_layBase_62 : decode cX7_layBase 62 = .ok (.getfield 46, 3) := by decide +kernel
theorem dX7_layBase_65 : decode cX7_layBase 65 = .ok (.ifCond .eq 40, 3) := by decide +kernel
theorem dX7_layBase_68 : decode cX7_layBase 68 = .ok (.aload_n 0, 1) := by decide +kernel
theorem dX7_layBase_69 : decode cX7_layBase 69 = .ok (.getfield 19, 3) := by decide +kernel
theorem dX7_layBase_72 : decode cX7_layBase 72 = .ok (.aload_n 0, 1) := by decide +kernel
theorem dX7_layBase_73 : decode cX7_layBase 73 = .ok (.aload_n 0, 1) := by decide +kernel
theorem dX7_layBase_74 : decode cX7_layBase 74 = .ok (.getfield 46, 3) := by decide +kernel
theorem dX7_layBase_77 : decode cX7_layBase 77 = .ok (.invokevirtual 55, 3) := by decide +kernel
theorem dX7_layBase_80 : decode cX7_layBase 80 = .ok (.aload_n 0, 1) := by decide +kernel
theorem dX7_layBase_81 : decode cX7_layBase 81 = .ok (.getfield 46, 3) := by decide +kernel
theorem dX7_layBase_84 : decode cX7_layBase 84 = .ok (.iastore, 1) := by decide +kernel
theorem dX7_layBase_85 : decode cX7_layBase 85 = .ok (.aload_n 0, 1) := by decide +kernel
theorem dX7_layBase_86 : decode cX7_layBase 86 = .ok (.getfield 22, 3) := by decide +kernel
theorem dX7_layBase_89 : decode cX7_layBase 89 = .ok (.aload_n 0, 1) := by decide +kernel
theorem dX7_layBase_90 : decode cX7_layBase 90 = .ok (.aload_n 0, 1) := by decide +kernel
theorem dX7_layBase_91 : decode cX7_layBase 91 = .ok (.getfield 46, 3) := by decide +kernel
theorem dX7_layBase_94 : decode cX7_layBase 94 = .ok (.invokevirtual 55, 3) := by decide +kernel
theorem dX7_layBase_97 : decode cX7_layBase 97 = .ok (.aload_n 0, 1) := by decide +kernel
theorem dX7_layBase_98 : decode cX7_layBase 98 = .ok (.getfield 49, 3) := by decide +kernel
theorem dX7_layBase_101 : decode cX7_layBase 101 = .ok (.iastore, 1) := by decide +kernel
theorem dX7_layBase_102 : decode cX7_layBase 102 = .ok (.iinc 2 1, 3) := by decide +kernel
theorem dX7_layBase_105 : decode cX7_layBase 105 = .ok (.iinc 3 1, 3) := by decide +kernel
theorem dX7_layBase_108 : decode cX7_layBase 108 = .ok (.goto (-83), 3) := by decide +kernel
theorem dX7_layBase_111 : decode cX7_layBase 111 = .ok (.iload_n 2, 1) := by decide +kernel
theorem dX7_layBase_112 : decode cX7_layBase 112 = .ok (.ireturn, 1) := by decide +kernel
theorem dX7_isNovel_0 : decode cX7_isNovel 0 = .ok (.aload_n 0, 1) := by decide +kernel
theorem dX7_isNovel_1 : decode cX7_isNovel 1 = .ok (.iload_n 1, 1) := by decide +kernel
theorem dX7_isNovel_2 : decode cX7_isNovel 2 = .ok (.invokevirtual 59, 3) := by decide +kernel
theorem dX7_isNovel_5 : decode cX7_isNovel 5 = .ok (.istore_n 3, 1) := by decide +kernel
theorem dX7_isNovel_6 : decode cX7_isNovel 6 = .ok (.aload_n 0, 1) := by decide +kernel
theorem dX7_isNovel_7 : decode cX7_isNovel 7 = .ok (.iload_n 2, 1) := by decide +kernel
theorem dX7_isNovel_8 : decode cX7_isNovel 8 = .ok (.iconst 0, 1) := by decide +kernel
theorem dX7_isNovel_9 : decode cX7_isNovel 9 = .ok (.invokevirtual 52, 3) := by decide +kernel
theorem dX7_isNovel_12 : decode cX7_isNovel 12 = .ok (.aload_n 0, 1) := by decide +kernel
theorem dX7_isNovel_13 : decode cX7_isNovel 13 = .ok (.getfield 46, 3) := by decide +kernel
theorem dX7_isNovel_16 : decode cX7_isNovel 16 = .ok (.ifCond .eq 7, 3) := by decide +kernel
theorem dX7_isNovel_19 : decode cX7_isNovel 19 = .ok (.iconst 1, 1) := by decide +kernel
theorem dX7_isNovel_20 : decode cX7_isNovel 20 = .ok (.goto 4, 3) := by decide +kernel
theorem dX7_isNovel_23 : decode cX7_isNovel 23 = .ok (.iconst 0, 1) := by decide +kernel
theorem dX7_isNovel_24 : decode cX7_isNovel 24 = .ok (.ireturn, 1) := by decide +kernel
theorem dX7_draw_0 : decode cX7_draw 0 = .ok (.ldc2_w 62, 3) := by decide +kernel
theorem dX7_draw_3 : decode cX7_draw 3 = .ok (.aload_n 0, 1) := by decide +kernel
theorem dX7_draw_4 : decode cX7_draw 4 = .ok (.getfield 7, 3) := by decide +kernel
theorem dX7_draw_7 : decode cX7_draw 7 = .ok (.bipush 6, 2) := by decide +kernel
theorem dX7_draw_9 : decode cX7_draw 9 = .ok (.iaload, 1) := by decide +kernel
theorem dX7_draw_10 : decode cX7_draw 10 = .ok (.i2l, 1) := by decide +kernel
theorem dX7_draw_11 : decode cX7_draw 11 = .ok (.lmul, 1) := by decide +kernel
theorem dX7_draw_12 : decode cX7_draw 12 = .ok (.ldc2_w 64, 3) := by decide +kernel
theorem dX7_draw_15 : decode cX7_draw 15 = .ok (.ladd, 1) := by decide +kernel
theorem dX7_draw_16 : decode cX7_draw 16 = .ok (.ldc2_w 66, 3) := by decide +kernel
theorem dX7_draw_19 : decode cX7_draw 19 = .ok (.lrem, 1) := by decide +kernel
theorem dX7_draw_20 : decode cX7_draw 20 = .ok (.lstore_n 2, 1) := by decide +kernel
theorem dX7_draw_21 : decode cX7_draw 21 = .ok (.aload_n 0, 1) := by decide +kernel
theorem dX7_draw_22 : decode cX7_draw 22 = .ok (.getfield 7, 3) := by decide +kernel
theorem dX7_draw_25 : decode cX7_draw 25 = .ok (.bipush 6, 2) := by decide +kernel
theorem dX7_draw_27 : decode cX7_draw 27 = .ok (.lload_n 2, 1) := by decide +kernel
theorem dX7_draw_28 : decode cX7_draw 28 = .ok (.l2i, 1) := by decide +kernel
theorem dX7_draw_29 : decode cX7_draw 29 = .ok (.iastore, 1) := by decide +kernel
theorem dX7_draw_30 : decode cX7_draw 30 = .ok (.aload_n 0, 1) := by decide +kernel
theorem dX7_draw_31 : decode cX7_draw 31 = .ok (.getfield 7, 3) := by decide +kernel
theorem dX7_draw_34 : decode cX7_draw 34 = .ok (.bipush 6, 2) := by decide +kernel
theorem dX7_draw_36 : decode cX7_draw 36 = .ok (.iaload, 1) := by decide +kernel
theorem dX7_draw_37 : decode cX7_draw 37 = .ok (.ldc 68, 2) := by decide +kernel
theorem dX7_draw_39 : decode cX7_draw 39 = .ok (.idiv, 1) := by decide +kernel
theorem dX7_draw_40 : decode cX7_draw 40 = .ok (.iload_n 1, 1) := by decide +kernel
theorem dX7_draw_41 : decode cX7_draw 41 = .ok (.irem, 1) := by decide +kernel
theorem dX7_draw_42 : decode cX7_draw 42 = .ok (.ireturn, 1) := by decide +kernel
theorem dX7_weights_0 : decode cX7_weights 0 = .ok (.iconst 0, 1) := by decide +kernel
theorem dX7_weights_1 : decode cX7_weights 1 = .ok (.istore_n 1, 1) := by decide +kernel
theorem dX7_weights_2 : decode cX7_weights 2 = .ok (.iconst 0, 1) := by decide +kernel
theorem dX7_weights_3 : decode cX7_weights 3 = .ok (.istore_n 2, 1) := by decide +kernel
theorem dX7_weights_4 : decode cX7_weights 4 = .ok (.iload_n 2, 1) := by decide +kernel
theorem dX7_weights_5 : decode cX7_weights 5 = .ok (.bipush 6, 2) := by decide +kernel
theorem dX7_weights_7 : decode cX7_weights 7 = .ok (.if_icmp .ge 21, 3) := by decide +kernel
theorem dX7_weights_10 : decode cX7_weights 10 = .ok (.iload_n 1, 1) := by decide +kernel
theorem dX7_weights_11 : decode cX7_weights 11 = .ok (.aload_n 0, 1) := by decide +kernel
theorem dX7_weights_12 : decode cX7_weights 12 = .ok (.getfield 7, 3) := by decide +kernel
theorem dX7_weights_15 : decode cX7_weights 15 = .ok (.bipush 11, 2) := by decide +kernel
theorem dX7_weights_17 : decode cX7_weights 17 = .ok (.iload_n 2, 1) := by decide +kernel
theorem dX7_weights_18 : decode cX7_weights 18 = .ok (.iadd, 1) := by decide +kernel
theorem dX7_weights_19 : decode cX7_weights 19 = .ok (.iaload, 1) := by decide +kernel
theorem dX7_weights_20 : decode cX7_weights 20 = .ok (.iadd, 1) := by decide +kernel
theorem dX7_weights_21 : decode cX7_weights 21 = .ok (.istore_n 1, 1) := by decide +kernel
theorem dX7_weights_22 : decode cX7_weights 22 = .ok (.iinc 2 1, 3) := by decide +kernel
theorem dX7_weights_25 : decode cX7_weights 25 = .ok (.goto (-21), 3) := by decide +kernel
theorem dX7_weights_28 : decode cX7_weights 28 = .ok (.iload_n 1, 1) := by decide +kernel
theorem dX7_weights_29 : decode cX7_weights 29 = .ok (.ireturn, 1) := by decide +kernel
theorem dX7_makeAtSource_0 : decode cX7_makeAtSource 0 = .ok (.aload_n 0, 1) := by decide +kernel
theorem dX7_makeAtSource_1 : decode cX7_makeAtSource 1 = .ok (.aload_n 0, 1) := by decide +kernel
theorem dX7_makeAtSource_2 : decode cX7_makeAtSource 2 = .ok (.invokevirtual 69, 3) := by decide +kernel
theorem dX7_makeAtSource_5 : decode cX7_makeAtSource 5 = .ok (.invokevirtual 73, 3) := by decide +kernel
theorem dX7_makeAtSource_8 : decode cX7_makeAtSource 8 = .ok (.istore_n 1, 1) := by decide +kernel
theorem dX7_makeAtSource_9 : decode cX7_makeAtSource 9 = .ok (.iconst 1, 1) := by decide +kernel
theorem dX7_makeAtSource_10 : decode cX7_makeAtSource 10 = .ok (.istore_n 2, 1) := by decide +kernel
theorem dX7_makeAtSource_11 : decode cX7_makeAtSource 11 = .ok (.iload_n 1, 1) := by decide +kernel
theorem dX7_makeAtSource_12 : decode cX7_makeAtSource 12 = .ok (.aload_n 0, 1) := by decide +kernel
theorem dX7_makeAtSource_13 : decode cX7_makeAtSource 13 = .ok (.getfield 7, 3) := by decide +kernel
theorem dX7_makeAtSource_16 : decode cX7_makeAtSource 16 = .ok (.bipush 11, 2) := by decide +kernel
theorem dX7_makeAtSource_18 : decode cX7_makeAtSource 18 = .ok (.iload_n 2, 1) := by decide +kernel
theorem dX7_makeAtSource_19 : decode cX7_makeAtSource 19 = .ok (.iadd, 1) := by decide +kernel
theorem dX7_makeAtSource_20 : decode cX7_makeAtSource 20 = .ok (.iconst 1, 1) := by decide +kernel
theorem dX7_makeAtSource_21 : decode cX7_makeAtSource 21 = .ok (.isub, 1) := by decide +kernel
theorem dX7_makeAtSource_22 : decode cX7_makeAtSource 22 = .ok (.iaload, 1) := by decide +kernel
theorem dX7_makeAtSource_23 : decode cX7_makeAtSource 23 = .ok (.if_icmp .lt 23, 3) := by decide +kernel
theorem dX7_makeAtSource_26 : decode cX7_makeAtSource 26 = .ok (.iload_n 1, 1) := by decide +kernel
theorem dX7_makeAtSource_27 : decode cX7_makeAtSource 27 = .ok (.aload_n 0, 1) := by decide +kernel
theorem dX7_makeAtSource_28 : decode cX7_makeAtSource 28 = .ok (.getfield 7, 3) := by decide +kernel
theorem dX7_makeAtSource_31 : decode cX7_makeAtSource 31 = .ok (.bipush 11, 2) := by decide +kernel
theorem dX7_makeAtSource_33 : decode cX7_makeAtSource 33 = .ok (.iload_n 2, 1) := by decide +kernel
theorem dX7_makeAtSource_34 : decode cX7_makeAtSource 34 = .ok (.iadd, 1) := by decide +kernel
theorem dX7_makeAtSource_35 : decode cX7_makeAtSource 35 = .ok (.iconst 1, 1) := by decide +kernel
theorem dX7_makeAtSource_36 : decode cX7_makeAtSource 36 = .ok (.isub, 1) := by decide +kernel
theorem dX7_makeAtSource_37 : decode cX7_makeAtSource 37 = .ok (.iaload, 1) := by decide +kernel
theorem dX7_makeAtSource_38 : decode cX7_makeAtSource 38 = .ok (.isub, 1) := by decide +kernel
theorem dX7_makeAtSource_39 : decode cX7_makeAtSource 39 = .ok (.istore_n 1, 1) := by decide +kernel
theorem dX7_makeAtSource_40 : decode cX7_makeAtSource 40 = .ok (.iinc 2 1, 3) := by decide +kernel
theorem dX7_makeAtSource_43 : decode cX7_makeAtSource 43 = .ok (.goto (-32), 3) := by decide +kernel
theorem dX7_makeAtSource_46 : decode cX7_makeAtSource 46 = .ok (.iload_n 2, 1) := by decide +kernel
theorem dX7_makeAtSource_47 : decode cX7_makeAtSource 47 = .ok (.aload_n 0, 1) := by decide +kernel
theorem dX7_makeAtSource_48 : decode cX7_makeAtSource 48 = .ok (.getfield 7, 3) := by decide +kernel
theorem dX7_makeAtSource_51 : decode cX7_makeAtSource 51 = .ok (.iconst 0, 1) := by decide +kernel
theorem dX7_makeAtSource_52 : decode cX7_makeAtSource 52 = .ok (.iaload, 1) := by decide +kernel
theorem dX7_makeAtSource_53 : decode cX7_makeAtSource 53 = .ok (.if_icmp .le 12, 3) := by decide +kernel
theorem dX7_makeAtSource_56 : decode cX7_makeAtSource 56 = .ok (.aload_n 0, 1) := by decide +kernel
theorem dX7_makeAtSource_57 : decode cX7_makeAtSource 57 = .ok (.getfield 7, 3) := by decide +kernel
theorem dX7_makeAtSource_60 : decode cX7_makeAtSource 60 = .ok (.iconst 0, 1) := by decide +kernel
theorem dX7_makeAtSource_61 : decode cX7_makeAtSource 61 = .ok (.iaload, 1) := by decide +kernel
theorem dX7_makeAtSource_62 : decode cX7_makeAtSource 62 = .ok (.goto 4, 3) := by decide +kernel
theorem dX7_makeAtSource_65 : decode cX7_makeAtSource 65 = .ok (.iload_n 2, 1) := by decide +kernel
theorem dX7_makeAtSource_66 : decode cX7_makeAtSource 66 = .ok (.istore_n 2, 1) := by decide +kernel
theorem dX7_makeAtSource_67 : decode cX7_makeAtSource 67 = .ok (.aload_n 0, 1) := by decide +kernel
theorem dX7_makeAtSource_68 : decode cX7_makeAtSource 68 = .ok (.iconst 0, 1) := by decide +kernel
theorem dX7_makeAtSource_69 : decode cX7_makeAtSource 69 = .ok (.putfield 76, 3) := by decide +kernel
theorem dX7_makeAtSource_72 : decode cX7_makeAtSource 72 = .ok (.iconst 0, 1) := by decide +kernel
theorem dX7_makeAtSource_73 : decode cX7_makeAtSource 73 = .ok (.istore_n 3, 1) := by decide +kernel
theorem dX7_makeAtSource_74 : decode cX7_makeAtSource 74 = .ok (.iload_n 3, 1) := by decide +kernel
theorem dX7_makeAtSource_75 : decode cX7_makeAtSource 75 = .ok (.aload_n 0, 1) := by decide +kernel
theorem dX7_makeAtSource_76 : decode cX7_makeAtSource 76 = .ok (.getfield 7, 3) := by decide +kernel
theorem dX7_makeAtSource_79 : decode cX7_makeAtSource 79 = .ok (.iconst 0, 1) := by decide +kernel
theorem dX7_makeAtSource_80 : decode cX7_makeAtSource 80 = .ok (.iaload, 1) := by decide +kernel
theorem dX7_makeAtSource_81 : decode cX7_makeAtSource 81 = .ok (.if_icmp .ge 40, 3) := by decide +kernel
theorem dX7_makeAtSource_84 : decode cX7_makeAtSource 84 = .ok (.aload_n 0, 1) := by decide +kernel
theorem dX7_makeAtSource_85 : decode cX7_makeAtSource 85 = .ok (.aload_n 0, 1) := by decide +kernel
theorem dX7_makeAtSource_86 : decode cX7_makeAtSource 86 = .ok (.getfield 7, 3) := by decide +kernel
theorem dX7_makeAtSource_89 : decode cX7_makeAtSource 89 = .ok (.iconst 0, 1) := by decide +kernel
theorem dX7_makeAtSource_90 : decode cX7_makeAtSource 90 = .ok (.iaload, 1) := by decide +kernel
theorem dX7_makeAtSource_91 : decode cX7_makeAtSource 91 = .ok (.iload_n 3, 1) := by decide +kernel
theorem dX7_makeAtSource_92 : decode cX7_makeAtSource 92 = .ok (.isub, 1) := by decide +kernel
theorem dX7_makeAtSource_93 : decode cX7_makeAtSource 93 = .ok (.invokevirtual 73, 3) := by decide +kernel
theorem dX7_makeAtSource_96 : decode cX7_makeAtSource 96 = .ok (.iload_n 2, 1) := by decide +kernel
theorem dX7_makeAtSource_97 : decode cX7_makeAtSource 97 = .ok (.if_icmp .ge 18, 3) := by decide +kernel
theorem dX7_makeAtSource_100 : decode cX7_makeAtSource 100 = .ok (.aload_n 0, 1) := by decide +kernel
theorem dX7_makeAtSource_101 : decode cX7_makeAtSource 101 = .ok (.dup, 1) := by decide +kernel
theorem dX7_makeAtSource_102 : decode cX7_makeAtSource 102 = .ok (.getfield 76, 3) := by decide +kernel
theorem dX7_makeAtSource_105 : decode cX7_makeAtSource 105 = .ok (.iconst 1, 1) := by decide +kernel
theorem dX7_makeAtSource_106 : decode cX7_makeAtSource 106 = .ok (.iload_n 3, 1) := by decide +kernel
theorem dX7_makeAtSource_107 : decode cX7_makeAtSource 107 = .ok (.ishl, 1) := by decide +kernel
theorem dX7_makeAtSource_108 : decode cX7_makeAtSource 108 = .ok (.ior, 1) := by decide +kernel
theorem dX7_makeAtSource_109 : decode cX7_makeAtSource 109 = .ok (.putfield 76, 3) := by decide +kernel
theorem dX7_makeAtSource_112 : decode cX7_makeAtSource 112 = .ok (.iinc 2 (-1), 3) := by decide +kernel
theorem dX7_makeAtSource_115 : decode cX7_makeAtSource 115 = .ok (.iinc 3 1, 3) := by decide +kernel
theorem dX7_makeAtSource_118 : decode cX7_makeAtSource 118 = .ok (.goto (-44), 3) := by decide +kernel
theorem dX7_makeAtSource_121 : decode cX7_makeAtSource 121 = .ok (.aload_n 0, 1) := by decide +kernel
theorem dX7_makeAtSource_122 : decode cX7_makeAtSource 122 = .ok (.aload_n 0, 1) := by decide +kernel
theorem dX7_makeAtSource_123 : decode cX7_makeAtSource 123 = .ok (.aload_n 0, 1) := by decide +kernel
theorem dX7_makeAtSource_124 : decode cX7_makeAtSource 124 = .ok (.getfield 76, 3) := by decide +kernel
theorem dX7_makeAtSource_127 : decode cX7_makeAtSource 127 = .ok (.invokevirtual 79, 3) := by decide +kernel
theorem dX7_makeAtSource_130 : decode cX7_makeAtSource 130 = .ok (.putfield 82, 3) := by decide +kernel
theorem dX7_makeAtSource_133 : decode cX7_makeAtSource 133 = .ok (.aload_n 0, 1) := by decide +kernel
theorem dX7_makeAtSource_134 : decode cX7_makeAtSource 134 = .ok (.getfield 7, 3) := by decide +kernel
theorem dX7_makeAtSource_137 : decode cX7_makeAtSource 137 = .ok (.bipush 29, 2) := by decide +kernel
theorem dX7_makeAtSource_139 : decode cX7_makeAtSource 139 = .ok (.dup2, 1) := by decide +kernel
theorem dX7_makeAtSource_140 : decode cX7_makeAtSource 140 = .ok (.iaload, 1) := by decide +kernel
theorem dX7_makeAtSource_141 : decode cX7_makeAtSource 141 = .ok (.iconst 1, 1) := by decide +kernel
theorem dX7_makeAtSource_142 : decode cX7_makeAtSource 142 = .ok (.iadd, 1) := by decide +kernel
theorem dX7_makeAtSource_143 : decode cX7_makeAtSource 143 = .ok (.iastore, 1) := by decide +kernel
theorem dX7_makeAtSource_144 : decode cX7_makeAtSource 144 = .ok (.return_, 1) := by decide +kernel
theorem dX7_makeAtRelay_0 : decode cX7_makeAtRelay 0 = .ok (.aload_n 0, 1) := by decide +kernel
theorem dX7_makeAtRelay_1 : decode cX7_makeAtRelay 1 = .ok (.iconst 0, 1) := by decide +kernel
theorem dX7_makeAtRelay_2 : decode cX7_makeAtRelay 2 = .ok (.putfield 76, 3) := by decide +kernel
theorem dX7_makeAtRelay_5 : decode cX7_makeAtRelay 5 = .ok (.aload_n 0, 1) := by decide +kernel
theorem dX7_makeAtRelay_6 : decode cX7_makeAtRelay 6 = .ok (.iconst 0, 1) := by decide +kernel
theorem dX7_makeAtRelay_7 : decode cX7_makeAtRelay 7 = .ok (.putfield 82, 3) := by decide +kernel
theorem dX7_makeAtRelay_10 : decode cX7_makeAtRelay 10 = .ok (.aload_n 0, 1) := by decide +kernel
theorem dX7_makeAtRelay_11 : decode cX7_makeAtRelay 11 = .ok (.getfield 7, 3) := by decide +kernel
theorem dX7_makeAtRelay_14 : decode cX7_makeAtRelay 14 = .ok (.iload_n 1, 1) := by decide +kernel
theorem dX7_makeAtRelay_15 : decode cX7_makeAtRelay 15 = .ok (.iaload, 1) := by decide +kernel
theorem dX7_makeAtRelay_16 : decode cX7_makeAtRelay 16 = .ok (.ifCond .ne 4, 3) := by decide +kernel
theorem dX7_makeAtRelay_19 : decode cX7_makeAtRelay 19 = .ok (.return_, 1) := by decide +kernel
theorem dX7_makeAtRelay_20 : decode cX7_makeAtRelay 20 = .ok (.aload_n 0, 1) := by decide +kernel
theorem dX7_makeAtRelay_21 : decode cX7_makeAtRelay 21 = .ok (.getfield 7, 3) := by decide +kernel
theorem dX7_makeAtRelay_24 : decode cX7_makeAtRelay 24 = .ok (.iload_n 1, 1) := by decide +kernel
theorem dX7_makeAtRelay_25 : decode cX7_makeAtRelay 25 = .ok (.iconst 0, 1) := by decide +kernel
theorem dX7_makeAtRelay_26 : decode cX7_makeAtRelay 26 = .ok (.invokestatic 42, 3) := by decide +kernel
theorem dX7_makeAtRelay_29 : decode cX7_makeAtRelay 29 = .ok (.iaload, 1) := by decide +kernel
theorem dX7_makeAtRelay_30 : decode cX7_makeAtRelay 30 = .ok (.istore_n 2, 1) := by decide +kernel
theorem dX7_makeAtRelay_31 : decode cX7_makeAtRelay 31 = .ok (.aload_n 0, 1) := by decide +kernel
theorem dX7_makeAtRelay_32 : decode cX7_makeAtRelay 32 = .ok (.getfield 7, 3) := by decide +kernel
theorem dX7_makeAtRelay_35 : decode cX7_makeAtRelay 35 = .ok (.iload_n 1, 1) := by decide +kernel
theorem dX7_makeAtRelay_36 : decode cX7_makeAtRelay 36 = .ok (.iconst 0, 1) := by decide +kernel
theorem dX7_makeAtRelay_37 : decode cX7_makeAtRelay 37 = .ok (.invokestatic 42, 3) := by decide +kernel
theorem dX7_makeAtRelay_40 : decode cX7_makeAtRelay 40 = .ok (.iconst 1, 1) := by decide +kernel
theorem dX7_makeAtRelay_41 : decode cX7_makeAtRelay 41 = .ok (.iadd, 1) := by decide +kernel
theorem dX7_makeAtRelay_42 : decode cX7_makeAtRelay 42 = .ok (.iaload, 1) := by decide +kernel
theorem dX7_makeAtRelay_43 : decode cX7_makeAtRelay 43 = .ok (.istore_n 3, 1) := by decide +kernel
theorem dX7_makeAtRelay_44 : decode cX7_makeAtRelay 44 = .ok (.aload_n 0, 1) := by decide +kernel
theorem dX7_makeAtRelay_45 : decode cX7_makeAtRelay 45 = .ok (.getfield 7, 3) := by decide +kernel
theorem dX7_makeAtRelay_48 : decode cX7_makeAtRelay 48 = .ok (.iconst 5, 1) := by decide +kernel
theorem dX7_makeAtRelay_49 : decode cX7_makeAtRelay 49 = .ok (.iaload, 1) := by decide +kernel
theorem dX7_makeAtRelay_50 : decode cX7_makeAtRelay 50 = .ok (.ifCond .ne 27, 3) := by decide +kernel
theorem dX7_makeAtRelay_53 : decode cX7_makeAtRelay 53 = .ok (.aload_n 0, 1) := by decide +kernel
theorem dX7_makeAtRelay_54 : decode cX7_makeAtRelay 54 = .ok (.iload_n 1, 1) := by decide +kernel
theorem dX7_makeAtRelay_55 : decode cX7_makeAtRelay 55 = .ok (.iconst 0, 1) := by decide +kernel
theorem dX7_makeAtRelay_56 : decode cX7_makeAtRelay 56 = .ok (.invokevirtual 85, 3) := by decide +kernel
theorem dX7_makeAtRelay_59 : decode cX7_makeAtRelay 59 = .ok (.aload_n 0, 1) := by decide +kernel
theorem dX7_makeAtRelay_60 : decode cX7_makeAtRelay 60 = .ok (.iload_n 1, 1) := by decide +kernel
theorem dX7_makeAtRelay_61 : decode cX7_makeAtRelay 61 = .ok (.iload_n 2, 1) := by decide +kernel
theorem dX7_makeAtRelay_62 : decode cX7_makeAtRelay 62 = .ok (.iload_n 3, 1) := by decide +kernel
theorem dX7_makeAtRelay_63 : decode cX7_makeAtRelay 63 = .ok (.invokevirtual 88, 3) := by decide +kernel
theorem dX7_makeAtRelay_66 : decode cX7_makeAtRelay 66 = .ok (.aload_n 0, 1) := by decide +kernel
theorem dX7_makeAtRelay_67 : decode cX7_makeAtRelay 67 = .ok (.iload_n 2, 1) := by decide +kernel
theorem dX7_makeAtRelay_68 : decode cX7_makeAtRelay 68 = .ok (.putfield 76, 3) := by decide +kernel
theorem dX7_makeAtRelay_71 : decode cX7_makeAtRelay 71 = .ok (.aload_n 0, 1) := by decide +kernel
theorem dX7_makeAtRelay_72 : decode cX7_makeAtRelay 72 = .ok (.iload_n 3, 1) := by decide +kernel
theorem dX7_makeAtRelay_73 : decode cX7_makeAtRelay 73 = .ok (.putfield 82, 3) := by decide +kernel
theorem dX7_makeAtRelay_76 : decode cX7_makeAtRelay 76 = .ok (.return_, 1) := by decide +kernel
theorem dX7_makeAtRelay_77 : decode cX7_makeAtRelay 77 = .ok (.iconst 0, 1) := by decide +kernel
theorem dX7_makeAtRelay_78 : decode cX7_makeAtRelay 78 = .ok (.istore 4, 2) := by decide +kernel
theorem dX7_makeAtRelay_80 : decode cX7_makeAtRelay 80 = .ok (.iconst 0, 1) := by decide +kernel
theorem dX7_makeAtRelay_81 : decode cX7_makeAtRelay 81 = .ok (.istore 5, 2) := by decide +kernel
theorem dX7_makeAtRelay_83 : decode cX7_makeAtRelay 83 = .ok (.iload 5, 2) := by decide +kernel
theorem dX7_makeAtRelay_85 : decode cX7_makeAtRelay 85 = .ok (.aload_n 0, 1) := by decide +kernel
theorem dX7_makeAtRelay_86 : decode cX7_makeAtRelay 86 = .ok (.getfield 7, 3) := by decide +kernel
theorem dX7_makeAtRelay_89 : decode cX7_makeAtRelay 89 = .ok (.iload_n 1, 1) := by decide +kernel
theorem dX7_makeAtRelay_90 : decode cX7_makeAtRelay 90 = .ok (.iaload, 1) := by decide +kernel
theorem dX7_makeAtRelay_91 : decode cX7_makeAtRelay 91 = .ok (.if_icmp .ge 63, 3) := by decide +kernel
theorem dX7_makeAtRelay_94 : decode cX7_makeAtRelay 94 = .ok (.aload_n 0, 1) := by decide +kernel
theorem dX7_makeAtRelay_95 : decode cX7_makeAtRelay 95 = .ok (.iconst 2, 1) := by decide +kernel
theorem dX7_makeAtRelay_96 : decode cX7_makeAtRelay 96 = .ok (.invokevirtual 73, 3) := by decide +kernel
theorem dX7_makeAtRelay_99 : decode cX7_makeAtRelay 99 = .ok (.iconst 1, 1) := by decide +kernel
theorem dX7_makeAtRelay_100 : decode cX7_makeAtRelay 100 = .ok (.if_icmp .ne 48, 3) := by decide +kernel
theorem dX7_makeAtRelay_103 : decode cX7_makeAtRelay 103 = .ok (.iconst 1, 1) := by decide +kernel
theorem dX7_makeAtRelay_104 : decode cX7_makeAtRelay 104 = .ok (.istore 4, 2) := by decide +kernel
theorem dX7_makeAtRelay_106 : decode cX7_makeAtRelay 106 = .ok (.aload_n 0, 1) := by decide +kernel
theorem dX7_makeAtRelay_107 : decode cX7_makeAtRelay 107 = .ok (.dup, 1) := by decide +kernel
theorem dX7_makeAtRelay_108 : decode cX7_makeAtRelay 108 = .ok (.getfield 76, 3) := by decide +kernel
theorem dX7_makeAtRelay_111 : decode cX7_makeAtRelay 111 = .ok (.aload_n 0, 1) := by decide +kernel
theorem dX7_makeAtRelay_112 : decode cX7_makeAtRelay 112 = .ok (.getfield 7, 3) := by decide +kernel
theorem dX7_makeAtRelay_115 : decode cX7_makeAtRelay 115 = .ok (.iload_n 1, 1) := by decide +kernel
theorem dX7_makeAtRelay_116 : decode cX7_makeAtRelay 116 = .ok (.iload 5, 2) := by decide +kernel
theorem dX7_makeAtRelay_118 : decode cX7_makeAtRelay 118 = .ok (.invokestatic 42, 3) := by decide +kernel
theorem dX7_makeAtRelay_121 : decode cX7_makeAtRelay 121 = .ok (.iaload, 1) := by decide +kernel
theorem dX7_makeAtRelay_122 : decode cX7_makeAtRelay 122 = .ok (.ixor, 1) := by decide +kernel
theorem dX7_makeAtRelay_123 : decode cX7_makeAtRelay 123 = .ok (.putfield 76, 3) := by decide +kernel
theorem dX7_makeAtRelay_126 : decode cX7_makeAtRelay 126 = .ok (.aload_n 0, 1) := by decide +kernel
theorem dX7_makeAtRelay_127 : decode cX7_makeAtRelay 127 = .ok (.dup, 1) := by decide +kernel
theorem dX7_makeAtRelay_128 : decode cX7_makeAtRelay 128 = .ok (.getfield 82, 3) := by decide +kernel
theorem dX7_makeAtRelay_131 : decode cX7_makeAtRelay 131 = .ok (.aload_n 0, 1) := by decide +kernel
theorem dX7_makeAtRelay_132 : decode cX7_makeAtRelay 132 = .ok (.getfield 7, 3) := by decide +kernel
theorem dX7_makeAtRelay_135 : decode cX7_makeAtRelay 135 = .ok (.iload_n 1, 1) := by decide +kernel
theorem dX7_makeAtRelay_136 : decode cX7_makeAtRelay 136 = .ok (.iload 5, 2) := by decide +kernel
theorem dX7_makeAtRelay_138 : decode cX7_makeAtRelay 138 = .ok (.invokestatic 42, 3) := by decide +kernel
theorem dX7_makeAtRelay_141 : decode cX7_makeAtRelay 141 = .ok (.iconst 1, 1) := by decide +kernel
theorem dX7_makeAtRelay_142 : decode cX7_makeAtRelay 142 = .ok (.iadd, 1) := by decide +kernel
theorem dX7_makeAtRelay_143 : decode cX7_makeAtRelay 143 = .ok (.iaload, 1) := by decide +kernel
theorem dX7_makeAtRelay_144 : decode cX7_makeAtRelay 144 = .ok (.ixor, 1) := by decide +kernel
theorem dX7_makeAtRelay_145 : decode cX7_makeAtRelay 145 = .ok (.putfield 82, 3) := by decide +kernel
theorem dX7_makeAtRelay_148 : decode cX7_makeAtRelay 148 = .ok (.iinc 5 1, 3) := by decide +kernel
theorem dX7_makeAtRelay_151 : decode cX7_makeAtRelay 151 = .ok (.goto (-68), 3) := by decide +kernel
theorem dX7_makeAtRelay_154 : decode cX7_makeAtRelay 154 = .ok (.aload_n 0, 1) := by decide +kernel
theorem dX7_makeAtRelay_155 : decode cX7_makeAtRelay 155 = .ok (.iload 4, 2) := by decide +kernel
theorem dX7_makeAtRelay_157 : decode cX7_makeAtRelay 157 = .ok (.ifCond .eq 10, 3) := by decide +kernel
theorem dX7_makeAtRelay_160 : decode cX7_makeAtRelay 160 = .ok (.aload_n 0, 1) := by decide +kernel
theorem dX7_makeAtRelay_161 : decode cX7_makeAtRelay 161 = .ok (.getfield 76, 3) := by decide +kernel
theorem dX7_makeAtRelay_164 : decode cX7_makeAtRelay 164 = .ok (.goto 4, 3) := by decide +kernel
theorem dX7_makeAtRelay_167 : decode cX7_makeAtRelay 167 = .ok (.iload_n 2, 1) := by decide +kernel
theorem dX7_makeAtRelay_168 : decode cX7_makeAtRelay 168 = .ok (.putfield 76, 3) := by decide +kernel
theorem dX7_makeAtRelay_171 : decode cX7_makeAtRelay 171 = .ok (.aload_n 0, 1) := by decide +kernel
theorem dX7_makeAtRelay_172 : decode cX7_makeAtRelay 172 = .ok (.iload 4, 2) := by decide +kernel
theorem dX7_makeAtRelay_174 : decode cX7_makeAtRelay 174 = .ok (.ifCond .eq 10, 3) := by decide +kernel
theorem dX7_makeAtRelay_177 : decode cX7_makeAtRelay 177 = .ok (.aload_n 0, 1) := by decide +kernel
theorem dX7_makeAtRelay_178 : decode cX7_makeAtRelay 178 = .ok (.getfield 82, 3) := by decide +kernel
theorem dX7_makeAtRelay_181 : decode cX7_makeAtRelay 181 = .ok (.goto 4, 3) := by decide +kernel
theorem dX7_makeAtRelay_184 : decode cX7_makeAtRelay 184 = .ok (.iload_n 3, 1) := by decide +kernel
theorem dX7_makeAtRelay_185 : decode cX7_makeAtRelay 185 = .ok (.putfield 82, 3) := by decide +kernel
theorem dX7_makeAtRelay_188 : decode cX7_makeAtRelay 188 = .ok (.return_, 1) := by decide +kernel
theorem dX7_storeOf_0 : decode cX7_storeOf 0 = .ok (.bipush 34, 2) := by decide +kernel
theorem dX7_storeOf_2 : decode cX7_storeOf 2 = .ok (.bipush 9, 2) := by decide +kernel
theorem dX7_storeOf_4 : decode cX7_storeOf 4 = .ok (.iload_n 0, 1) := by decide +kernel
theorem dX7_storeOf_5 : decode cX7_storeOf 5 = .ok (.iconst 1, 1) := by decide +kernel
theorem dX7_storeOf_6 : decode cX7_storeOf 6 = .ok (.isub, 1) := by decide +kernel
theorem dX7_storeOf_7 : decode cX7_storeOf 7 = .ok (.imul, 1) := by decide +kernel
theorem dX7_storeOf_8 : decode cX7_storeOf 8 = .ok (.iadd, 1) := by decide +kernel
theorem dX7_storeOf_9 : decode cX7_storeOf 9 = .ok (.ireturn, 1) := by decide +kernel
theorem dX7_mostAlike_0 : decode cX7_mostAlike 0 = .ok (.iconst 0, 1) := by decide +kernel
theorem dX7_mostAlike_1 : decode cX7_mostAlike 1 = .ok (.istore_n 3, 1) := by decide +kernel
theorem dX7_mostAlike_2 : decode cX7_mostAlike 2 = .ok (.iconst 1, 1) := by decide +kernel
theorem dX7_mostAlike_3 : decode cX7_mostAlike 3 = .ok (.istore 4, 2) := by decide +kernel
theorem dX7_mostAlike_5 : decode cX7_mostAlike 5 = .ok (.iload 4, 2) := by decide +kernel
theorem dX7_mostAlike_7 : decode cX7_mostAlike 7 = .ok (.aload_n 0, 1) := by decide +kernel
theorem dX7_mostAlike_8 : decode cX7_mostAlike 8 = .ok (.getfield 7, 3) := by decide +kernel
theorem dX7_mostAlike_11 : decode cX7_mostAlike 11 = .ok (.iload_n 1, 1) := by decide +kernel
theorem dX7_mostAlike_12 : decode cX7_mostAlike 12 = .ok (.iaload, 1) := by decide +kernel
theorem dX7_mostAlike_13 : decode cX7_mostAlike 13 = .ok (.if_icmp .ge 50, 3) := by decide +kernel
theorem dX7_mostAlike_16 : decode cX7_mostAlike 16 = .ok (.aload_n 0, 1) := by decide +kernel
theorem dX7_mostAlike_17 : decode cX7_mostAlike 17 = .ok (.getfield 7, 3) := by decide +kernel
theorem dX7_mostAlike_20 : decode cX7_mostAlike 20 = .ok (.iload_n 1, 1) := by decide +kernel
theorem dX7_mostAlike_21 : decode cX7_mostAlike 21 = .ok (.iload 4, 2) := by decide +kernel
theorem dX7_mostAlike_23 : decode cX7_mostAlike 23 = .ok (.invokestatic 42, 3) := by decide +kernel
theorem dX7_mostAlike_26 : decode cX7_mostAlike 26 = .ok (.iaload, 1) := by decide +kernel
theorem dX7_mostAlike_27 : decode cX7_mostAlike 27 = .ok (.iload_n 2, 1) := by decide +kernel
theorem dX7_mostAlike_28 : decode cX7_mostAlike 28 = .ok (.iand, 1) := by decide +kernel
theorem dX7_mostAlike_29 : decode cX7_mostAlike 29 = .ok (.invokestatic 92, 3) := by decide +kernel
theorem dX7_mostAlike_32 : decode cX7_mostAlike 32 = .ok (.aload_n 0, 1) := by decide +kernel
theorem dX7_mostAlike_33 : decode cX7_mostAlike 33 = .ok (.getfield 7, 3) := by decide +kernel
theorem dX7_mostAlike_36 : decode cX7_mostAlike 36 = .ok (.iload_n 1, 1) := by decide +kernel
theorem dX7_mostAlike_37 : decode cX7_mostAlike 37 = .ok (.iload_n 3, 1) := by decide +kernel
theorem dX7_mostAlike_38 : decode cX7_mostAlike 38 = .ok (.invokestatic 42, 3) := by decide +kernel
theorem dX7_mostAlike_41 : decode cX7_mostAlike 41 = .ok (.iaload, 1) := by decide +kernel
theorem dX7_mostAlike_42 : decode cX7_mostAlike 42 = .ok (.iload_n 2, 1) := by decide +kernel
theorem dX7_mostAlike_43 : decode cX7_mostAlike 43 = .ok (.iand, 1) := by decide +kernel
theorem dX7_mostAlike_44 : decode cX7_mostAlike 44 = .ok (.invokestatic 92, 3) := by decide +kernel
theorem dX7_mostAlike_47 : decode cX7_mostAlike 47 = .ok (.if_icmp .le 8, 3) := by decide +kernel
theorem dX7_mostAlike_50 : decode cX7_mostAlike 50 = .ok (.iload 4, 2) := by decide +kernel
theorem dX7_mostAlike_52 : decode cX7_mostAlike 52 = .ok (.goto 4, 3) := by decide +kernel
theorem dX7_mostAlike_55 : decode cX7_mostAlike 55 = .ok (.iload_n 3, 1) := by decide +kernel
theorem dX7_mostAlike_56 : decode cX7_mostAlike 56 = .ok (.istore_n 3, 1) := by decide +kernel
theorem dX7_mostAlike_57 : decode cX7_mostAlike 57 = .ok (.iinc 4 1, 3) := by decide +kernel
theorem dX7_mostAlike_60 : decode cX7_mostAlike 60 = .ok (.goto (-55), 3) := by decide +kernel
theorem dX7_mostAlike_63 : decode cX7_mostAlike 63 = .ok (.iload_n 3, 1) := by decide +kernel
theorem dX7_mostAlike_64 : decode cX7_mostAlike 64 = .ok (.ireturn, 1) := by decide +kernel
theorem dX7_arriveAtRelay_0 : decode cX7_arriveAtRelay 0 = .ok (.aload_n 0, 1) := by decide +kernel
theorem dX7_arriveAtRelay_1 : decode cX7_arriveAtRelay 1 = .ok (.getfield 7, 3) := by decide +kernel
theorem dX7_arriveAtRelay_4 : decode cX7_arriveAtRelay 4 = .ok (.iconst 4, 1) := by decide +kernel
theorem dX7_arriveAtRelay_5 : decode cX7_arriveAtRelay 5 = .ok (.iaload, 1) := by decide +kernel
theorem dX7_arriveAtRelay_6 : decode cX7_arriveAtRelay 6 = .ok (.iconst 2, 1) := by decide +kernel
theorem dX7_arriveAtRelay_7 : decode cX7_arriveAtRelay 7 = .ok (.if_icmp .ne 12, 3) := by decide +kernel
theorem dX7_arriveAtRelay_10 : decode cX7_arriveAtRelay 10 = .ok (.aload_n 0, 1) := by decide +kernel
theorem dX7_arriveAtRelay_11 : decode cX7_arriveAtRelay 11 = .ok (.iload_n 1, 1) := by decide +kernel
theorem dX7_arriveAtRelay_12 : decode cX7_arriveAtRelay 12 = .ok (.iload_n 2, 1) := by decide +kernel
theorem dX7_arriveAtRelay_13 : decode cX7_arriveAtRelay 13 = .ok (.invokevirtual 95, 3) := by decide +kernel
theorem dX7_arriveAtRelay_16 : decode cX7_arriveAtRelay 16 = .ok (.ifCond .eq 7, 3) := by decide +kernel
theorem dX7_arriveAtRelay_19 : decode cX7_arriveAtRelay 19 = .ok (.iconst 1, 1) := by decide +kernel
theorem dX7_arriveAtRelay_20 : decode cX7_arriveAtRelay 20 = .ok (.goto 4, 3) := by decide +kernel
theorem dX7_arriveAtRelay_23 : decode cX7_arriveAtRelay 23 = .ok (.iconst 0, 1) := by decide +kernel
theorem dX7_arriveAtRelay_24 : decode cX7_arriveAtRelay 24 = .ok (.istore 4, 2) := by decide +kernel
theorem dX7_arriveAtRelay_26 : decode cX7_arriveAtRelay 26 = .ok (.aload_n 0, 1) := by decide +kernel
theorem dX7_arriveAtRelay_27 : decode cX7_arriveAtRelay 27 = .ok (.getfield 7, 3) := by decide +kernel
theorem dX7_arriveAtRelay_30 : decode cX7_arriveAtRelay 30 = .ok (.iload_n 1, 1) := by decide +kernel
theorem dX7_arriveAtRelay_31 : decode cX7_arriveAtRelay 31 = .ok (.iaload, 1) := by decide +kernel
theorem dX7_arriveAtRelay_32 : decode cX7_arriveAtRelay 32 = .ok (.aload_n 0, 1) := by decide +kernel
theorem dX7_arriveAtRelay_33 : decode cX7_arriveAtRelay 33 = .ok (.getfield 7, 3) := by decide +kernel
theorem dX7_arriveAtRelay_36 : decode cX7_arriveAtRelay 36 = .ok (.iconst 3, 1) := by decide +kernel
theorem dX7_arriveAtRelay_37 : decode cX7_arriveAtRelay 37 = .ok (.iaload, 1) := by decide +kernel
theorem dX7_arriveAtRelay_38 : decode cX7_arriveAtRelay 38 = .ok (.if_icmp .ge 16, 3) := by decide +kernel
theorem dX7_arriveAtRelay_41 : decode cX7_arriveAtRelay 41 = .ok (.iload 4, 2) := by decide +kernel
theorem dX7_arriveAtRelay_43 : decode cX7_arriveAtRelay 43 = .ok (.ifCond .eq 10, 3) := by decide +kernel
theorem dX7_arriveAtRelay_46 : decode cX7_arriveAtRelay 46 = .ok (.aload_n 0, 1) := by decide +kernel
theorem dX7_arriveAtRelay_47 : decode cX7_arriveAtRelay 47 = .ok (.iload_n 1, 1) := by decide +kernel
theorem dX7_arriveAtRelay_48 : decode cX7_arriveAtRelay 48 = .ok (.iload_n 2, 1) := by decide +kernel
theorem dX7_arriveAtRelay_49 : decode cX7_arriveAtRelay 49 = .ok (.iload_n 3, 1) := by decide +kernel
theorem dX7_arriveAtRelay_50 : decode cX7_arriveAtRelay 50 = .ok (.invokevirtual 88, 3) := by decide +kernel
theorem dX7_arriveAtRelay_53 : decode cX7_arriveAtRelay 53 = .ok (.return_, 1) := by decide +kernel
theorem dX7_arriveAtRelay_54 : decode cX7_arriveAtRelay 54 = .ok (.aload_n 0, 1) := by decide +kernel
theorem dX7_arriveAtRelay_55 : decode cX7_arriveAtRelay 55 = .ok (.getfield 7, 3) := by decide +kernel
theorem dX7_arriveAtRelay_58 : decode cX7_arriveAtRelay 58 = .ok (.iconst 4, 1) := by decide +kernel
theorem dX7_arriveAtRelay_59 : decode cX7_arriveAtRelay 59 = .ok (.iaload, 1) := by decide +kernel
theorem dX7_arriveAtRelay_60 : decode cX7_arriveAtRelay 60 = .ok (.tableswitch 73 0 2 #[28, 44, 47], 28) := by decide +kernel
theorem dX7_arriveAtRelay_88 : decode cX7_arriveAtRelay 88 = .ok (.aload_n 0, 1) := by decide +kernel
theorem dX7_arriveAtRelay_89 : decode cX7_arriveAtRelay 89 = .ok (.iload_n 1, 1) := by decide +kernel
theorem dX7_arriveAtRelay_90 : decode cX7_arriveAtRelay 90 = .ok (.iconst 0, 1) := by decide +kernel
theorem dX7_arriveAtRelay_91 : decode cX7_arriveAtRelay 91 = .ok (.invokevirtual 85, 3) := by decide +kernel
theorem dX7_arriveAtRelay_94 : decode cX7_arriveAtRelay 94 = .ok (.aload_n 0, 1) := by decide +kernel
theorem dX7_arriveAtRelay_95 : decode cX7_arriveAtRelay 95 = .ok (.iload_n 1, 1) := by decide +kernel
theorem dX7_arriveAtRelay_96 : decode cX7_arriveAtRelay 96 = .ok (.iload_n 2, 1) := by decide +kernel
theorem dX7_arriveAtRelay_97 : decode cX7_arriveAtRelay 97 = .ok (.iload_n 3, 1) := by decide +kernel
theorem dX7_arriveAtRelay_98 : decode cX7_arriveAtRelay 98 = .ok (.invokevirtual 88, 3) := by decide +kernel
theorem dX7_arriveAtRelay_101 : decode cX7_arriveAtRelay 101 = .ok (.goto 82, 3) := by decide +kernel
theorem dX7_arriveAtRelay_104 : decode cX7_arriveAtRelay 104 = .ok (.goto 79, 3) := by decide +kernel
theorem dX7_arriveAtRelay_107 : decode cX7_arriveAtRelay 107 = .ok (.iload 4, 2) := by decide +kernel
theorem dX7_arriveAtRelay_109 : decode cX7_arriveAtRelay 109 = .ok (.ifCond .eq 74, 3) := by decide +kernel
theorem dX7_arriveAtRelay_112 : decode cX7_arriveAtRelay 112 = .ok (.aload_n 0, 1) := by decide +kernel
theorem dX7_arriveAtRelay_113 : decode cX7_arriveAtRelay 113 = .ok (.iload_n 1, 1) := by decide +kernel
theorem dX7_arriveAtRelay_114 : decode cX7_arriveAtRelay 114 = .ok (.aload_n 0, 1) := by decide +kernel
theorem dX7_arriveAtRelay_115 : decode cX7_arriveAtRelay 115 = .ok (.iload_n 1, 1) := by decide +kernel
theorem dX7_arriveAtRelay_116 : decode cX7_arriveAtRelay 116 = .ok (.iload_n 2, 1) := by decide +kernel
theorem dX7_arriveAtRelay_117 : decode cX7_arriveAtRelay 117 = .ok (.invokevirtual 99, 3) := by decide +kernel
theorem dX7_arriveAtRelay_120 : decode cX7_arriveAtRelay 120 = .ok (.invokevirtual 85, 3) := by decide +kernel
theorem dX7_arriveAtRelay_123 : decode cX7_arriveAtRelay 123 = .ok (.aload_n 0, 1) := by decide +kernel
theorem dX7_arriveAtRelay_124 : decode cX7_arriveAtRelay 124 = .ok (.iload_n 1, 1) := by decide +kernel
theorem dX7_arriveAtRelay_125 : decode cX7_arriveAtRelay 125 = .ok (.iload_n 2, 1) := by decide +kernel
theorem dX7_arriveAtRelay_126 : decode cX7_arriveAtRelay 126 = .ok (.iload_n 3, 1) := by decide +kernel
theorem dX7_arriveAtRelay_127 : decode cX7_arriveAtRelay 127 = .ok (.invokevirtual 88, 3) := by decide +kernel
theorem dX7_arriveAtRelay_130 : decode cX7_arriveAtRelay 130 = .ok (.goto 53, 3) := by decide +kernel
theorem dX7_arriveAtRelay_133 : decode cX7_arriveAtRelay 133 = .ok (.aload_n 0, 1) := by decide +kernel
theorem dX7_arriveAtRelay_134 : decode cX7_arriveAtRelay 134 = .ok (.getfield 7, 3) := by decide +kernel
theorem dX7_arriveAtRelay_137 : decode cX7_arriveAtRelay 137 = .ok (.iload_n 1, 1) := by decide +kernel
theorem dX7_arriveAtRelay_138 : decode cX7_arriveAtRelay 138 = .ok (.iconst 0, 1) := by decide +kernel
theorem dX7_arriveAtRelay_139 : decode cX7_arriveAtRelay 139 = .ok (.invokestatic 42, 3) := by decide +kernel
theorem dX7_arriveAtRelay_142 : decode cX7_arriveAtRelay 142 = .ok (.iaload, 1) := by decide +kernel
theorem dX7_arriveAtRelay_143 : decode cX7_arriveAtRelay 143 = .ok (.iload_n 2, 1) := by decide +kernel
theorem dX7_arriveAtRelay_144 : decode cX7_arriveAtRelay 144 = .ok (.ixor, 1) := by decide +kernel
theorem dX7_arriveAtRelay_145 : decode cX7_arriveAtRelay 145 = .ok (.istore 5, 2) := by decide +kernel
theorem dX7_arriveAtRelay_147 : decode cX7_arriveAtRelay 147 = .ok (.aload_n 0, 1) := by decide +kernel
theorem dX7_arriveAtRelay_148 : decode cX7_arriveAtRelay 148 = .ok (.getfield 7, 3) := by decide +kernel
theorem dX7_arriveAtRelay_151 : decode cX7_arriveAtRelay 151 = .ok (.iload_n 1, 1) := by decide +kernel
theorem dX7_arriveAtRelay_152 : decode cX7_arriveAtRelay 152 = .ok (.iconst 0, 1) := by decide +kernel
theorem dX7_arriveAtRelay_153 : decode cX7_arriveAtRelay 153 = .ok (.invokestatic 42, 3) := by decide +kernel
theorem dX7_arriveAtRelay_156 : decode cX7_arriveAtRelay 156 = .ok (.iconst 1, 1) := by decide +kernel
theorem dX7_arriveAtRelay_157 : decode cX7_arriveAtRelay 157 = .ok (.iadd, 1) := by decide +kernel
theorem dX7_arriveAtRelay_158 : decode cX7_arriveAtRelay 158 = .ok (.iaload, 1) := by decide +kernel
theorem dX7_arriveAtRelay_159 : decode cX7_arriveAtRelay 159 = .ok (.iload_n 3, 1) := by decide +kernel
theorem dX7_arriveAtRelay_160 : decode cX7_arriveAtRelay 160 = .ok (.ixor, 1) := by decide +kernel
theorem dX7_arriveAtRelay_161 : decode cX7_arriveAtRelay 161 = .ok (.istore 6, 2) := by decide +kernel
theorem dX7_arriveAtRelay_163 : decode cX7_arriveAtRelay 163 = .ok (.aload_n 0, 1) := by decide +kernel
theorem dX7_arriveAtRelay_164 : decode cX7_arriveAtRelay 164 = .ok (.iload_n 1, 1) := by decide +kernel
theorem dX7_arriveAtRelay_165 : decode cX7_arriveAtRelay 165 = .ok (.iconst 0, 1) := by decide +kernel
theorem dX7_arriveAtRelay_166 : decode cX7_arriveAtRelay 166 = .ok (.invokevirtual 85, 3) := by decide +kernel
theorem dX7_arriveAtRelay_169 : decode cX7_arriveAtRelay 169 = .ok (.iload 5, 2) := by decide +kernel
theorem dX7_arriveAtRelay_171 : decode cX7_arriveAtRelay 171 = .ok (.ifCond .eq 12, 3) := by decide +kernel
theorem dX7_arriveAtRelay_174 : decode cX7_arriveAtRelay 174 = .ok (.aload_n 0, 1) := by decide +kernel
theorem dX7_arriveAtRelay_175 : decode cX7_arriveAtRelay 175 = .ok (.iload_n 1, 1) := by decide +kernel
theorem dX7_arriveAtRelay_176 : decode cX7_arriveAtRelay 176 = .ok (.iload 5, 2) := by decide +kernel
theorem dX7_arriveAtRelay_178 : decode cX7_arriveAtRelay 178 = .ok (.iload 6, 2) := by decide +kernel
theorem dX7_arriveAtRelay_180 : decode cX7_arriveAtRelay 180 = .ok (.invokevirtual 88, 3) := by decide +kernel
theorem dX7_arriveAtRelay_183 : decode cX7_arriveAtRelay 183 = .ok (.return_, 1) := by decide +kernel
theorem dX7_learn_0 : decode cX7_learn 0 = .ok (.aload_n 0, 1) := by decide +kernel
theorem dX7_learn_1 : decode cX7_learn 1 = .ok (.getfield 7, 3) := by decide +kernel
theorem dX7_learn_4 : decode cX7_learn 4 = .ok (.bipush 86, 2) := by decide +kernel
theorem dX7_learn_6 : decode cX7_learn 6 = .ok (.iload_n 1, 1) := by decide +kernel
theorem dX7_learn_7 : decode cX7_learn 7 = .ok (.iadd, 1) := by decide +kernel
theorem dX7_learn_8 : decode cX7_learn 8 = .ok (.iload_n 2, 1) := by decide +kernel
theorem dX7_learn_9 : decode cX7_learn 9 = .ok (.iastore, 1) := by decide +kernel
theorem dX7_learn_10 : decode cX7_learn 10 = .ok (.aload_n 0, 1) := by decide +kernel
theorem dX7_learn_11 : decode cX7_learn 11 = .ok (.getfield 7, 3) := by decide +kernel
theorem dX7_learn_14 : decode cX7_learn 14 = .ok (.bipush 98, 2) := by decide +kernel
theorem dX7_learn_16 : decode cX7_learn 16 = .ok (.iload_n 1, 1) := by decide +kernel
theorem dX7_learn_17 : decode cX7_learn 17 = .ok (.iadd, 1) := by decide +kernel
theorem dX7_learn_18 : decode cX7_learn 18 = .ok (.aload_n 0, 1) := by decide +kernel
theorem dX7_learn_19 : decode cX7_learn 19 = .ok (.getfield 7, 3) := by decide +kernel
theorem dX7_learn_22 : decode cX7_learn 22 = .ok (.iconst 2, 1) := by decide +kernel
theorem dX7_learn_23 : decode cX7_learn 23 = .ok (.iaload, 1) := by decide +kernel
theorem dX7_learn_24 : decode cX7_learn 24 = .ok (.iastore, 1) := by decide +kernel
theorem dX7_learn_25 : decode cX7_learn 25 = .ok (.aload_n 0, 1) := by decide +kernel
theorem dX7_learn_26 : decode cX7_learn 26 = .ok (.getfield 7, 3) := by decide +kernel
theorem dX7_learn_29 : decode cX7_learn 29 = .ok (.bipush 122, 2) := by decide +kernel
theorem dX7_learn_31 : decode cX7_learn 31 = .ok (.iaload, 1) := by decide +kernel
theorem dX7_learn_32 : decode cX7_learn 32 = .ok (.iconst 1, 1) := by decide +kernel
theorem dX7_learn_33 : decode cX7_learn 33 = .ok (.isub, 1) := by decide +kernel
theorem dX7_learn_34 : decode cX7_learn 34 = .ok (.istore_n 3, 1) := by decide +kernel
theorem dX7_learn_35 : decode cX7_learn 35 = .ok (.iload_n 3, 1) := by decide +kernel
theorem dX7_learn_36 : decode cX7_learn 36 = .ok (.ifCond .lt 75, 3) := by decide +kernel
theorem dX7_learn_39 : decode cX7_learn 39 = .ok (.bipush 122, 2) := by decide +kernel
theorem dX7_learn_41 : decode cX7_learn 41 = .ok (.iload_n 3, 1) := by decide +kernel
theorem dX7_learn_42 : decode cX7_learn 42 = .ok (.invokestatic 42, 3) := by decide +kernel
theorem dX7_learn_45 : decode cX7_learn 45 = .ok (.istore 4, 2) := by decide +kernel
theorem dX7_learn_47 : decode cX7_learn 47 = .ok (.aload_n 0, 1) := by decide +kernel
theorem dX7_learn_48 : decode cX7_learn 48 = .ok (.getfield 7, 3) := by decide +kernel
theorem dX7_learn_51 : decode cX7_learn 51 = .ok (.iload 4, 2) := by decide +kernel
theorem dX7_learn_53 : decode cX7_learn 53 = .ok (.iaload, 1) := by decide +kernel
theorem dX7_learn_54 : decode cX7_learn 54 = .ok (.iload_n 1, 1) := by decide +kernel
theorem dX7_learn_55 : decode cX7_learn 55 = .ok (.ishr, 1) := by decide +kernel
theorem dX7_learn_56 : decode cX7_learn 56 = .ok (.iconst 1, 1) := by decide +kernel
theorem dX7_learn_57 : decode cX7_learn 57 = .ok (.iand, 1) := by decide +kernel
theorem dX7_learn_58 : decode cX7_learn 58 = .ok (.iconst 1, 1) := by decide +kernel
theorem dX7_learn_59 : decode cX7_learn 59 = .ok (.if_icmp .ne 29, 3) := by decide +kernel
theorem dX7_learn_62 : decode cX7_learn 62 = .ok (.aload_n 0, 1) := by decide +kernel
theorem dX7_learn_63 : decode cX7_learn 63 = .ok (.getfield 7, 3) := by decide +kernel
theorem dX7_learn_66 : decode cX7_learn 66 = .ok (.iload 4, 2) := by decide +kernel
theorem dX7_learn_68 : decode cX7_learn 68 = .ok (.dup2, 1) := by decide +kernel
theorem dX7_learn_69 : decode cX7_learn 69 = .ok (.iaload, 1) := by decide +kernel
theorem dX7_learn_70 : decode cX7_learn 70 = .ok (.iconst 1, 1) := by decide +kernel
theorem dX7_learn_71 : decode cX7_learn 71 = .ok (.iload_n 1, 1) := by decide +kernel
theorem dX7_learn_72 : decode cX7_learn 72 = .ok (.ishl, 1) := by decide +kernel
theorem dX7_learn_73 : decode cX7_learn 73 = .ok (.ixor, 1) := by decide +kernel
theorem dX7_learn_74 : decode cX7_learn 74 = .ok (.iastore, 1) := by decide +kernel
theorem dX7_learn_75 : decode cX7_learn 75 = .ok (.aload_n 0, 1) := by decide +kernel
theorem dX7_learn_76 : decode cX7_learn 76 = .ok (.getfield 7, 3) := by decide +kernel
theorem dX7_learn_79 : decode cX7_learn 79 = .ok (.iload 4, 2) := by decide +kernel
theorem dX7_learn_81 : decode cX7_learn 81 = .ok (.iconst 1, 1) := by decide +kernel
theorem dX7_learn_82 : decode cX7_learn 82 = .ok (.iadd, 1) := by decide +kernel
theorem dX7_learn_83 : decode cX7_learn 83 = .ok (.dup2, 1) := by decide +kernel
theorem dX7_learn_84 : decode cX7_learn 84 = .ok (.iaload, 1) := by decide +kernel
theorem dX7_learn_85 : decode cX7_learn 85 = .ok (.iload_n 2, 1) := by decide +kernel
theorem dX7_learn_86 : decode cX7_learn 86 = .ok (.ixor, 1) := by decide +kernel
theorem dX7_learn_87 : decode cX7_learn 87 = .ok (.iastore, 1) := by decide +kernel
theorem dX7_learn_88 : decode cX7_learn 88 = .ok (.aload_n 0, 1) := by decide +kernel
theorem dX7_learn_89 : decode cX7_learn 89 = .ok (.getfield 7, 3) := by decide +kernel
theorem dX7_learn_92 : decode cX7_learn 92 = .ok (.iload 4, 2) := by decide +kernel
theorem dX7_learn_94 : decode cX7_learn 94 = .ok (.iaload, 1) := by decide +kernel
theorem dX7_learn_95 : decode cX7_learn 95 = .ok (.ifCond .ne 10, 3) := by decide +kernel
theorem dX7_learn_98 : decode cX7_learn 98 = .ok (.aload_n 0, 1) := by decide +kernel
theorem dX7_learn_99 : decode cX7_learn 99 = .ok (.bipush 122, 2) := by decide +kernel
theorem dX7_learn_101 : decode cX7_learn 101 = .ok (.iload_n 3, 1) := by decide +kernel
theorem dX7_learn_102 : decode cX7_learn 102 = .ok (.invokevirtual 85, 3) := by decide +kernel
theorem dX7_learn_105 : decode cX7_learn 105 = .ok (.iinc 3 (-1), 3) := by decide +kernel
theorem dX7_learn_108 : decode cX7_learn 108 = .ok (.goto (-73), 3) := by decide +kernel
theorem dX7_learn_111 : decode cX7_learn 111 = .ok (.return_, 1) := by decide +kernel
theorem dX7_firstAlone_0 : decode cX7_firstAlone 0 = .ok (.iconst 0, 1) := by decide +kernel
theorem dX7_firstAlone_1 : decode cX7_firstAlone 1 = .ok (.istore_n 1, 1) := by decide +kernel
theorem dX7_firstAlone_2 : decode cX7_firstAlone 2 = .ok (.iload_n 1, 1) := by decide +kernel
theorem dX7_firstAlone_3 : decode cX7_firstAlone 3 = .ok (.aload_n 0, 1) := by decide +kernel
theorem dX7_firstAlone_4 : decode cX7_firstAlone 4 = .ok (.getfield 7, 3) := by decide +kernel
theorem dX7_firstAlone_7 : decode cX7_firstAlone 7 = .ok (.bipush 122, 2) := by decide +kernel
theorem dX7_firstAlone_9 : decode cX7_firstAlone 9 = .ok (.iaload, 1) := by decide +kernel
theorem dX7_firstAlone_10 : decode cX7_firstAlone 10 = .ok (.if_icmp .ge 29, 3) := by decide +kernel
theorem dX7_firstAlone_13 : decode cX7_firstAlone 13 = .ok (.aload_n 0, 1) := by decide +kernel
theorem dX7_firstAlone_14 : decode cX7_firstAlone 14 = .ok (.getfield 7, 3) := by decide +kernel
theorem dX7_firstAlone_17 : decode cX7_firstAlone 17 = .ok (.bipush 122, 2) := by decide +kernel
theorem dX7_firstAlone_19 : decode cX7_firstAlone 19 = .ok (.iload_n 1, 1) := by decide +kernel
theorem dX7_firstAlone_20 : decode cX7_firstAlone 20 = .ok (.invokestatic 42, 3) := by decide +kernel
theorem dX7_firstAlone_23 : decode cX7_firstAlone 23 = .ok (.iaload, 1) := by decide +kernel
theorem dX7_firstAlone_24 : decode cX7_firstAlone 24 = .ok (.invokestatic 92, 3) := by decide +kernel
theorem dX7_firstAlone_27 : decode cX7_firstAlone 27 = .ok (.iconst 1, 1) := by decide +kernel
theorem dX7_firstAlone_28 : decode cX7_firstAlone 28 = .ok (.if_icmp .ne 5, 3) := by decide +kernel
theorem dX7_firstAlone_31 : decode cX7_firstAlone 31 = .ok (.iload_n 1, 1) := by decide +kernel
theorem dX7_firstAlone_32 : decode cX7_firstAlone 32 = .ok (.ireturn, 1) := by decide +kernel
theorem dX7_firstAlone_33 : decode cX7_firstAlone 33 = .ok (.iinc 1 1, 3) := by decide +kernel
theorem dX7_firstAlone_36 : decode cX7_firstAlone 36 = .ok (.goto (-34), 3) := by decide +kernel
theorem dX7_firstAlone_39 : decode cX7_firstAlone 39 = .ok (.bipush (-9), 2) := by decide +kernel
theorem dX7_firstAlone_41 : decode cX7_firstAlone 41 = .ok (.ireturn, 1) := by decide +kernel
theorem dX7_peel_0 : decode cX7_peel 0 = .ok (.iload_n 1, 1) := by decide +kernel
theorem dX7_peel_1 : decode cX7_peel 1 = .ok (.istore_n 3, 1) := by decide +kernel
theorem dX7_peel_2 : decode cX7_peel 2 = .ok (.iload_n 2, 1) := by decide +kernel
theorem dX7_peel_3 : decode cX7_peel 3 = .ok (.istore 4, 2) := by decide +kernel
theorem dX7_peel_5 : decode cX7_peel 5 = .ok (.iconst 0, 1) := by decide +kernel
theorem dX7_peel_6 : decode cX7_peel 6 = .ok (.istore 5, 2) := by decide +kernel
theorem dX7_peel_8 : decode cX7_peel 8 = .ok (.iload 5, 2) := by decide +kernel
theorem dX7_peel_10 : decode cX7_peel 10 = .ok (.aload_n 0, 1) := by decide +kernel
theorem dX7_peel_11 : decode cX7_peel 11 = .ok (.getfield 7, 3) := by decide +kernel
theorem dX7_peel_14 : decode cX7_peel 14 = .ok (.iconst 0, 1) := by decide +kernel
theorem dX7_peel_15 : decode cX7_peel 15 = .ok (.iaload, 1) := by decide +kernel
theorem dX7_peel_16 : decode cX7_peel 16 = .ok (.if_icmp .ge 56, 3) := by decide +kernel
theorem dX7_peel_19 : decode cX7_peel 19 = .ok (.iload_n 1, 1) := by decide +kernel
theorem dX7_peel_20 : decode cX7_peel 20 = .ok (.iload 5, 2) := by decide +kernel
theorem dX7_peel_22 : decode cX7_peel 22 = .ok (.ishr, 1) := by decide +kernel
theorem dX7_peel_23 : decode cX7_peel 23 = .ok (.iconst 1, 1) := by decide +kernel
theorem dX7_peel_24 : decode cX7_peel 24 = .ok (.iand, 1) := by decide +kernel
theorem dX7_peel_25 : decode cX7_peel 25 = .ok (.iconst 1, 1) := by decide +kernel
theorem dX7_peel_26 : decode cX7_peel 26 = .ok (.if_icmp .ne 40, 3) := by decide +kernel
theorem dX7_peel_29 : decode cX7_peel 29 = .ok (.aload_n 0, 1) := by decide +kernel
theorem dX7_peel_30 : decode cX7_peel 30 = .ok (.getfield 7, 3) := by decide +kernel
theorem dX7_peel_33 : decode cX7_peel 33 = .ok (.bipush 86, 2) := by decide +kernel
theorem dX7_peel_35 : decode cX7_peel 35 = .ok (.iload 5, 2) := by decide +kernel
theorem dX7_peel_37 : decode cX7_peel 37 = .ok (.iadd, 1) := by decide +kernel
theorem dX7_peel_38 : decode cX7_peel 38 = .ok (.iaload, 1) := by decide +kernel
theorem dX7_peel_39 : decode cX7_peel 39 = .ok (.bipush (-9), 2) := by decide +kernel
theorem dX7_peel_41 : decode cX7_peel 41 = .ok (.if_icmp .eq 25, 3) := by decide +kernel
theorem dX7_peel_44 : decode cX7_peel 44 = .ok (.iload_n 3, 1) := by decide +kernel
theorem dX7_peel_45 : decode cX7_peel 45 = .ok (.iconst 1, 1) := by decide +kernel
theorem dX7_peel_46 : decode cX7_peel 46 = .ok (.iload 5, 2) := by decide +kernel
theorem dX7_peel_48 : decode cX7_peel 48 = .ok (.ishl, 1) := by decide +kernel
theorem dX7_peel_49 : decode cX7_peel 49 = .ok (.ixor, 1) := by decide +kernel
theorem dX7_peel_50 : decode cX7_peel 50 = .ok (.istore_n 3, 1) := by decide +kernel
theorem dX7_peel_51 : decode cX7_peel 51 = .ok (.iload 4, 2) := by decide +kernel
theorem dX7_peel_53 : decode cX7_peel 53 = .ok (.aload_n 0, 1) := by decide +kernel
theorem dX7_peel_54 : decode cX7_peel 54 = .ok (.getfield 7, 3) := by decide +kernel
theorem dX7_peel_57 : decode cX7_peel 57 = .ok (.bipush 86, 2) := by decide +kernel
theorem dX7_peel_59 : decode cX7_peel 59 = .ok (.iload 5, 2) := by decide +kernel
theorem dX7_peel_61 : decode cX7_peel 61 = .ok (.iadd, 1) := by decide +kernel
theorem dX7_peel_62 : decode cX7_peel 62 = .ok (.iaload, 1) := by decide +kernel
theorem dX7_peel_63 : decode cX7_peel 63 = .ok (.ixor, 1) := by decide +kernel
theorem dX7_peel_64 : decode cX7_peel 64 = .ok (.istore 4, 2) := by decide +kernel
theorem dX7_peel_66 : decode cX7_peel 66 = .ok (.iinc 5 1, 3) := by decide +kernel
theorem dX7_peel_69 : decode cX7_peel 69 = .ok (.goto (-61), 3) := by decide +kernel
theorem dX7_peel_72 : decode cX7_peel 72 = .ok (.iload_n 3, 1) := by decide +kernel
theorem dX7_peel_73 : decode cX7_peel 73 = .ok (.invokestatic 92, 3) := by decide +kernel
theorem dX7_peel_76 : decode cX7_peel 76 = .ok (.iconst 1, 1) := by decide +kernel
theorem dX7_peel_77 : decode cX7_peel 77 = .ok (.if_icmp .le 31, 3) := by decide +kernel
theorem dX7_peel_80 : decode cX7_peel 80 = .ok (.aload_n 0, 1) := by decide +kernel
theorem dX7_peel_81 : decode cX7_peel 81 = .ok (.bipush 122, 2) := by decide +kernel
theorem dX7_peel_83 : decode cX7_peel 83 = .ok (.iload_n 3, 1) := by decide +kernel
theorem dX7_peel_84 : decode cX7_peel 84 = .ok (.iload 4, 2) := by decide +kernel
theorem dX7_peel_86 : decode cX7_peel 86 = .ok (.invokevirtual 88, 3) := by decide +kernel
theorem dX7_peel_89 : decode cX7_peel 89 = .ok (.aload_n 0, 1) := by decide +kernel
theorem dX7_peel_90 : decode cX7_peel 90 = .ok (.getfield 7, 3) := by decide +kernel
theorem dX7_peel_93 : decode cX7_peel 93 = .ok (.bipush 122, 2) := by decide +kernel
theorem dX7_peel_95 : decode cX7_peel 95 = .ok (.iaload, 1) := by decide +kernel
theorem dX7_peel_96 : decode cX7_peel 96 = .ok (.bipush 20, 2) := by decide +kernel
theorem dX7_peel_98 : decode cX7_peel 98 = .ok (.if_icmp .le 10, 3) := by decide +kernel
theorem dX7_peel_101 : decode cX7_peel 101 = .ok (.aload_n 0, 1) := by decide +kernel
theorem dX7_peel_102 : decode cX7_peel 102 = .ok (.bipush 122, 2) := by decide +kernel
theorem dX7_peel_104 : decode cX7_peel 104 = .ok (.iconst 0, 1) := by decide +kernel
theorem dX7_peel_105 : decode cX7_peel 105 = .ok (.invokevirtual 85, 3) := by decide +kernel
theorem dX7_peel_108 : decode cX7_peel 108 = .ok (.iload_n 3, 1) := by decide +kernel
theorem dX7_peel_109 : decode cX7_peel 109 = .ok (.invokestatic 92, 3) := by decide +kernel
theorem dX7_peel_112 : decode cX7_peel 112 = .ok (.iconst 1, 1) := by decide +kernel
theorem dX7_peel_113 : decode cX7_peel 113 = .ok (.if_icmp .ne 84, 3) := by decide +kernel
theorem dX7_peel_116 : decode cX7_peel 116 = .ok (.aload_n 0, 1) := by decide +kernel
theorem dX7_peel_117 : decode cX7_peel 117 = .ok (.iload_n 3, 1) := by decide +kernel
theorem dX7_peel_118 : decode cX7_peel 118 = .ok (.invokestatic 102, 3) := by decide +kernel
theorem dX7_peel_121 : decode cX7_peel 121 = .ok (.iload 4, 2) := by decide +kernel
theorem dX7_peel_123 : decode cX7_peel 123 = .ok (.invokevirtual 105, 3) := by decide +kernel
theorem dX7_peel_126 : decode cX7_peel 126 = .ok (.aload_n 0, 1) := by decide +kernel
theorem dX7_peel_127 : decode cX7_peel 127 = .ok (.invokevirtual 108, 3) := by decide +kernel
theorem dX7_peel_130 : decode cX7_peel 130 = .ok (.istore 5, 2) := by decide +kernel
theorem dX7_peel_132 : decode cX7_peel 132 = .ok (.iload 5, 2) := by decide +kernel
theorem dX7_peel_134 : decode cX7_peel 134 = .ok (.bipush (-9), 2) := by decide +kernel
theorem dX7_peel_136 : decode cX7_peel 136 = .ok (.if_icmp .eq 61, 3) := by decide +kernel
theorem dX7_peel_139 : decode cX7_peel 139 = .ok (.aload_n 0, 1) := by decide +kernel
theorem dX7_peel_140 : decode cX7_peel 140 = .ok (.getfield 7, 3) := by decide +kernel
theorem dX7_peel_143 : decode cX7_peel 143 = .ok (.bipush 122, 2) := by decide +kernel
theorem dX7_peel_145 : decode cX7_peel 145 = .ok (.iload 5, 2) := by decide +kernel
theorem dX7_peel_147 : decode cX7_peel 147 = .ok (.invokestatic 42, 3) := by decide +kernel
theorem dX7_peel_150 : decode cX7_peel 150 = .ok (.iaload, 1) := by decide +kernel
theorem dX7_peel_151 : decode cX7_peel 151 = .ok (.istore 6, 2) := by decide +kernel
theorem dX7_peel_153 : decode cX7_peel 153 = .ok (.aload_n 0, 1) := by decide +kernel
theorem dX7_peel_154 : decode cX7_peel 154 = .ok (.getfield 7, 3) := by decide +kernel
theorem dX7_peel_157 : decode cX7_peel 157 = .ok (.bipush 122, 2) := by decide +kernel
theorem dX7_peel_159 : decode cX7_peel 159 = .ok (.iload 5, 2) := by decide +kernel
theorem dX7_peel_161 : decode cX7_peel 161 = .ok (.invokestatic 42, 3) := by decide +kernel
theorem dX7_peel_164 : decode cX7_peel 164 = .ok (.iconst 1, 1) := by decide +kernel
theorem dX7_peel_165 : decode cX7_peel 165 = .ok (.iadd, 1) := by decide +kernel
theorem dX7_peel_166 : decode cX7_peel 166 = .ok (.iaload, 1) := by decide +kernel
theorem dX7_peel_167 : decode cX7_peel 167 = .ok (.istore 7, 2) := by decide +kernel
theorem dX7_peel_169 : decode cX7_peel 169 = .ok (.aload_n 0, 1) := by decide +kernel
theorem dX7_peel_170 : decode cX7_peel 170 = .ok (.bipush 122, 2) := by decide +kernel
theorem dX7_peel_172 : decode cX7_peel 172 = .ok (.iload 5, 2) := by decide +kernel
theorem dX7_peel_174 : decode cX7_peel 174 = .ok (.invokevirtual 85, 3) := by decide +kernel
theorem dX7_peel_177 : decode cX7_peel 177 = .ok (.aload_n 0, 1) := by decide +kernel
theorem dX7_peel_178 : decode cX7_peel 178 = .ok (.iload 6, 2) := by decide +kernel
theorem dX7_peel_180 : decode cX7_peel 180 = .ok (.invokestatic 102, 3) := by decide +kernel
theorem dX7_peel_183 : decode cX7_peel 183 = .ok (.iload 7, 2) := by decide +kernel
theorem dX7_peel_185 : decode cX7_peel 185 = .ok (.invokevirtual 105, 3) := by decide +kernel
theorem dX7_peel_188 : decode cX7_peel 188 = .ok (.aload_n 0, 1) := by decide +kernel
theorem dX7_peel_189 : decode cX7_peel 189 = .ok (.invokevirtual 108, 3) := by decide +kernel
theorem dX7_peel_192 : decode cX7_peel 192 = .ok (.istore 5, 2) := by decide +kernel
theorem dX7_peel_194 : decode cX7_peel 194 = .ok (.goto (-62), 3) := by decide +kernel
theorem dX7_peel_197 : decode cX7_peel 197 = .ok (.return_, 1) := by decide +kernel
theorem dX7_solved_0 : decode cX7_solved 0 = .ok (.aload_n 0, 1) := by decide +kernel
theorem dX7_solved_1 : decode cX7_solved 1 = .ok (.iconst 1, 1) := by decide +kernel
theorem dX7_solved_2 : decode cX7_solved 2 = .ok (.iload_n 1, 1) := by decide +kernel
theorem dX7_solved_3 : decode cX7_solved 3 = .ok (.ishl, 1) := by decide +kernel
theorem dX7_solved_4 : decode cX7_solved 4 = .ok (.iconst 0, 1) := by decide +kernel
theorem dX7_solved_5 : decode cX7_solved 5 = .ok (.invokevirtual 52, 3) := by decide +kernel
theorem dX7_solved_8 : decode cX7_solved 8 = .ok (.aload_n 0, 1) := by decide +kernel
theorem dX7_solved_9 : decode cX7_solved 9 = .ok (.getfield 46, 3) := by decide +kernel
theorem dX7_solved_12 : decode cX7_solved 12 = .ok (.ifCond .ne 10, 3) := by decide +kernel
theorem dX7_solved_15 : decode cX7_solved 15 = .ok (.aload_n 0, 1) := by decide +kernel
theorem dX7_solved_16 : decode cX7_solved 16 = .ok (.getfield 49, 3) := by decide +kernel
theorem dX7_solved_19 : decode cX7_solved 19 = .ok (.goto 5, 3) := by decide +kernel
theorem dX7_solved_22 : decode cX7_solved 22 = .ok (.bipush (-9), 2) := by decide +kernel
theorem dX7_solved_24 : decode cX7_solved 24 = .ok (.ireturn, 1) := by decide +kernel
theorem dX7_arriveAtReceiver_0 : decode cX7_arriveAtReceiver 0 = .ok (.aload_n 0, 1) := by decide +kernel
theorem dX7_arriveAtReceiver_1 : decode cX7_arriveAtReceiver 1 = .ok (.getfield 7, 3) := by decide +kernel
theorem dX7_arriveAtReceiver_4 : decode cX7_arriveAtReceiver 4 = .ok (.bipush 31, 2) := by decide +kernel
theorem dX7_arriveAtReceiver_6 : decode cX7_arriveAtReceiver 6 = .ok (.dup2, 1) := by decide +kernel
theorem dX7_arriveAtReceiver_7 : decode cX7_arriveAtReceiver 7 = .ok (.iaload, 1) := by decide +kernel
theorem dX7_arriveAtReceiver_8 : decode cX7_arriveAtReceiver 8 = .ok (.iconst 1, 1) := by decide +kernel
theorem dX7_arriveAtReceiver_9 : decode cX7_arriveAtReceiver 9 = .ok (.iadd, 1) := by decide +kernel
theorem dX7_arriveAtReceiver_10 : decode cX7_arriveAtReceiver 10 = .ok (.iastore, 1) := by decide +kernel
theorem dX7_arriveAtReceiver_11 : decode cX7_arriveAtReceiver 11 = .ok (.aload_n 0, 1) := by decide +kernel
theorem dX7_arriveAtReceiver_12 : decode cX7_arriveAtReceiver 12 = .ok (.iload_n 1, 1) := by decide +kernel
theorem dX7_arriveAtReceiver_13 : decode cX7_arriveAtReceiver 13 = .ok (.iload_n 2, 1) := by decide +kernel
theorem dX7_arriveAtReceiver_14 : decode cX7_arriveAtReceiver 14 = .ok (.invokevirtual 111, 3) := by decide +kernel
theorem dX7_arriveAtReceiver_17 : decode cX7_arriveAtReceiver 17 = .ok (.aload_n 0, 1) := by decide +kernel
theorem dX7_arriveAtReceiver_18 : decode cX7_arriveAtReceiver 18 = .ok (.bipush 61, 2) := by decide +kernel
theorem dX7_arriveAtReceiver_20 : decode cX7_arriveAtReceiver 20 = .ok (.iload_n 1, 1) := by decide +kernel
theorem dX7_arriveAtReceiver_21 : decode cX7_arriveAtReceiver 21 = .ok (.invokevirtual 95, 3) := by decide +kernel
theorem dX7_arriveAtReceiver_24 : decode cX7_arriveAtReceiver 24 = .ok (.ifCond .ne 16, 3) := by decide +kernel
theorem dX7_arriveAtReceiver_27 : decode cX7_arriveAtReceiver 27 = .ok (.aload_n 0, 1) := by decide +kernel
theorem dX7_arriveAtReceiver_28 : decode cX7_arriveAtReceiver 28 = .ok (.getfield 7, 3) := by decide +kernel
theorem dX7_arriveAtReceiver_31 : decode cX7_arriveAtReceiver 31 = .ok (.bipush 32, 2) := by decide +kernel
end
section
theorem dX7_arriveAtReceiver_33 : decode cX7_arriveAtReceiver 33 = .ok (.dup2, 1) := by decide +kernel
theorem dX7_arriveAtReceiver_34 : decode cX7_arriveAtReceiver 34 = .ok (.iaload, 1) := by decide +kernel
theorem dX7_arriveAtReceiver_35 : decode cX7_arriveAtReceiver 35 = .ok (.iconst 1, 1) := by decide +kernel
theorem dX7_arriveAtReceiver_36 : decode cX7_arriveAtReceiver 36 = .ok (.iadd, 1) := by decide +kernel
theorem dX7_arriveAtReceiver_37 : decode cX7_arriveAtReceiver 37 = .ok (.iastore, 1) := by decide +kernel
theorem dX7_arriveAtReceiver_38 : decode cX7_arriveAtReceiver 38 = .ok (.iconst 0, 1) := by decide +kernel
theorem dX7_arriveAtReceiver_39 : decode cX7_arriveAtReceiver 39 = .ok (.ireturn, 1) := by decide +kernel
theorem dX7_arriveAtReceiver_40 : decode cX7_arriveAtReceiver 40 = .ok (.aload_n 0, 1) := by decide +kernel
theorem dX7_arriveAtReceiver_41 : decode cX7_arriveAtReceiver 41 = .ok (.bipush 61, 2) := by decide +kernel
theorem dX7_arriveAtReceiver_43 : decode cX7_arriveAtReceiver 43 = .ok (.iload_n 1, 1) := by decide +kernel
theorem dX7_arriveAtReceiver_44 : decode cX7_arriveAtReceiver 44 = .ok (.iload_n 2, 1) := by decide +kernel
theorem dX7_arriveAtReceiver_45 : decode cX7_arriveAtReceiver 45 = .ok (.invokevirtual 88, 3) := by decide +kernel
theorem dX7_arriveAtReceiver_48 : decode cX7_arriveAtReceiver 48 = .ok (.aload_n 0, 1) := by decide +kernel
theorem dX7_arriveAtReceiver_49 : decode cX7_arriveAtReceiver 49 = .ok (.bipush 61, 2) := by decide +kernel
theorem dX7_arriveAtReceiver_51 : decode cX7_arriveAtReceiver 51 = .ok (.invokevirtual 59, 3) := by decide +kernel
theorem dX7_arriveAtReceiver_54 : decode cX7_arriveAtReceiver 54 = .ok (.istore_n 3, 1) := by decide +kernel
theorem dX7_arriveAtReceiver_55 : decode cX7_arriveAtReceiver 55 = .ok (.iconst 0, 1) := by decide +kernel
theorem dX7_arriveAtReceiver_56 : decode cX7_arriveAtReceiver 56 = .ok (.istore 4, 2) := by decide +kernel
theorem dX7_arriveAtReceiver_58 : decode cX7_arriveAtReceiver 58 = .ok (.iload 4, 2) := by decide +kernel
theorem dX7_arriveAtReceiver_60 : decode cX7_arriveAtReceiver 60 = .ok (.aload_n 0, 1) := by decide +kernel
theorem dX7_arriveAtReceiver_61 : decode cX7_arriveAtReceiver 61 = .ok (.getfield 7, 3) := by decide +kernel
theorem dX7_arriveAtReceiver_64 : decode cX7_arriveAtReceiver 64 = .ok (.iconst 0, 1) := by decide +kernel
theorem dX7_arriveAtReceiver_65 : decode cX7_arriveAtReceiver 65 = .ok (.iaload, 1) := by decide +kernel
theorem dX7_arriveAtReceiver_66 : decode cX7_arriveAtReceiver 66 = .ok (.if_icmp .ge 51, 3) := by decide +kernel
theorem dX7_arriveAtReceiver_69 : decode cX7_arriveAtReceiver 69 = .ok (.aload_n 0, 1) := by decide +kernel
theorem dX7_arriveAtReceiver_70 : decode cX7_arriveAtReceiver 70 = .ok (.getfield 7, 3) := by decide +kernel
theorem dX7_arriveAtReceiver_73 : decode cX7_arriveAtReceiver 73 = .ok (.bipush 110, 2) := by decide +kernel
theorem dX7_arriveAtReceiver_75 : decode cX7_arriveAtReceiver 75 = .ok (.iload 4, 2) := by decide +kernel
theorem dX7_arriveAtReceiver_77 : decode cX7_arriveAtReceiver 77 = .ok (.iadd, 1) := by decide +kernel
theorem dX7_arriveAtReceiver_78 : decode cX7_arriveAtReceiver 78 = .ok (.iaload, 1) := by decide +kernel
theorem dX7_arriveAtReceiver_79 : decode cX7_arriveAtReceiver 79 = .ok (.bipush (-9), 2) := by decide +kernel
theorem dX7_arriveAtReceiver_81 : decode cX7_arriveAtReceiver 81 = .ok (.if_icmp .ne 30, 3) := by decide +kernel
theorem dX7_arriveAtReceiver_84 : decode cX7_arriveAtReceiver 84 = .ok (.aload_n 0, 1) := by decide +kernel
theorem dX7_arriveAtReceiver_85 : decode cX7_arriveAtReceiver 85 = .ok (.iload 4, 2) := by decide +kernel
theorem dX7_arriveAtReceiver_87 : decode cX7_arriveAtReceiver 87 = .ok (.invokevirtual 114, 3) := by decide +kernel
theorem dX7_arriveAtReceiver_90 : decode cX7_arriveAtReceiver 90 = .ok (.bipush (-9), 2) := by decide +kernel
theorem dX7_arriveAtReceiver_92 : decode cX7_arriveAtReceiver 92 = .ok (.if_icmp .eq 19, 3) := by decide +kernel
theorem dX7_arriveAtReceiver_95 : decode cX7_arriveAtReceiver 95 = .ok (.aload_n 0, 1) := by decide +kernel
theorem dX7_arriveAtReceiver_96 : decode cX7_arriveAtReceiver 96 = .ok (.getfield 7, 3) := by decide +kernel
theorem dX7_arriveAtReceiver_99 : decode cX7_arriveAtReceiver 99 = .ok (.bipush 110, 2) := by decide +kernel
theorem dX7_arriveAtReceiver_101 : decode cX7_arriveAtReceiver 101 = .ok (.iload 4, 2) := by decide +kernel
theorem dX7_arriveAtReceiver_103 : decode cX7_arriveAtReceiver 103 = .ok (.iadd, 1) := by decide +kernel
theorem dX7_arriveAtReceiver_104 : decode cX7_arriveAtReceiver 104 = .ok (.aload_n 0, 1) := by decide +kernel
theorem dX7_arriveAtReceiver_105 : decode cX7_arriveAtReceiver 105 = .ok (.getfield 7, 3) := by decide +kernel
theorem dX7_arriveAtReceiver_108 : decode cX7_arriveAtReceiver 108 = .ok (.iconst 2, 1) := by decide +kernel
theorem dX7_arriveAtReceiver_109 : decode cX7_arriveAtReceiver 109 = .ok (.iaload, 1) := by decide +kernel
theorem dX7_arriveAtReceiver_110 : decode cX7_arriveAtReceiver 110 = .ok (.iastore, 1) := by decide +kernel
theorem dX7_arriveAtReceiver_111 : decode cX7_arriveAtReceiver 111 = .ok (.iinc 4 1, 3) := by decide +kernel
theorem dX7_arriveAtReceiver_114 : decode cX7_arriveAtReceiver 114 = .ok (.goto (-56), 3) := by decide +kernel
theorem dX7_arriveAtReceiver_117 : decode cX7_arriveAtReceiver 117 = .ok (.iconst 1, 1) := by decide +kernel
theorem dX7_arriveAtReceiver_118 : decode cX7_arriveAtReceiver 118 = .ok (.ireturn, 1) := by decide +kernel
theorem dX7_note_0 : decode cX7_note 0 = .ok (.aload_n 0, 1) := by decide +kernel
theorem dX7_note_1 : decode cX7_note 1 = .ok (.getfield 7, 3) := by decide +kernel
theorem dX7_note_4 : decode cX7_note 4 = .ok (.bipush 33, 2) := by decide +kernel
theorem dX7_note_6 : decode cX7_note 6 = .ok (.aload_n 0, 1) := by decide +kernel
theorem dX7_note_7 : decode cX7_note 7 = .ok (.getfield 7, 3) := by decide +kernel
theorem dX7_note_10 : decode cX7_note 10 = .ok (.bipush 122, 2) := by decide +kernel
theorem dX7_note_12 : decode cX7_note 12 = .ok (.iaload, 1) := by decide +kernel
theorem dX7_note_13 : decode cX7_note 13 = .ok (.aload_n 0, 1) := by decide +kernel
theorem dX7_note_14 : decode cX7_note 14 = .ok (.getfield 7, 3) := by decide +kernel
theorem dX7_note_17 : decode cX7_note 17 = .ok (.bipush 33, 2) := by decide +kernel
theorem dX7_note_19 : decode cX7_note 19 = .ok (.iaload, 1) := by decide +kernel
theorem dX7_note_20 : decode cX7_note 20 = .ok (.if_icmp .le 13, 3) := by decide +kernel
theorem dX7_note_23 : decode cX7_note 23 = .ok (.aload_n 0, 1) := by decide +kernel
theorem dX7_note_24 : decode cX7_note 24 = .ok (.getfield 7, 3) := by decide +kernel
theorem dX7_note_27 : decode cX7_note 27 = .ok (.bipush 122, 2) := by decide +kernel
theorem dX7_note_29 : decode cX7_note 29 = .ok (.iaload, 1) := by decide +kernel
theorem dX7_note_30 : decode cX7_note 30 = .ok (.goto 10, 3) := by decide +kernel
theorem dX7_note_33 : decode cX7_note 33 = .ok (.aload_n 0, 1) := by decide +kernel
theorem dX7_note_34 : decode cX7_note 34 = .ok (.getfield 7, 3) := by decide +kernel
theorem dX7_note_37 : decode cX7_note 37 = .ok (.bipush 33, 2) := by decide +kernel
theorem dX7_note_39 : decode cX7_note 39 = .ok (.iaload, 1) := by decide +kernel
theorem dX7_note_40 : decode cX7_note 40 = .ok (.iastore, 1) := by decide +kernel
theorem dX7_note_41 : decode cX7_note 41 = .ok (.return_, 1) := by decide +kernel
theorem dX7_tick_0 : decode cX7_tick 0 = .ok (.aload_n 0, 1) := by decide +kernel
theorem dX7_tick_1 : decode cX7_tick 1 = .ok (.getfield 7, 3) := by decide +kernel
theorem dX7_tick_4 : decode cX7_tick 4 = .ok (.iconst 2, 1) := by decide +kernel
theorem dX7_tick_5 : decode cX7_tick 5 = .ok (.dup2, 1) := by decide +kernel
theorem dX7_tick_6 : decode cX7_tick 6 = .ok (.iaload, 1) := by decide +kernel
theorem dX7_tick_7 : decode cX7_tick 7 = .ok (.iconst 1, 1) := by decide +kernel
theorem dX7_tick_8 : decode cX7_tick 8 = .ok (.iadd, 1) := by decide +kernel
theorem dX7_tick_9 : decode cX7_tick 9 = .ok (.iastore, 1) := by decide +kernel
theorem dX7_tick_10 : decode cX7_tick 10 = .ok (.iconst 0, 1) := by decide +kernel
theorem dX7_tick_11 : decode cX7_tick 11 = .ok (.istore_n 1, 1) := by decide +kernel
theorem dX7_tick_12 : decode cX7_tick 12 = .ok (.iload_n 1, 1) := by decide +kernel
theorem dX7_tick_13 : decode cX7_tick 13 = .ok (.aload_n 0, 1) := by decide +kernel
theorem dX7_tick_14 : decode cX7_tick 14 = .ok (.getfield 7, 3) := by decide +kernel
theorem dX7_tick_17 : decode cX7_tick 17 = .ok (.iconst 1, 1) := by decide +kernel
theorem dX7_tick_18 : decode cX7_tick 18 = .ok (.iaload, 1) := by decide +kernel
theorem dX7_tick_19 : decode cX7_tick 19 = .ok (.if_icmp .gt 106, 3) := by decide +kernel
theorem dX7_tick_22 : decode cX7_tick 22 = .ok (.iload_n 1, 1) := by decide +kernel
theorem dX7_tick_23 : decode cX7_tick 23 = .ok (.ifCond .ne 10, 3) := by decide +kernel
theorem dX7_tick_26 : decode cX7_tick 26 = .ok (.aload_n 0, 1) := by decide +kernel
theorem dX7_tick_27 : decode cX7_tick 27 = .ok (.invokevirtual 117, 3) := by decide +kernel
theorem dX7_tick_30 : decode cX7_tick 30 = .ok (.goto 11, 3) := by decide +kernel
theorem dX7_tick_33 : decode cX7_tick 33 = .ok (.aload_n 0, 1) := by decide +kernel
theorem dX7_tick_34 : decode cX7_tick 34 = .ok (.iload_n 1, 1) := by decide +kernel
theorem dX7_tick_35 : decode cX7_tick 35 = .ok (.invokestatic 120, 3) := by decide +kernel
theorem dX7_tick_38 : decode cX7_tick 38 = .ok (.invokevirtual 123, 3) := by decide +kernel
theorem dX7_tick_41 : decode cX7_tick 41 = .ok (.aload_n 0, 1) := by decide +kernel
theorem dX7_tick_42 : decode cX7_tick 42 = .ok (.getfield 76, 3) := by decide +kernel
theorem dX7_tick_45 : decode cX7_tick 45 = .ok (.ifCond .eq 25, 3) := by decide +kernel
theorem dX7_tick_48 : decode cX7_tick 48 = .ok (.aload_n 0, 1) := by decide +kernel
theorem dX7_tick_49 : decode cX7_tick 49 = .ok (.bipush 100, 2) := by decide +kernel
theorem dX7_tick_51 : decode cX7_tick 51 = .ok (.invokevirtual 73, 3) := by decide +kernel
theorem dX7_tick_54 : decode cX7_tick 54 = .ok (.aload_n 0, 1) := by decide +kernel
theorem dX7_tick_55 : decode cX7_tick 55 = .ok (.getfield 7, 3) := by decide +kernel
theorem dX7_tick_58 : decode cX7_tick 58 = .ok (.bipush 7, 2) := by decide +kernel
theorem dX7_tick_60 : decode cX7_tick 60 = .ok (.iload_n 1, 1) := by decide +kernel
theorem dX7_tick_61 : decode cX7_tick 61 = .ok (.iadd, 1) := by decide +kernel
theorem dX7_tick_62 : decode cX7_tick 62 = .ok (.iaload, 1) := by decide +kernel
theorem dX7_tick_63 : decode cX7_tick 63 = .ok (.if_icmp .ge 7, 3) := by decide +kernel
theorem dX7_tick_66 : decode cX7_tick 66 = .ok (.iconst 1, 1) := by decide +kernel
theorem dX7_tick_67 : decode cX7_tick 67 = .ok (.goto 4, 3) := by decide +kernel
theorem dX7_tick_70 : decode cX7_tick 70 = .ok (.iconst 0, 1) := by decide +kernel
theorem dX7_tick_71 : decode cX7_tick 71 = .ok (.istore_n 2, 1) := by decide +kernel
theorem dX7_tick_72 : decode cX7_tick 72 = .ok (.aload_n 0, 1) := by decide +kernel
theorem dX7_tick_73 : decode cX7_tick 73 = .ok (.getfield 7, 3) := by decide +kernel
theorem dX7_tick_76 : decode cX7_tick 76 = .ok (.bipush 30, 2) := by decide +kernel
theorem dX7_tick_78 : decode cX7_tick 78 = .ok (.dup2, 1) := by decide +kernel
theorem dX7_tick_79 : decode cX7_tick 79 = .ok (.iaload, 1) := by decide +kernel
theorem dX7_tick_80 : decode cX7_tick 80 = .ok (.iload_n 2, 1) := by decide +kernel
theorem dX7_tick_81 : decode cX7_tick 81 = .ok (.ifCond .eq 7, 3) := by decide +kernel
theorem dX7_tick_84 : decode cX7_tick 84 = .ok (.iconst 1, 1) := by decide +kernel
theorem dX7_tick_85 : decode cX7_tick 85 = .ok (.goto 4, 3) := by decide +kernel
theorem dX7_tick_88 : decode cX7_tick 88 = .ok (.iconst 0, 1) := by decide +kernel
theorem dX7_tick_89 : decode cX7_tick 89 = .ok (.iadd, 1) := by decide +kernel
theorem dX7_tick_90 : decode cX7_tick 90 = .ok (.iastore, 1) := by decide +kernel
theorem dX7_tick_91 : decode cX7_tick 91 = .ok (.aload_n 0, 1) := by decide +kernel
theorem dX7_tick_92 : decode cX7_tick 92 = .ok (.getfield 25, 3) := by decide +kernel
theorem dX7_tick_95 : decode cX7_tick 95 = .ok (.iload_n 1, 1) := by decide +kernel
theorem dX7_tick_96 : decode cX7_tick 96 = .ok (.iload_n 2, 1) := by decide +kernel
theorem dX7_tick_97 : decode cX7_tick 97 = .ok (.ifCond .eq 7, 3) := by decide +kernel
theorem dX7_tick_100 : decode cX7_tick 100 = .ok (.iconst 0, 1) := by decide +kernel
theorem dX7_tick_101 : decode cX7_tick 101 = .ok (.goto 7, 3) := by decide +kernel
theorem dX7_tick_104 : decode cX7_tick 104 = .ok (.aload_n 0, 1) := by decide +kernel
theorem dX7_tick_105 : decode cX7_tick 105 = .ok (.getfield 76, 3) := by decide +kernel
theorem dX7_tick_108 : decode cX7_tick 108 = .ok (.iastore, 1) := by decide +kernel
theorem dX7_tick_109 : decode cX7_tick 109 = .ok (.aload_n 0, 1) := by decide +kernel
theorem dX7_tick_110 : decode cX7_tick 110 = .ok (.getfield 28, 3) := by decide +kernel
theorem dX7_tick_113 : decode cX7_tick 113 = .ok (.iload_n 1, 1) := by decide +kernel
theorem dX7_tick_114 : decode cX7_tick 114 = .ok (.aload_n 0, 1) := by decide +kernel
theorem dX7_tick_115 : decode cX7_tick 115 = .ok (.getfield 82, 3) := by decide +kernel
theorem dX7_tick_118 : decode cX7_tick 118 = .ok (.iastore, 1) := by decide +kernel
theorem dX7_tick_119 : decode cX7_tick 119 = .ok (.iinc 1 1, 3) := by decide +kernel
theorem dX7_tick_122 : decode cX7_tick 122 = .ok (.goto (-110), 3) := by decide +kernel
theorem dX7_tick_125 : decode cX7_tick 125 = .ok (.iconst 0, 1) := by decide +kernel
theorem dX7_tick_126 : decode cX7_tick 126 = .ok (.istore_n 1, 1) := by decide +kernel
theorem dX7_tick_127 : decode cX7_tick 127 = .ok (.iload_n 1, 1) := by decide +kernel
theorem dX7_tick_128 : decode cX7_tick 128 = .ok (.aload_n 0, 1) := by decide +kernel
theorem dX7_tick_129 : decode cX7_tick 129 = .ok (.getfield 7, 3) := by decide +kernel
theorem dX7_tick_132 : decode cX7_tick 132 = .ok (.iconst 1, 1) := by decide +kernel
theorem dX7_tick_133 : decode cX7_tick 133 = .ok (.iaload, 1) := by decide +kernel
theorem dX7_tick_134 : decode cX7_tick 134 = .ok (.if_icmp .gt 86, 3) := by decide +kernel
theorem dX7_tick_137 : decode cX7_tick 137 = .ok (.aload_n 0, 1) := by decide +kernel
theorem dX7_tick_138 : decode cX7_tick 138 = .ok (.getfield 25, 3) := by decide +kernel
theorem dX7_tick_141 : decode cX7_tick 141 = .ok (.iload_n 1, 1) := by decide +kernel
theorem dX7_tick_142 : decode cX7_tick 142 = .ok (.iaload, 1) := by decide +kernel
theorem dX7_tick_143 : decode cX7_tick 143 = .ok (.ifCond .eq 35, 3) := by decide +kernel
theorem dX7_tick_146 : decode cX7_tick 146 = .ok (.iload_n 1, 1) := by decide +kernel
theorem dX7_tick_147 : decode cX7_tick 147 = .ok (.aload_n 0, 1) := by decide +kernel
theorem dX7_tick_148 : decode cX7_tick 148 = .ok (.getfield 7, 3) := by decide +kernel
theorem dX7_tick_151 : decode cX7_tick 151 = .ok (.iconst 1, 1) := by decide +kernel
theorem dX7_tick_152 : decode cX7_tick 152 = .ok (.iaload, 1) := by decide +kernel
theorem dX7_tick_153 : decode cX7_tick 153 = .ok (.if_icmp .ge 25, 3) := by decide +kernel
theorem dX7_tick_156 : decode cX7_tick 156 = .ok (.aload_n 0, 1) := by decide +kernel
theorem dX7_tick_157 : decode cX7_tick 157 = .ok (.iload_n 1, 1) := by decide +kernel
theorem dX7_tick_158 : decode cX7_tick 158 = .ok (.iconst 1, 1) := by decide +kernel
theorem dX7_tick_159 : decode cX7_tick 159 = .ok (.iadd, 1) := by decide +kernel
theorem dX7_tick_160 : decode cX7_tick 160 = .ok (.invokestatic 120, 3) := by decide +kernel
theorem dX7_tick_163 : decode cX7_tick 163 = .ok (.aload_n 0, 1) := by decide +kernel
theorem dX7_tick_164 : decode cX7_tick 164 = .ok (.getfield 25, 3) := by decide +kernel
theorem dX7_tick_167 : decode cX7_tick 167 = .ok (.iload_n 1, 1) := by decide +kernel
theorem dX7_tick_168 : decode cX7_tick 168 = .ok (.iaload, 1) := by decide +kernel
theorem dX7_tick_169 : decode cX7_tick 169 = .ok (.aload_n 0, 1) := by decide +kernel
theorem dX7_tick_170 : decode cX7_tick 170 = .ok (.getfield 28, 3) := by decide +kernel
theorem dX7_tick_173 : decode cX7_tick 173 = .ok (.iload_n 1, 1) := by decide +kernel
theorem dX7_tick_174 : decode cX7_tick 174 = .ok (.iaload, 1) := by decide +kernel
theorem dX7_tick_175 : decode cX7_tick 175 = .ok (.invokevirtual 127, 3) := by decide +kernel
theorem dX7_tick_178 : decode cX7_tick 178 = .ok (.aload_n 0, 1) := by decide +kernel
theorem dX7_tick_179 : decode cX7_tick 179 = .ok (.getfield 25, 3) := by decide +kernel
theorem dX7_tick_182 : decode cX7_tick 182 = .ok (.iload_n 1, 1) := by decide +kernel
theorem dX7_tick_183 : decode cX7_tick 183 = .ok (.iaload, 1) := by decide +kernel
theorem dX7_tick_184 : decode cX7_tick 184 = .ok (.ifCond .eq 30, 3) := by decide +kernel
theorem dX7_tick_187 : decode cX7_tick 187 = .ok (.iload_n 1, 1) := by decide +kernel
theorem dX7_tick_188 : decode cX7_tick 188 = .ok (.aload_n 0, 1) := by decide +kernel
theorem dX7_tick_189 : decode cX7_tick 189 = .ok (.getfield 7, 3) := by decide +kernel
theorem dX7_tick_192 : decode cX7_tick 192 = .ok (.iconst 1, 1) := by decide +kernel
theorem dX7_tick_193 : decode cX7_tick 193 = .ok (.iaload, 1) := by decide +kernel
theorem dX7_tick_194 : decode cX7_tick 194 = .ok (.if_icmp .ne 20, 3) := by decide +kernel
theorem dX7_tick_197 : decode cX7_tick 197 = .ok (.aload_n 0, 1) := by decide +kernel
theorem dX7_tick_198 : decode cX7_tick 198 = .ok (.aload_n 0, 1) := by decide +kernel
theorem dX7_tick_199 : decode cX7_tick 199 = .ok (.getfield 25, 3) := by decide +kernel
theorem dX7_tick_202 : decode cX7_tick 202 = .ok (.iload_n 1, 1) := by decide +kernel
theorem dX7_tick_203 : decode cX7_tick 203 = .ok (.iaload, 1) := by decide +kernel
theorem dX7_tick_204 : decode cX7_tick 204 = .ok (.aload_n 0, 1) := by decide +kernel
theorem dX7_tick_205 : decode cX7_tick 205 = .ok (.getfield 28, 3) := by decide +kernel
theorem dX7_tick_208 : decode cX7_tick 208 = .ok (.iload_n 1, 1) := by decide +kernel
theorem dX7_tick_209 : decode cX7_tick 209 = .ok (.iaload, 1) := by decide +kernel
theorem dX7_tick_210 : decode cX7_tick 210 = .ok (.invokevirtual 130, 3) := by decide +kernel
theorem dX7_tick_213 : decode cX7_tick 213 = .ok (.istore_n 2, 1) := by decide +kernel
theorem dX7_tick_214 : decode cX7_tick 214 = .ok (.iinc 1 1, 3) := by decide +kernel
theorem dX7_tick_217 : decode cX7_tick 217 = .ok (.goto (-90), 3) := by decide +kernel
theorem dX7_tick_220 : decode cX7_tick 220 = .ok (.aload_n 0, 1) := by decide +kernel
theorem dX7_tick_221 : decode cX7_tick 221 = .ok (.invokevirtual 133, 3) := by decide +kernel
theorem dX7_tick_224 : decode cX7_tick 224 = .ok (.return_, 1) := by decide +kernel
theorem dX7_begin_0 : decode cX7_begin 0 = .ok (.iload_n 1, 1) := by decide +kernel
theorem dX7_begin_1 : decode cX7_begin 1 = .ok (.iconst 2, 1) := by decide +kernel
theorem dX7_begin_2 : decode cX7_begin 2 = .ok (.bipush 12, 2) := by decide +kernel
theorem dX7_begin_4 : decode cX7_begin 4 = .ok (.invokestatic 136, 3) := by decide +kernel
theorem dX7_begin_7 : decode cX7_begin 7 = .ok (.ifCond .eq 12, 3) := by decide +kernel
theorem dX7_begin_10 : decode cX7_begin 10 = .ok (.iload_n 2, 1) := by decide +kernel
theorem dX7_begin_11 : decode cX7_begin 11 = .ok (.iconst 0, 1) := by decide +kernel
theorem dX7_begin_12 : decode cX7_begin 12 = .ok (.iconst 3, 1) := by decide +kernel
theorem dX7_begin_13 : decode cX7_begin 13 = .ok (.invokestatic 136, 3) := by decide +kernel
theorem dX7_begin_16 : decode cX7_begin 16 = .ok (.ifCond .ne 5, 3) := by decide +kernel
theorem dX7_begin_19 : decode cX7_begin 19 = .ok (.iconst (-1), 1) := by decide +kernel
theorem dX7_begin_20 : decode cX7_begin 20 = .ok (.ireturn, 1) := by decide +kernel
theorem dX7_begin_21 : decode cX7_begin 21 = .ok (.aload_n 0, 1) := by decide +kernel
theorem dX7_begin_22 : decode cX7_begin 22 = .ok (.invokevirtual 140, 3) := by decide +kernel
theorem dX7_begin_25 : decode cX7_begin 25 = .ok (.aload_n 0, 1) := by decide +kernel
theorem dX7_begin_26 : decode cX7_begin 26 = .ok (.getfield 7, 3) := by decide +kernel
theorem dX7_begin_29 : decode cX7_begin 29 = .ok (.iconst 2, 1) := by decide +kernel
theorem dX7_begin_30 : decode cX7_begin 30 = .ok (.iaload, 1) := by decide +kernel
theorem dX7_begin_31 : decode cX7_begin 31 = .ok (.istore_n 3, 1) := by decide +kernel
theorem dX7_begin_32 : decode cX7_begin 32 = .ok (.aload_n 0, 1) := by decide +kernel
theorem dX7_begin_33 : decode cX7_begin 33 = .ok (.iload_n 1, 1) := by decide +kernel
theorem dX7_begin_34 : decode cX7_begin 34 = .ok (.iload_n 2, 1) := by decide +kernel
theorem dX7_begin_35 : decode cX7_begin 35 = .ok (.invokevirtual 34, 3) := by decide +kernel
theorem dX7_begin_38 : decode cX7_begin 38 = .ok (.iload_n 3, 1) := by decide +kernel
theorem dX7_begin_39 : decode cX7_begin 39 = .ok (.ireturn, 1) := by decide +kernel
theorem dX7_isBlock_0 : decode cX7_isBlock 0 = .ok (.iload_n 1, 1) := by decide +kernel
theorem dX7_isBlock_1 : decode cX7_isBlock 1 = .ok (.iconst 0, 1) := by decide +kernel
theorem dX7_isBlock_2 : decode cX7_isBlock 2 = .ok (.aload_n 0, 1) := by decide +kernel
theorem dX7_isBlock_3 : decode cX7_isBlock 3 = .ok (.getfield 7, 3) := by decide +kernel
theorem dX7_isBlock_6 : decode cX7_isBlock 6 = .ok (.iconst 0, 1) := by decide +kernel
theorem dX7_isBlock_7 : decode cX7_isBlock 7 = .ok (.iaload, 1) := by decide +kernel
theorem dX7_isBlock_8 : decode cX7_isBlock 8 = .ok (.iconst 1, 1) := by decide +kernel
theorem dX7_isBlock_9 : decode cX7_isBlock 9 = .ok (.isub, 1) := by decide +kernel
theorem dX7_isBlock_10 : decode cX7_isBlock 10 = .ok (.invokestatic 136, 3) := by decide +kernel
theorem dX7_isBlock_13 : decode cX7_isBlock 13 = .ok (.ireturn, 1) := by decide +kernel
theorem dX7_put_0 : decode cX7_put 0 = .ok (.aload_n 0, 1) := by decide +kernel
theorem dX7_put_1 : decode cX7_put 1 = .ok (.invokevirtual 140, 3) := by decide +kernel
theorem dX7_put_4 : decode cX7_put 4 = .ok (.aload_n 0, 1) := by decide +kernel
theorem dX7_put_5 : decode cX7_put 5 = .ok (.getfield 7, 3) := by decide +kernel
theorem dX7_put_8 : decode cX7_put 8 = .ok (.iload_n 1, 1) := by decide +kernel
theorem dX7_put_9 : decode cX7_put 9 = .ok (.iaload, 1) := by decide +kernel
theorem dX7_put_10 : decode cX7_put 10 = .ok (.istore_n 3, 1) := by decide +kernel
theorem dX7_put_11 : decode cX7_put 11 = .ok (.aload_n 0, 1) := by decide +kernel
theorem dX7_put_12 : decode cX7_put 12 = .ok (.getfield 7, 3) := by decide +kernel
theorem dX7_put_15 : decode cX7_put 15 = .ok (.iload_n 1, 1) := by decide +kernel
theorem dX7_put_16 : decode cX7_put 16 = .ok (.iload_n 2, 1) := by decide +kernel
theorem dX7_put_17 : decode cX7_put 17 = .ok (.iastore, 1) := by decide +kernel
theorem dX7_put_18 : decode cX7_put 18 = .ok (.iload_n 3, 1) := by decide +kernel
theorem dX7_put_19 : decode cX7_put 19 = .ok (.ireturn, 1) := by decide +kernel
theorem dX7_setBlock_0 : decode cX7_setBlock 0 = .ok (.aload_n 0, 1) := by decide +kernel
theorem dX7_setBlock_1 : decode cX7_setBlock 1 = .ok (.iload_n 1, 1) := by decide +kernel
theorem dX7_setBlock_2 : decode cX7_setBlock 2 = .ok (.invokevirtual 143, 3) := by decide +kernel
theorem dX7_setBlock_5 : decode cX7_setBlock 5 = .ok (.ifCond .eq 14, 3) := by decide +kernel
theorem dX7_setBlock_8 : decode cX7_setBlock 8 = .ok (.iload_n 2, 1) := by decide +kernel
theorem dX7_setBlock_9 : decode cX7_setBlock 9 = .ok (.iconst 0, 1) := by decide +kernel
theorem dX7_setBlock_10 : decode cX7_setBlock 10 = .ok (.sipush 255, 3) := by decide +kernel
theorem dX7_setBlock_13 : decode cX7_setBlock 13 = .ok (.invokestatic 136, 3) := by decide +kernel
theorem dX7_setBlock_16 : decode cX7_setBlock 16 = .ok (.ifCond .ne 5, 3) := by decide +kernel
theorem dX7_setBlock_19 : decode cX7_setBlock 19 = .ok (.iconst (-1), 1) := by decide +kernel
theorem dX7_setBlock_20 : decode cX7_setBlock 20 = .ok (.ireturn, 1) := by decide +kernel
theorem dX7_setBlock_21 : decode cX7_setBlock 21 = .ok (.aload_n 0, 1) := by decide +kernel
theorem dX7_setBlock_22 : decode cX7_setBlock 22 = .ok (.getfield 7, 3) := by decide +kernel
theorem dX7_setBlock_25 : decode cX7_setBlock 25 = .ok (.iconst 2, 1) := by decide +kernel
theorem dX7_setBlock_26 : decode cX7_setBlock 26 = .ok (.iaload, 1) := by decide +kernel
theorem dX7_setBlock_27 : decode cX7_setBlock 27 = .ok (.ifCond .gt 13, 3) := by decide +kernel
theorem dX7_setBlock_30 : decode cX7_setBlock 30 = .ok (.aload_n 0, 1) := by decide +kernel
theorem dX7_setBlock_31 : decode cX7_setBlock 31 = .ok (.getfield 7, 3) := by decide +kernel
theorem dX7_setBlock_34 : decode cX7_setBlock 34 = .ok (.bipush 31, 2) := by decide +kernel
theorem dX7_setBlock_36 : decode cX7_setBlock 36 = .ok (.iaload, 1) := by decide +kernel
theorem dX7_setBlock_37 : decode cX7_setBlock 37 = .ok (.ifCond .le 8, 3) := by decide +kernel
theorem dX7_setBlock_40 : decode cX7_setBlock 40 = .ok (.bipush (-2), 2) := by decide +kernel
theorem dX7_setBlock_42 : decode cX7_setBlock 42 = .ok (.goto 12, 3) := by decide +kernel
theorem dX7_setBlock_45 : decode cX7_setBlock 45 = .ok (.aload_n 0, 1) := by decide +kernel
theorem dX7_setBlock_46 : decode cX7_setBlock 46 = .ok (.bipush 17, 2) := by decide +kernel
theorem dX7_setBlock_48 : decode cX7_setBlock 48 = .ok (.iload_n 1, 1) := by decide +kernel
theorem dX7_setBlock_49 : decode cX7_setBlock 49 = .ok (.iadd, 1) := by decide +kernel
theorem dX7_setBlock_50 : decode cX7_setBlock 50 = .ok (.iload_n 2, 1) := by decide +kernel
theorem dX7_setBlock_51 : decode cX7_setBlock 51 = .ok (.invokevirtual 147, 3) := by decide +kernel
theorem dX7_setBlock_54 : decode cX7_setBlock 54 = .ok (.ireturn, 1) := by decide +kernel
theorem dX7_setLoss_0 : decode cX7_setLoss 0 = .ok (.iload_n 1, 1) := by decide +kernel
theorem dX7_setLoss_1 : decode cX7_setLoss 1 = .ok (.iconst 0, 1) := by decide +kernel
theorem dX7_setLoss_2 : decode cX7_setLoss 2 = .ok (.aload_n 0, 1) := by decide +kernel
theorem dX7_setLoss_3 : decode cX7_setLoss 3 = .ok (.getfield 7, 3) := by decide +kernel
theorem dX7_setLoss_6 : decode cX7_setLoss 6 = .ok (.iconst 1, 1) := by decide +kernel
theorem dX7_setLoss_7 : decode cX7_setLoss 7 = .ok (.iaload, 1) := by decide +kernel
theorem dX7_setLoss_8 : decode cX7_setLoss 8 = .ok (.invokestatic 136, 3) := by decide +kernel
theorem dX7_setLoss_11 : decode cX7_setLoss 11 = .ok (.ifCond .eq 25, 3) := by decide +kernel
theorem dX7_setLoss_14 : decode cX7_setLoss 14 = .ok (.iload_n 2, 1) := by decide +kernel
theorem dX7_setLoss_15 : decode cX7_setLoss 15 = .ok (.iconst 0, 1) := by decide +kernel
theorem dX7_setLoss_16 : decode cX7_setLoss 16 = .ok (.bipush 99, 2) := by decide +kernel
theorem dX7_setLoss_18 : decode cX7_setLoss 18 = .ok (.invokestatic 136, 3) := by decide +kernel
theorem dX7_setLoss_21 : decode cX7_setLoss 21 = .ok (.ifCond .eq 15, 3) := by decide +kernel
theorem dX7_setLoss_24 : decode cX7_setLoss 24 = .ok (.aload_n 0, 1) := by decide +kernel
theorem dX7_setLoss_25 : decode cX7_setLoss 25 = .ok (.bipush 7, 2) := by decide +kernel
theorem dX7_setLoss_27 : decode cX7_setLoss 27 = .ok (.iload_n 1, 1) := by decide +kernel
theorem dX7_setLoss_28 : decode cX7_setLoss 28 = .ok (.iadd, 1) := by decide +kernel
theorem dX7_setLoss_29 : decode cX7_setLoss 29 = .ok (.iload_n 2, 1) := by decide +kernel
theorem dX7_setLoss_30 : decode cX7_setLoss 30 = .ok (.invokevirtual 147, 3) := by decide +kernel
theorem dX7_setLoss_33 : decode cX7_setLoss 33 = .ok (.goto 4, 3) := by decide +kernel
theorem dX7_setLoss_36 : decode cX7_setLoss 36 = .ok (.iconst (-1), 1) := by decide +kernel
theorem dX7_setLoss_37 : decode cX7_setLoss 37 = .ok (.ireturn, 1) := by decide +kernel
theorem dX7_setWeight_0 : decode cX7_setWeight 0 = .ok (.iload_n 1, 1) := by decide +kernel
theorem dX7_setWeight_1 : decode cX7_setWeight 1 = .ok (.iconst 1, 1) := by decide +kernel
theorem dX7_setWeight_2 : decode cX7_setWeight 2 = .ok (.bipush 6, 2) := by decide +kernel
theorem dX7_setWeight_4 : decode cX7_setWeight 4 = .ok (.invokestatic 136, 3) := by decide +kernel
theorem dX7_setWeight_7 : decode cX7_setWeight 7 = .ok (.ifCond .eq 13, 3) := by decide +kernel
theorem dX7_setWeight_10 : decode cX7_setWeight 10 = .ok (.iload_n 2, 1) := by decide +kernel
theorem dX7_setWeight_11 : decode cX7_setWeight 11 = .ok (.iconst 0, 1) := by decide +kernel
theorem dX7_setWeight_12 : decode cX7_setWeight 12 = .ok (.bipush 9, 2) := by decide +kernel
theorem dX7_setWeight_14 : decode cX7_setWeight 14 = .ok (.invokestatic 136, 3) := by decide +kernel
theorem dX7_setWeight_17 : decode cX7_setWeight 17 = .ok (.ifCond .ne 5, 3) := by decide +kernel
theorem dX7_setWeight_20 : decode cX7_setWeight 20 = .ok (.iconst (-1), 1) := by decide +kernel
theorem dX7_setWeight_21 : decode cX7_setWeight 21 = .ok (.ireturn, 1) := by decide +kernel
theorem dX7_setWeight_22 : decode cX7_setWeight 22 = .ok (.bipush 11, 2) := by decide +kernel
theorem dX7_setWeight_24 : decode cX7_setWeight 24 = .ok (.iload_n 1, 1) := by decide +kernel
theorem dX7_setWeight_25 : decode cX7_setWeight 25 = .ok (.iadd, 1) := by decide +kernel
theorem dX7_setWeight_26 : decode cX7_setWeight 26 = .ok (.iconst 1, 1) := by decide +kernel
theorem dX7_setWeight_27 : decode cX7_setWeight 27 = .ok (.isub, 1) := by decide +kernel
theorem dX7_setWeight_28 : decode cX7_setWeight 28 = .ok (.istore_n 3, 1) := by decide +kernel
theorem dX7_setWeight_29 : decode cX7_setWeight 29 = .ok (.aload_n 0, 1) := by decide +kernel
theorem dX7_setWeight_30 : decode cX7_setWeight 30 = .ok (.invokevirtual 69, 3) := by decide +kernel
theorem dX7_setWeight_33 : decode cX7_setWeight 33 = .ok (.aload_n 0, 1) := by decide +kernel
theorem dX7_setWeight_34 : decode cX7_setWeight 34 = .ok (.getfield 7, 3) := by decide +kernel
theorem dX7_setWeight_37 : decode cX7_setWeight 37 = .ok (.iload_n 3, 1) := by decide +kernel
theorem dX7_setWeight_38 : decode cX7_setWeight 38 = .ok (.iaload, 1) := by decide +kernel
theorem dX7_setWeight_39 : decode cX7_setWeight 39 = .ok (.isub, 1) := by decide +kernel
theorem dX7_setWeight_40 : decode cX7_setWeight 40 = .ok (.iload_n 2, 1) := by decide +kernel
theorem dX7_setWeight_41 : decode cX7_setWeight 41 = .ok (.iadd, 1) := by decide +kernel
theorem dX7_setWeight_42 : decode cX7_setWeight 42 = .ok (.ifCond .ne 8, 3) := by decide +kernel
theorem dX7_setWeight_45 : decode cX7_setWeight 45 = .ok (.bipush (-2), 2) := by decide +kernel
theorem dX7_setWeight_47 : decode cX7_setWeight 47 = .ok (.goto 9, 3) := by decide +kernel
theorem dX7_setWeight_50 : decode cX7_setWeight 50 = .ok (.aload_n 0, 1) := by decide +kernel
theorem dX7_setWeight_51 : decode cX7_setWeight 51 = .ok (.iload_n 3, 1) := by decide +kernel
theorem dX7_setWeight_52 : decode cX7_setWeight 52 = .ok (.iload_n 2, 1) := by decide +kernel
theorem dX7_setWeight_53 : decode cX7_setWeight 53 = .ok (.invokevirtual 147, 3) := by decide +kernel
theorem dX7_setWeight_56 : decode cX7_setWeight 56 = .ok (.ireturn, 1) := by decide +kernel
theorem dX7_set_0 : decode cX7_set 0 = .ok (.iload_n 1, 1) := by decide +kernel
theorem dX7_set_1 : decode cX7_set 1 = .ok (.ifCond .ne 12, 3) := by decide +kernel
theorem dX7_set_4 : decode cX7_set 4 = .ok (.iload_n 2, 1) := by decide +kernel
theorem dX7_set_5 : decode cX7_set 5 = .ok (.iconst 1, 1) := by decide +kernel
theorem dX7_set_6 : decode cX7_set 6 = .ok (.iconst 4, 1) := by decide +kernel
theorem dX7_set_7 : decode cX7_set 7 = .ok (.invokestatic 136, 3) := by decide +kernel
theorem dX7_set_10 : decode cX7_set 10 = .ok (.goto 45, 3) := by decide +kernel
theorem dX7_set_13 : decode cX7_set 13 = .ok (.iload_n 1, 1) := by decide +kernel
theorem dX7_set_14 : decode cX7_set 14 = .ok (.iconst 1, 1) := by decide +kernel
theorem dX7_set_15 : decode cX7_set 15 = .ok (.if_icmp .ne 12, 3) := by decide +kernel
theorem dX7_set_18 : decode cX7_set 18 = .ok (.iload_n 2, 1) := by decide +kernel
theorem dX7_set_19 : decode cX7_set 19 = .ok (.iconst 0, 1) := by decide +kernel
theorem dX7_set_20 : decode cX7_set 20 = .ok (.iconst 3, 1) := by decide +kernel
theorem dX7_set_21 : decode cX7_set 21 = .ok (.invokestatic 136, 3) := by decide +kernel
theorem dX7_set_24 : decode cX7_set 24 = .ok (.goto 31, 3) := by decide +kernel
theorem dX7_set_27 : decode cX7_set 27 = .ok (.iload_n 1, 1) := by decide +kernel
theorem dX7_set_28 : decode cX7_set 28 = .ok (.iconst 2, 1) := by decide +kernel
theorem dX7_set_29 : decode cX7_set 29 = .ok (.if_icmp .ne 12, 3) := by decide +kernel
theorem dX7_set_32 : decode cX7_set 32 = .ok (.iload_n 2, 1) := by decide +kernel
theorem dX7_set_33 : decode cX7_set 33 = .ok (.iconst 0, 1) := by decide +kernel
theorem dX7_set_34 : decode cX7_set 34 = .ok (.iconst 1, 1) := by decide +kernel
theorem dX7_set_35 : decode cX7_set 35 = .ok (.invokestatic 136, 3) := by decide +kernel
theorem dX7_set_38 : decode cX7_set 38 = .ok (.goto 17, 3) := by decide +kernel
theorem dX7_set_41 : decode cX7_set 41 = .ok (.iload_n 1, 1) := by decide +kernel
theorem dX7_set_42 : decode cX7_set 42 = .ok (.iconst 3, 1) := by decide +kernel
theorem dX7_set_43 : decode cX7_set 43 = .ok (.if_icmp .ne 11, 3) := by decide +kernel
theorem dX7_set_46 : decode cX7_set 46 = .ok (.iload_n 2, 1) := by decide +kernel
theorem dX7_set_47 : decode cX7_set 47 = .ok (.ifCond .lt 7, 3) := by decide +kernel
theorem dX7_set_50 : decode cX7_set 50 = .ok (.iconst 1, 1) := by decide +kernel
theorem dX7_set_51 : decode cX7_set 51 = .ok (.goto 4, 3) := by decide +kernel
theorem dX7_set_54 : decode cX7_set 54 = .ok (.iconst 0, 1) := by decide +kernel
theorem dX7_set_55 : decode cX7_set 55 = .ok (.istore_n 3, 1) := by decide +kernel
theorem dX7_set_56 : decode cX7_set 56 = .ok (.iload_n 3, 1) := by decide +kernel
theorem dX7_set_57 : decode cX7_set 57 = .ok (.ifCond .ne 5, 3) := by decide +kernel
theorem dX7_set_60 : decode cX7_set 60 = .ok (.iconst (-1), 1) := by decide +kernel
theorem dX7_set_61 : decode cX7_set 61 = .ok (.ireturn, 1) := by decide +kernel
theorem dX7_set_62 : decode cX7_set 62 = .ok (.aload_n 0, 1) := by decide +kernel
theorem dX7_set_63 : decode cX7_set 63 = .ok (.iconst 3, 1) := by decide +kernel
theorem dX7_set_64 : decode cX7_set 64 = .ok (.iload_n 1, 1) := by decide +kernel
theorem dX7_set_65 : decode cX7_set 65 = .ok (.iadd, 1) := by decide +kernel
theorem dX7_set_66 : decode cX7_set 66 = .ok (.iload_n 2, 1) := by decide +kernel
theorem dX7_set_67 : decode cX7_set 67 = .ok (.invokevirtual 147, 3) := by decide +kernel
theorem dX7_set_70 : decode cX7_set 70 = .ok (.istore 4, 2) := by decide +kernel
theorem dX7_set_72 : decode cX7_set 72 = .ok (.iconst 1, 1) := by decide +kernel
theorem dX7_set_73 : decode cX7_set 73 = .ok (.istore 5, 2) := by decide +kernel
theorem dX7_set_75 : decode cX7_set 75 = .ok (.iload 5, 2) := by decide +kernel
theorem dX7_set_77 : decode cX7_set 77 = .ok (.aload_n 0, 1) := by decide +kernel
theorem dX7_set_78 : decode cX7_set 78 = .ok (.getfield 7, 3) := by decide +kernel
theorem dX7_set_81 : decode cX7_set 81 = .ok (.iconst 1, 1) := by decide +kernel
theorem dX7_set_82 : decode cX7_set 82 = .ok (.iaload, 1) := by decide +kernel
theorem dX7_set_83 : decode cX7_set 83 = .ok (.if_icmp .gt 41, 3) := by decide +kernel
theorem dX7_set_86 : decode cX7_set 86 = .ok (.aload_n 0, 1) := by decide +kernel
theorem dX7_set_87 : decode cX7_set 87 = .ok (.getfield 7, 3) := by decide +kernel
theorem dX7_set_90 : decode cX7_set 90 = .ok (.iload 5, 2) := by decide +kernel
theorem dX7_set_92 : decode cX7_set 92 = .ok (.invokestatic 120, 3) := by decide +kernel
theorem dX7_set_95 : decode cX7_set 95 = .ok (.iaload, 1) := by decide +kernel
theorem dX7_set_96 : decode cX7_set 96 = .ok (.aload_n 0, 1) := by decide +kernel
theorem dX7_set_97 : decode cX7_set 97 = .ok (.getfield 7, 3) := by decide +kernel
theorem dX7_set_100 : decode cX7_set 100 = .ok (.iconst 3, 1) := by decide +kernel
theorem dX7_set_101 : decode cX7_set 101 = .ok (.iaload, 1) := by decide +kernel
theorem dX7_set_102 : decode cX7_set 102 = .ok (.if_icmp .le 16, 3) := by decide +kernel
theorem dX7_set_105 : decode cX7_set 105 = .ok (.aload_n 0, 1) := by decide +kernel
theorem dX7_set_106 : decode cX7_set 106 = .ok (.iload 5, 2) := by decide +kernel
theorem dX7_set_108 : decode cX7_set 108 = .ok (.invokestatic 120, 3) := by decide +kernel
theorem dX7_set_111 : decode cX7_set 111 = .ok (.iconst 0, 1) := by decide +kernel
theorem dX7_set_112 : decode cX7_set 112 = .ok (.invokevirtual 85, 3) := by decide +kernel
theorem dX7_set_115 : decode cX7_set 115 = .ok (.goto (-29), 3) := by decide +kernel
theorem dX7_set_118 : decode cX7_set 118 = .ok (.iinc 5 1, 3) := by decide +kernel
theorem dX7_set_121 : decode cX7_set 121 = .ok (.goto (-46), 3) := by decide +kernel
theorem dX7_set_124 : decode cX7_set 124 = .ok (.iload 4, 2) := by decide +kernel
theorem dX7_set_126 : decode cX7_set 126 = .ok (.ireturn, 1) := by decide +kernel
theorem dX7_run_0 : decode cX7_run 0 = .ok (.iload_n 1, 1) := by decide +kernel
theorem dX7_run_1 : decode cX7_run 1 = .ok (.iconst 1, 1) := by decide +kernel
theorem dX7_run_2 : decode cX7_run 2 = .ok (.bipush 100, 2) := by decide +kernel
theorem dX7_run_4 : decode cX7_run 4 = .ok (.invokestatic 136, 3) := by decide +kernel
theorem dX7_run_7 : decode cX7_run 7 = .ok (.ifCond .ne 5, 3) := by decide +kernel
theorem dX7_run_10 : decode cX7_run 10 = .ok (.iconst (-1), 1) := by decide +kernel
theorem dX7_run_11 : decode cX7_run 11 = .ok (.ireturn, 1) := by decide +kernel
theorem dX7_run_12 : decode cX7_run 12 = .ok (.aload_n 0, 1) := by decide +kernel
theorem dX7_run_13 : decode cX7_run 13 = .ok (.invokevirtual 140, 3) := by decide +kernel
theorem dX7_run_16 : decode cX7_run 16 = .ok (.iconst 0, 1) := by decide +kernel
theorem dX7_run_17 : decode cX7_run 17 = .ok (.istore_n 2, 1) := by decide +kernel
theorem dX7_run_18 : decode cX7_run 18 = .ok (.iload_n 2, 1) := by decide +kernel
theorem dX7_run_19 : decode cX7_run 19 = .ok (.iload_n 1, 1) := by decide +kernel
theorem dX7_run_20 : decode cX7_run 20 = .ok (.if_icmp .ge 13, 3) := by decide +kernel
theorem dX7_run_23 : decode cX7_run 23 = .ok (.aload_n 0, 1) := by decide +kernel
theorem dX7_run_24 : decode cX7_run 24 = .ok (.invokevirtual 150, 3) := by decide +kernel
theorem dX7_run_27 : decode cX7_run 27 = .ok (.iinc 2 1, 3) := by decide +kernel
theorem dX7_run_30 : decode cX7_run 30 = .ok (.goto (-12), 3) := by decide +kernel
theorem dX7_run_33 : decode cX7_run 33 = .ok (.aload_n 0, 1) := by decide +kernel
theorem dX7_run_34 : decode cX7_run 34 = .ok (.getfield 7, 3) := by decide +kernel
theorem dX7_run_37 : decode cX7_run 37 = .ok (.bipush 61, 2) := by decide +kernel
theorem dX7_run_39 : decode cX7_run 39 = .ok (.iaload, 1) := by decide +kernel
theorem dX7_run_40 : decode cX7_run 40 = .ok (.ireturn, 1) := by decide +kernel
theorem dX7_isSet_0 : decode cX7_isSet 0 = .ok (.iload_n 1, 1) := by decide +kernel
theorem dX7_isSet_1 : decode cX7_isSet 1 = .ok (.iconst 1, 1) := by decide +kernel
theorem dX7_isSet_2 : decode cX7_isSet 2 = .ok (.iconst 1, 1) := by decide +kernel
theorem dX7_isSet_3 : decode cX7_isSet 3 = .ok (.aload_n 0, 1) := by decide +kernel
theorem dX7_isSet_4 : decode cX7_isSet 4 = .ok (.getfield 7, 3) := by decide +kernel
theorem dX7_isSet_7 : decode cX7_isSet 7 = .ok (.iconst 0, 1) := by decide +kernel
theorem dX7_isSet_8 : decode cX7_isSet 8 = .ok (.iaload, 1) := by decide +kernel
theorem dX7_isSet_9 : decode cX7_isSet 9 = .ok (.ishl, 1) := by decide +kernel
theorem dX7_isSet_10 : decode cX7_isSet 10 = .ok (.iconst 1, 1) := by decide +kernel
theorem dX7_isSet_11 : decode cX7_isSet 11 = .ok (.isub, 1) := by decide +kernel
theorem dX7_isSet_12 : decode cX7_isSet 12 = .ok (.invokestatic 136, 3) := by decide +kernel
theorem dX7_isSet_15 : decode cX7_isSet 15 = .ok (.ireturn, 1) := by decide +kernel
theorem dX7_inject_0 : decode cX7_inject 0 = .ok (.aload_n 0, 1) := by decide +kernel
theorem dX7_inject_1 : decode cX7_inject 1 = .ok (.iload_n 1, 1) := by decide +kernel
theorem dX7_inject_2 : decode cX7_inject 2 = .ok (.invokevirtual 153, 3) := by decide +kernel
theorem dX7_inject_5 : decode cX7_inject 5 = .ok (.ifCond .ne 5, 3) := by decide +kernel
theorem dX7_inject_8 : decode cX7_inject 8 = .ok (.iconst (-1), 1) := by decide +kernel
theorem dX7_inject_9 : decode cX7_inject 9 = .ok (.ireturn, 1) := by decide +kernel
theorem dX7_inject_10 : decode cX7_inject 10 = .ok (.aload_n 0, 1) := by decide +kernel
theorem dX7_inject_11 : decode cX7_inject 11 = .ok (.invokevirtual 140, 3) := by decide +kernel
theorem dX7_inject_14 : decode cX7_inject 14 = .ok (.aload_n 0, 1) := by decide +kernel
theorem dX7_inject_15 : decode cX7_inject 15 = .ok (.iload_n 1, 1) := by decide +kernel
theorem dX7_inject_16 : decode cX7_inject 16 = .ok (.aload_n 0, 1) := by decide +kernel
theorem dX7_inject_17 : decode cX7_inject 17 = .ok (.iload_n 1, 1) := by decide +kernel
theorem dX7_inject_18 : decode cX7_inject 18 = .ok (.invokevirtual 79, 3) := by decide +kernel
theorem dX7_inject_21 : decode cX7_inject 21 = .ok (.invokevirtual 130, 3) := by decide +kernel
theorem dX7_inject_24 : decode cX7_inject 24 = .ok (.istore_n 2, 1) := by decide +kernel
theorem dX7_inject_25 : decode cX7_inject 25 = .ok (.aload_n 0, 1) := by decide +kernel
theorem dX7_inject_26 : decode cX7_inject 26 = .ok (.invokevirtual 133, 3) := by decide +kernel
theorem dX7_inject_29 : decode cX7_inject 29 = .ok (.iload_n 2, 1) := by decide +kernel
theorem dX7_inject_30 : decode cX7_inject 30 = .ok (.ireturn, 1) := by decide +kernel
theorem dX7_undo_0 : decode cX7_undo 0 = .ok (.aload_n 0, 1) := by decide +kernel
theorem dX7_undo_1 : decode cX7_undo 1 = .ok (.getfield 38, 3) := by decide +kernel
theorem dX7_undo_4 : decode cX7_undo 4 = .ok (.ifCond .ne 6, 3) := by decide +kernel
theorem dX7_undo_7 : decode cX7_undo 7 = .ok (.bipush (-2), 2) := by decide +kernel
theorem dX7_undo_9 : decode cX7_undo 9 = .ok (.ireturn, 1) := by decide +kernel
theorem dX7_undo_10 : decode cX7_undo 10 = .ok (.aload_n 0, 1) := by decide +kernel
theorem dX7_undo_11 : decode cX7_undo 11 = .ok (.dup, 1) := by decide +kernel
theorem dX7_undo_12 : decode cX7_undo 12 = .ok (.getfield 38, 3) := by decide +kernel
theorem dX7_undo_15 : decode cX7_undo 15 = .ok (.iconst 1, 1) := by decide +kernel
theorem dX7_undo_16 : decode cX7_undo 16 = .ok (.isub, 1) := by decide +kernel
theorem dX7_undo_17 : decode cX7_undo 17 = .ok (.putfield 38, 3) := by decide +kernel
theorem dX7_undo_20 : decode cX7_undo 20 = .ok (.iconst 0, 1) := by decide +kernel
theorem dX7_undo_21 : decode cX7_undo 21 = .ok (.istore_n 1, 1) := by decide +kernel
theorem dX7_undo_22 : decode cX7_undo 22 = .ok (.iload_n 1, 1) := by decide +kernel
theorem dX7_undo_23 : decode cX7_undo 23 = .ok (.sipush 165, 3) := by decide +kernel
theorem dX7_undo_26 : decode cX7_undo 26 = .ok (.if_icmp .ge 30, 3) := by decide +kernel
theorem dX7_undo_29 : decode cX7_undo 29 = .ok (.aload_n 0, 1) := by decide +kernel
theorem dX7_undo_30 : decode cX7_undo 30 = .ok (.getfield 7, 3) := by decide +kernel
theorem dX7_undo_33 : decode cX7_undo 33 = .ok (.iload_n 1, 1) := by decide +kernel
theorem dX7_undo_34 : decode cX7_undo 34 = .ok (.aload_n 0, 1) := by decide +kernel
theorem dX7_undo_35 : decode cX7_undo 35 = .ok (.getfield 13, 3) := by decide +kernel
theorem dX7_undo_38 : decode cX7_undo 38 = .ok (.sipush 165, 3) := by decide +kernel
theorem dX7_undo_41 : decode cX7_undo 41 = .ok (.aload_n 0, 1) := by decide +kernel
theorem dX7_undo_42 : decode cX7_undo 42 = .ok (.getfield 38, 3) := by decide +kernel
theorem dX7_undo_45 : decode cX7_undo 45 = .ok (.imul, 1) := by decide +kernel
theorem dX7_undo_46 : decode cX7_undo 46 = .ok (.iload_n 1, 1) := by decide +kernel
theorem dX7_undo_47 : decode cX7_undo 47 = .ok (.iadd, 1) := by decide +kernel
theorem dX7_undo_48 : decode cX7_undo 48 = .ok (.iaload, 1) := by decide +kernel
theorem dX7_undo_49 : decode cX7_undo 49 = .ok (.iastore, 1) := by decide +kernel
theorem dX7_undo_50 : decode cX7_undo 50 = .ok (.iinc 1 1, 3) := by decide +kernel
theorem dX7_undo_53 : decode cX7_undo 53 = .ok (.goto (-31), 3) := by decide +kernel
theorem dX7_undo_56 : decode cX7_undo 56 = .ok (.aload_n 0, 1) := by decide +kernel
theorem dX7_undo_57 : decode cX7_undo 57 = .ok (.getfield 38, 3) := by decide +kernel
theorem dX7_undo_60 : decode cX7_undo 60 = .ok (.ireturn, 1) := by decide +kernel
theorem dX7_known_0 : decode cX7_known 0 = .ok (.iconst 0, 1) := by decide +kernel
theorem dX7_known_1 : decode cX7_known 1 = .ok (.istore_n 1, 1) := by decide +kernel
theorem dX7_known_2 : decode cX7_known 2 = .ok (.iconst 0, 1) := by decide +kernel
theorem dX7_known_3 : decode cX7_known 3 = .ok (.istore_n 2, 1) := by decide +kernel
theorem dX7_known_4 : decode cX7_known 4 = .ok (.iload_n 2, 1) := by decide +kernel
theorem dX7_known_5 : decode cX7_known 5 = .ok (.aload_n 0, 1) := by decide +kernel
theorem dX7_known_6 : decode cX7_known 6 = .ok (.getfield 7, 3) := by decide +kernel
theorem dX7_known_9 : decode cX7_known 9 = .ok (.iconst 0, 1) := by decide +kernel
theorem dX7_known_10 : decode cX7_known 10 = .ok (.iaload, 1) := by decide +kernel
theorem dX7_known_11 : decode cX7_known 11 = .ok (.if_icmp .ge 31, 3) := by decide +kernel
theorem dX7_known_14 : decode cX7_known 14 = .ok (.iload_n 1, 1) := by decide +kernel
theorem dX7_known_15 : decode cX7_known 15 = .ok (.aload_n 0, 1) := by decide +kernel
theorem dX7_known_16 : decode cX7_known 16 = .ok (.getfield 7, 3) := by decide +kernel
theorem dX7_known_19 : decode cX7_known 19 = .ok (.bipush 86, 2) := by decide +kernel
theorem dX7_known_21 : decode cX7_known 21 = .ok (.iload_n 2, 1) := by decide +kernel
theorem dX7_known_22 : decode cX7_known 22 = .ok (.iadd, 1) := by decide +kernel
theorem dX7_known_23 : decode cX7_known 23 = .ok (.iaload, 1) := by decide +kernel
theorem dX7_known_24 : decode cX7_known 24 = .ok (.bipush (-9), 2) := by decide +kernel
theorem dX7_known_26 : decode cX7_known 26 = .ok (.if_icmp .eq 7, 3) := by decide +kernel
theorem dX7_known_29 : decode cX7_known 29 = .ok (.iconst 1, 1) := by decide +kernel
theorem dX7_known_30 : decode cX7_known 30 = .ok (.goto 4, 3) := by decide +kernel
theorem dX7_known_33 : decode cX7_known 33 = .ok (.iconst 0, 1) := by decide +kernel
theorem dX7_known_34 : decode cX7_known 34 = .ok (.iadd, 1) := by decide +kernel
theorem dX7_known_35 : decode cX7_known 35 = .ok (.istore_n 1, 1) := by decide +kernel
theorem dX7_known_36 : decode cX7_known 36 = .ok (.iinc 2 1, 3) := by decide +kernel
theorem dX7_known_39 : decode cX7_known 39 = .ok (.goto (-35), 3) := by decide +kernel
theorem dX7_known_42 : decode cX7_known 42 = .ok (.iload_n 1, 1) := by decide +kernel
theorem dX7_known_43 : decode cX7_known 43 = .ok (.ireturn, 1) := by decide +kernel
theorem dX7_solvedBlocks_0 : decode cX7_solvedBlocks 0 = .ok (.iconst 0, 1) := by decide +kernel
theorem dX7_solvedBlocks_1 : decode cX7_solvedBlocks 1 = .ok (.istore_n 1, 1) := by decide +kernel
theorem dX7_solvedBlocks_2 : decode cX7_solvedBlocks 2 = .ok (.iconst 0, 1) := by decide +kernel
theorem dX7_solvedBlocks_3 : decode cX7_solvedBlocks 3 = .ok (.istore_n 2, 1) := by decide +kernel
theorem dX7_solvedBlocks_4 : decode cX7_solvedBlocks 4 = .ok (.iload_n 2, 1) := by decide +kernel
theorem dX7_solvedBlocks_5 : decode cX7_solvedBlocks 5 = .ok (.aload_n 0, 1) := by decide +kernel
theorem dX7_solvedBlocks_6 : decode cX7_solvedBlocks 6 = .ok (.getfield 7, 3) := by decide +kernel
theorem dX7_solvedBlocks_9 : decode cX7_solvedBlocks 9 = .ok (.iconst 0, 1) := by decide +kernel
theorem dX7_solvedBlocks_10 : decode cX7_solvedBlocks 10 = .ok (.iaload, 1) := by decide +kernel
theorem dX7_solvedBlocks_11 : decode cX7_solvedBlocks 11 = .ok (.if_icmp .ge 31, 3) := by decide +kernel
theorem dX7_solvedBlocks_14 : decode cX7_solvedBlocks 14 = .ok (.iload_n 1, 1) := by decide +kernel
theorem dX7_solvedBlocks_15 : decode cX7_solvedBlocks 15 = .ok (.aload_n 0, 1) := by decide +kernel
theorem dX7_solvedBlocks_16 : decode cX7_solvedBlocks 16 = .ok (.getfield 7, 3) := by decide +kernel
theorem dX7_solvedBlocks_19 : decode cX7_solvedBlocks 19 = .ok (.bipush 110, 2) := by decide +kernel
theorem dX7_solvedBlocks_21 : decode cX7_solvedBlocks 21 = .ok (.iload_n 2, 1) := by decide +kernel
theorem dX7_solvedBlocks_22 : decode cX7_solvedBlocks 22 = .ok (.iadd, 1) := by decide +kernel
theorem dX7_solvedBlocks_23 : decode cX7_solvedBlocks 23 = .ok (.iaload, 1) := by decide +kernel
theorem dX7_solvedBlocks_24 : decode cX7_solvedBlocks 24 = .ok (.bipush (-9), 2) := by decide +kernel
theorem dX7_solvedBlocks_26 : decode cX7_solvedBlocks 26 = .ok (.if_icmp .eq 7, 3) := by decide +kernel
theorem dX7_solvedBlocks_29 : decode cX7_solvedBlocks 29 = .ok (.iconst 1, 1) := by decide +kernel
theorem dX7_solvedBlocks_30 : decode cX7_solvedBlocks 30 = .ok (.goto 4, 3) := by decide +kernel
theorem dX7_solvedBlocks_33 : decode cX7_solvedBlocks 33 = .ok (.iconst 0, 1) := by decide +kernel
theorem dX7_solvedBlocks_34 : decode cX7_solvedBlocks 34 = .ok (.iadd, 1) := by decide +kernel
theorem dX7_solvedBlocks_35 : decode cX7_solvedBlocks 35 = .ok (.istore_n 1, 1) := by decide +kernel
theorem dX7_solvedBlocks_36 : decode cX7_solvedBlocks 36 = .ok (.iinc 2 1, 3) := by decide +kernel
theorem dX7_solvedBlocks_39 : decode cX7_solvedBlocks 39 = .ok (.goto (-35), 3) := by decide +kernel
theorem dX7_solvedBlocks_42 : decode cX7_solvedBlocks 42 = .ok (.iload_n 1, 1) := by decide +kernel
theorem dX7_solvedBlocks_43 : decode cX7_solvedBlocks 43 = .ok (.ireturn, 1) := by decide +kernel
theorem dX7_told_0 : decode cX7_told 0 = .ok (.iload_n 1, 1) := by decide +kernel
theorem dX7_told_1 : decode cX7_told 1 = .ok (.tableswitch 204 0 16 #[83, 90, 97, 104, 111, 118, 125, 133, 141, 149, 157, 165, 173, 178, 186, 191, 199], 83) := by decide +kernel
theorem dX7_told_84 : decode cX7_told 84 = .ok (.aload_n 0, 1) := by decide +kernel
theorem dX7_told_85 : decode cX7_told 85 = .ok (.getfield 7, 3) := by decide +kernel
theorem dX7_told_88 : decode cX7_told 88 = .ok (.iconst 0, 1) := by decide +kernel
theorem dX7_told_89 : decode cX7_told 89 = .ok (.iaload, 1) := by decide +kernel
theorem dX7_told_90 : decode cX7_told 90 = .ok (.ireturn, 1) := by decide +kernel
theorem dX7_told_91 : decode cX7_told 91 = .ok (.aload_n 0, 1) := by decide +kernel
theorem dX7_told_92 : decode cX7_told 92 = .ok (.getfield 7, 3) := by decide +kernel
theorem dX7_told_95 : decode cX7_told 95 = .ok (.iconst 1, 1) := by decide +kernel
theorem dX7_told_96 : decode cX7_told 96 = .ok (.iaload, 1) := by decide +kernel
theorem dX7_told_97 : decode cX7_told 97 = .ok (.ireturn, 1) := by decide +kernel
theorem dX7_told_98 : decode cX7_told 98 = .ok (.aload_n 0, 1) := by decide +kernel
theorem dX7_told_99 : decode cX7_told 99 = .ok (.getfield 7, 3) := by decide +kernel
theorem dX7_told_102 : decode cX7_told 102 = .ok (.iconst 2, 1) := by decide +kernel
theorem dX7_told_103 : decode cX7_told 103 = .ok (.iaload, 1) := by decide +kernel
theorem dX7_told_104 : decode cX7_told 104 = .ok (.ireturn, 1) := by decide +kernel
theorem dX7_told_105 : decode cX7_told 105 = .ok (.aload_n 0, 1) := by decide +kernel
theorem dX7_told_106 : decode cX7_told 106 = .ok (.getfield 7, 3) := by decide +kernel
theorem dX7_told_109 : decode cX7_told 109 = .ok (.iconst 3, 1) := by decide +kernel
theorem dX7_told_110 : decode cX7_told 110 = .ok (.iaload, 1) := by decide +kernel
theorem dX7_told_111 : decode cX7_told 111 = .ok (.ireturn, 1) := by decide +kernel
theorem dX7_told_112 : decode cX7_told 112 = .ok (.aload_n 0, 1) := by decide +kernel
theorem dX7_told_113 : decode cX7_told 113 = .ok (.getfield 7, 3) := by decide +kernel
theorem dX7_told_116 : decode cX7_told 116 = .ok (.iconst 4, 1) := by decide +kernel
theorem dX7_told_117 : decode cX7_told 117 = .ok (.iaload, 1) := by decide +kernel
theorem dX7_told_118 : decode cX7_told 118 = .ok (.ireturn, 1) := by decide +kernel
theorem dX7_told_119 : decode cX7_told 119 = .ok (.aload_n 0, 1) := by decide +kernel
theorem dX7_told_120 : decode cX7_told 120 = .ok (.getfield 7, 3) := by decide +kernel
theorem dX7_told_123 : decode cX7_told 123 = .ok (.iconst 5, 1) := by decide +kernel
theorem dX7_told_124 : decode cX7_told 124 = .ok (.iaload, 1) := by decide +kernel
theorem dX7_told_125 : decode cX7_told 125 = .ok (.ireturn, 1) := by decide +kernel
theorem dX7_told_126 : decode cX7_told 126 = .ok (.aload_n 0, 1) := by decide +kernel
theorem dX7_told_127 : decode cX7_told 127 = .ok (.getfield 7, 3) := by decide +kernel
theorem dX7_told_130 : decode cX7_told 130 = .ok (.bipush 6, 2) := by decide +kernel
theorem dX7_told_132 : decode cX7_told 132 = .ok (.iaload, 1) := by decide +kernel
theorem dX7_told_133 : decode cX7_told 133 = .ok (.ireturn, 1) := by decide +kernel
theorem dX7_told_134 : decode cX7_told 134 = .ok (.aload_n 0, 1) := by decide +kernel
theorem dX7_told_135 : decode cX7_told 135 = .ok (.getfield 7, 3) := by decide +kernel
theorem dX7_told_138 : decode cX7_told 138 = .ok (.bipush 29, 2) := by decide +kernel
theorem dX7_told_140 : decode cX7_told 140 = .ok (.iaload, 1) := by decide +kernel
theorem dX7_told_141 : decode cX7_told 141 = .ok (.ireturn, 1) := by decide +kernel
theorem dX7_told_142 : decode cX7_told 142 = .ok (.aload_n 0, 1) := by decide +kernel
theorem dX7_told_143 : decode cX7_told 143 = .ok (.getfield 7, 3) := by decide +kernel
theorem dX7_told_146 : decode cX7_told 146 = .ok (.bipush 30, 2) := by decide +kernel
theorem dX7_told_148 : decode cX7_told 148 = .ok (.iaload, 1) := by decide +kernel
theorem dX7_told_149 : decode cX7_told 149 = .ok (.ireturn, 1) := by decide +kernel
theorem dX7_told_150 : decode cX7_told 150 = .ok (.aload_n 0, 1) := by decide +kernel
theorem dX7_told_151 : decode cX7_told 151 = .ok (.getfield 7, 3) := by decide +kernel
theorem dX7_told_154 : decode cX7_told 154 = .ok (.bipush 31, 2) := by decide +kernel
theorem dX7_told_156 : decode cX7_told 156 = .ok (.iaload, 1) := by decide +kernel
theorem dX7_told_157 : decode cX7_told 157 = .ok (.ireturn, 1) := by decide +kernel
theorem dX7_told_158 : decode cX7_told 158 = .ok (.aload_n 0, 1) := by decide +kernel
theorem dX7_told_159 : decode cX7_told 159 = .ok (.getfield 7, 3) := by decide +kernel
theorem dX7_told_162 : decode cX7_told 162 = .ok (.bipush 32, 2) := by decide +kernel
theorem dX7_told_164 : decode cX7_told 164 = .ok (.iaload, 1) := by decide +kernel
theorem dX7_told_165 : decode cX7_told 165 = .ok (.ireturn, 1) := by decide +kernel
theorem dX7_told_166 : decode cX7_told 166 = .ok (.aload_n 0, 1) := by decide +kernel
theorem dX7_told_167 : decode cX7_told 167 = .ok (.getfield 7, 3) := by decide +kernel
theorem dX7_told_170 : decode cX7_told 170 = .ok (.bipush 61, 2) := by decide +kernel
theorem dX7_told_172 : decode cX7_told 172 = .ok (.iaload, 1) := by decide +kernel
theorem dX7_told_173 : decode cX7_told 173 = .ok (.ireturn, 1) := by decide +kernel
theorem dX7_told_174 : decode cX7_told 174 = .ok (.aload_n 0, 1) := by decide +kernel
theorem dX7_told_175 : decode cX7_told 175 = .ok (.invokevirtual 156, 3) := by decide +kernel
theorem dX7_told_178 : decode cX7_told 178 = .ok (.ireturn, 1) := by decide +kernel
theorem dX7_told_179 : decode cX7_told 179 = .ok (.aload_n 0, 1) := by decide +kernel
theorem dX7_told_180 : decode cX7_told 180 = .ok (.getfield 7, 3) := by decide +kernel
theorem dX7_told_183 : decode cX7_told 183 = .ok (.bipush 122, 2) := by decide +kernel
theorem dX7_told_185 : decode cX7_told 185 = .ok (.iaload, 1) := by decide +kernel
theorem dX7_told_186 : decode cX7_told 186 = .ok (.ireturn, 1) := by decide +kernel
theorem dX7_told_187 : decode cX7_told 187 = .ok (.aload_n 0, 1) := by decide +kernel
theorem dX7_told_188 : decode cX7_told 188 = .ok (.invokevirtual 159, 3) := by decide +kernel
theorem dX7_told_191 : decode cX7_told 191 = .ok (.ireturn, 1) := by decide +kernel
theorem dX7_told_192 : decode cX7_told 192 = .ok (.aload_n 0, 1) := by decide +kernel
theorem dX7_told_193 : decode cX7_told 193 = .ok (.getfield 7, 3) := by decide +kernel
theorem dX7_told_196 : decode cX7_told 196 = .ok (.bipush 33, 2) := by decide +kernel
theorem dX7_told_198 : decode cX7_told 198 = .ok (.iaload, 1) := by decide +kernel
theorem dX7_told_199 : decode cX7_told 199 = .ok (.ireturn, 1) := by decide +kernel
theorem dX7_told_200 : decode cX7_told 200 = .ok (.aload_n 0, 1) := by decide +kernel
theorem dX7_told_201 : decode cX7_told 201 = .ok (.getfield 38, 3) := by decide +kernel
theorem dX7_told_204 : decode cX7_told 204 = .ok (.ireturn, 1) := by decide +kernel
theorem dX7_told_205 : decode cX7_told 205 = .ok (.iconst (-1), 1) := by decide +kernel
theorem dX7_told_206 : decode cX7_told 206 = .ok (.ireturn, 1) := by decide +kernel
theorem dX7_block_0 : decode cX7_block 0 = .ok (.aload_n 0, 1) := by decide +kernel
theorem dX7_block_1 : decode cX7_block 1 = .ok (.iload_n 1, 1) := by decide +kernel
theorem dX7_block_2 : decode cX7_block 2 = .ok (.invokevirtual 143, 3) := by decide +kernel
theorem dX7_block_5 : decode cX7_block 5 = .ok (.ifCond .ne 5, 3) := by decide +kernel
theorem dX7_block_8 : decode cX7_block 8 = .ok (.iconst (-1), 1) := by decide +kernel
theorem dX7_block_9 : decode cX7_block 9 = .ok (.ireturn, 1) := by decide +kernel
theorem dX7_block_10 : decode cX7_block 10 = .ok (.iload_n 2, 1) := by decide +kernel
theorem dX7_block_11 : decode cX7_block 11 = .ok (.tableswitch 86 0 4 #[33, 43, 53, 66, 76], 33) := by decide +kernel
theorem dX7_block_44 : decode cX7_block 44 = .ok (.aload_n 0, 1) := by decide +kernel
theorem dX7_block_45 : decode cX7_block 45 = .ok (.getfield 7, 3) := by decide +kernel
theorem dX7_block_48 : decode cX7_block 48 = .ok (.bipush 17, 2) := by decide +kernel
theorem dX7_block_50 : decode cX7_block 50 = .ok (.iload_n 1, 1) := by decide +kernel
theorem dX7_block_51 : decode cX7_block 51 = .ok (.iadd, 1) := by decide +kernel
theorem dX7_block_52 : decode cX7_block 52 = .ok (.iaload, 1) := by decide +kernel
theorem dX7_block_53 : decode cX7_block 53 = .ok (.ireturn, 1) := by decide +kernel
theorem dX7_block_54 : decode cX7_block 54 = .ok (.aload_n 0, 1) := by decide +kernel
theorem dX7_block_55 : decode cX7_block 55 = .ok (.getfield 7, 3) := by decide +kernel
theorem dX7_block_58 : decode cX7_block 58 = .ok (.bipush 86, 2) := by decide +kernel
theorem dX7_block_60 : decode cX7_block 60 = .ok (.iload_n 1, 1) := by decide +kernel
theorem dX7_block_61 : decode cX7_block 61 = .ok (.iadd, 1) := by decide +kernel
theorem dX7_block_62 : decode cX7_block 62 = .ok (.iaload, 1) := by decide +kernel
theorem dX7_block_63 : decode cX7_block 63 = .ok (.ireturn, 1) := by decide +kernel
theorem dX7_block_64 : decode cX7_block 64 = .ok (.aload_n 0, 1) := by decide +kernel
theorem dX7_block_65 : decode cX7_block 65 = .ok (.bipush 61, 2) := by decide +kernel
theorem dX7_block_67 : decode cX7_block 67 = .ok (.invokevirtual 59, 3) := by decide +kernel
theorem dX7_block_70 : decode cX7_block 70 = .ok (.istore_n 3, 1) := by decide +kernel
theorem dX7_block_71 : decode cX7_block 71 = .ok (.aload_n 0, 1) := by decide +kernel
theorem dX7_block_72 : decode cX7_block 72 = .ok (.iload_n 1, 1) := by decide +kernel
theorem dX7_block_73 : decode cX7_block 73 = .ok (.invokevirtual 114, 3) := by decide +kernel
theorem dX7_block_76 : decode cX7_block 76 = .ok (.ireturn, 1) := by decide +kernel
theorem dX7_block_77 : decode cX7_block 77 = .ok (.aload_n 0, 1) := by decide +kernel
theorem dX7_block_78 : decode cX7_block 78 = .ok (.getfield 7, 3) := by decide +kernel
theorem dX7_block_81 : decode cX7_block 81 = .ok (.bipush 98, 2) := by decide +kernel
theorem dX7_block_83 : decode cX7_block 83 = .ok (.iload_n 1, 1) := by decide +kernel
theorem dX7_block_84 : decode cX7_block 84 = .ok (.iadd, 1) := by decide +kernel
theorem dX7_block_85 : decode cX7_block 85 = .ok (.iaload, 1) := by decide +kernel
theorem dX7_block_86 : decode cX7_block 86 = .ok (.ireturn, 1) := by decide +kernel
theorem dX7_block_87 : decode cX7_block 87 = .ok (.aload_n 0, 1) := by decide +kernel
theorem dX7_block_88 : decode cX7_block 88 = .ok (.getfield 7, 3) := by decide +kernel
theorem dX7_block_91 : decode cX7_block 91 = .ok (.bipush 110, 2) := by decide +kernel
theorem dX7_block_93 : decode cX7_block 93 = .ok (.iload_n 1, 1) := by decide +kernel
theorem dX7_block_94 : decode cX7_block 94 = .ok (.iadd, 1) := by decide +kernel
theorem dX7_block_95 : decode cX7_block 95 = .ok (.iaload, 1) := by decide +kernel
theorem dX7_block_96 : decode cX7_block 96 = .ok (.ireturn, 1) := by decide +kernel
theorem dX7_block_97 : decode cX7_block 97 = .ok (.iconst (-1), 1) := by decide +kernel
theorem dX7_block_98 : decode cX7_block 98 = .ok (.ireturn, 1) := by decide +kernel
theorem dX7_listOf_0 : decode cX7_listOf 0 = .ok (.iload_n 1, 1) := by decide +kernel
theorem dX7_listOf_1 : decode cX7_listOf 1 = .ok (.aload_n 0, 1) := by decide +kernel
theorem dX7_listOf_2 : decode cX7_listOf 2 = .ok (.getfield 7, 3) := by decide +kernel
theorem dX7_listOf_5 : decode cX7_listOf 5 = .ok (.iconst 1, 1) := by decide +kernel
theorem dX7_listOf_6 : decode cX7_listOf 6 = .ok (.iaload, 1) := by decide +kernel
theorem dX7_listOf_7 : decode cX7_listOf 7 = .ok (.if_icmp .le 8, 3) := by decide +kernel
theorem dX7_listOf_10 : decode cX7_listOf 10 = .ok (.bipush 61, 2) := by decide +kernel
theorem dX7_listOf_12 : decode cX7_listOf 12 = .ok (.goto 7, 3) := by decide +kernel
theorem dX7_listOf_15 : decode cX7_listOf 15 = .ok (.iload_n 1, 1) := by decide +kernel
theorem dX7_listOf_16 : decode cX7_listOf 16 = .ok (.invokestatic 120, 3) := by decide +kernel
theorem dX7_listOf_19 : decode cX7_listOf 19 = .ok (.ireturn, 1) := by decide +kernel
theorem dX7_part_0 : decode cX7_part 0 = .ok (.iload_n 2, 1) := by decide +kernel
theorem dX7_part_1 : decode cX7_part 1 = .ok (.aload_n 0, 1) := by decide +kernel
theorem dX7_part_2 : decode cX7_part 2 = .ok (.getfield 7, 3) := by decide +kernel
theorem dX7_part_5 : decode cX7_part 5 = .ok (.iload_n 1, 1) := by decide +kernel
theorem dX7_part_6 : decode cX7_part 6 = .ok (.iaload, 1) := by decide +kernel
theorem dX7_part_7 : decode cX7_part 7 = .ok (.if_icmp .lt 6, 3) := by decide +kernel
theorem dX7_part_10 : decode cX7_part 10 = .ok (.bipush (-9), 2) := by decide +kernel
theorem dX7_part_12 : decode cX7_part 12 = .ok (.ireturn, 1) := by decide +kernel
theorem dX7_part_13 : decode cX7_part 13 = .ok (.aload_n 0, 1) := by decide +kernel
theorem dX7_part_14 : decode cX7_part 14 = .ok (.getfield 7, 3) := by decide +kernel
theorem dX7_part_17 : decode cX7_part 17 = .ok (.iload_n 1, 1) := by decide +kernel
theorem dX7_part_18 : decode cX7_part 18 = .ok (.iload_n 2, 1) := by decide +kernel
theorem dX7_part_19 : decode cX7_part 19 = .ok (.invokestatic 42, 3) := by decide +kernel
theorem dX7_part_22 : decode cX7_part 22 = .ok (.iaload, 1) := by decide +kernel
theorem dX7_part_23 : decode cX7_part 23 = .ok (.istore 4, 2) := by decide +kernel
theorem dX7_part_25 : decode cX7_part 25 = .ok (.iload_n 3, 1) := by decide +kernel
theorem dX7_part_26 : decode cX7_part 26 = .ok (.ifCond .ne 8, 3) := by decide +kernel
theorem dX7_part_29 : decode cX7_part 29 = .ok (.iload 4, 2) := by decide +kernel
theorem dX7_part_31 : decode cX7_part 31 = .ok (.goto 28, 3) := by decide +kernel
theorem dX7_part_34 : decode cX7_part 34 = .ok (.iload_n 3, 1) := by decide +kernel
theorem dX7_part_35 : decode cX7_part 35 = .ok (.iconst 1, 1) := by decide +kernel
theorem dX7_part_36 : decode cX7_part 36 = .ok (.if_icmp .ne 18, 3) := by decide +kernel
theorem dX7_part_39 : decode cX7_part 39 = .ok (.aload_n 0, 1) := by decide +kernel
theorem dX7_part_40 : decode cX7_part 40 = .ok (.getfield 7, 3) := by decide +kernel
theorem dX7_part_43 : decode cX7_part 43 = .ok (.iload_n 1, 1) := by decide +kernel
theorem dX7_part_44 : decode cX7_part 44 = .ok (.iload_n 2, 1) := by decide +kernel
theorem dX7_part_45 : decode cX7_part 45 = .ok (.invokestatic 42, 3) := by decide +kernel
theorem dX7_part_48 : decode cX7_part 48 = .ok (.iconst 1, 1) := by decide +kernel
theorem dX7_part_49 : decode cX7_part 49 = .ok (.iadd, 1) := by decide +kernel
theorem dX7_part_50 : decode cX7_part 50 = .ok (.iaload, 1) := by decide +kernel
theorem dX7_part_51 : decode cX7_part 51 = .ok (.goto 8, 3) := by decide +kernel
theorem dX7_part_54 : decode cX7_part 54 = .ok (.iload 4, 2) := by decide +kernel
theorem dX7_part_56 : decode cX7_part 56 = .ok (.invokestatic 92, 3) := by decide +kernel
theorem dX7_part_59 : decode cX7_part 59 = .ok (.ireturn, 1) := by decide +kernel
theorem dX7_hasList_0 : decode cX7_hasList 0 = .ok (.iload_n 1, 1) := by decide +kernel
theorem dX7_hasList_1 : decode cX7_hasList 1 = .ok (.iconst 1, 1) := by decide +kernel
theorem dX7_hasList_2 : decode cX7_hasList 2 = .ok (.aload_n 0, 1) := by decide +kernel
theorem dX7_hasList_3 : decode cX7_hasList 3 = .ok (.getfield 7, 3) := by decide +kernel
theorem dX7_hasList_6 : decode cX7_hasList 6 = .ok (.iconst 1, 1) := by decide +kernel
theorem dX7_hasList_7 : decode cX7_hasList 7 = .ok (.iaload, 1) := by decide +kernel
theorem dX7_hasList_8 : decode cX7_hasList 8 = .ok (.iconst 1, 1) := by decide +kernel
theorem dX7_hasList_9 : decode cX7_hasList 9 = .ok (.iadd, 1) := by decide +kernel
theorem dX7_hasList_10 : decode cX7_hasList 10 = .ok (.invokestatic 136, 3) := by decide +kernel
theorem dX7_hasList_13 : decode cX7_hasList 13 = .ok (.ireturn, 1) := by decide +kernel
theorem dX7_packet_0 : decode cX7_packet 0 = .ok (.aload_n 0, 1) := by decide +kernel
theorem dX7_packet_1 : decode cX7_packet 1 = .ok (.iload_n 1, 1) := by decide +kernel
theorem dX7_packet_2 : decode cX7_packet 2 = .ok (.invokevirtual 162, 3) := by decide +kernel
theorem dX7_packet_5 : decode cX7_packet 5 = .ok (.ifCond .eq 30, 3) := by decide +kernel
theorem dX7_packet_8 : decode cX7_packet 8 = .ok (.iload_n 2, 1) := by decide +kernel
theorem dX7_packet_9 : decode cX7_packet 9 = .ok (.ifCond .lt 26, 3) := by decide +kernel
theorem dX7_packet_12 : decode cX7_packet 12 = .ok (.iload_n 3, 1) := by decide +kernel
theorem dX7_packet_13 : decode cX7_packet 13 = .ok (.iconst 0, 1) := by decide +kernel
theorem dX7_packet_14 : decode cX7_packet 14 = .ok (.iconst 2, 1) := by decide +kernel
theorem dX7_packet_15 : decode cX7_packet 15 = .ok (.invokestatic 136, 3) := by decide +kernel
theorem dX7_packet_18 : decode cX7_packet 18 = .ok (.ifCond .eq 17, 3) := by decide +kernel
theorem dX7_packet_21 : decode cX7_packet 21 = .ok (.aload_n 0, 1) := by decide +kernel
theorem dX7_packet_22 : decode cX7_packet 22 = .ok (.aload_n 0, 1) := by decide +kernel
theorem dX7_packet_23 : decode cX7_packet 23 = .ok (.iload_n 1, 1) := by decide +kernel
theorem dX7_packet_24 : decode cX7_packet 24 = .ok (.invokevirtual 165, 3) := by decide +kernel
theorem dX7_packet_27 : decode cX7_packet 27 = .ok (.iload_n 2, 1) := by decide +kernel
theorem dX7_packet_28 : decode cX7_packet 28 = .ok (.iload_n 3, 1) := by decide +kernel
theorem dX7_packet_29 : decode cX7_packet 29 = .ok (.invokevirtual 168, 3) := by decide +kernel
theorem dX7_packet_32 : decode cX7_packet 32 = .ok (.goto 4, 3) := by decide +kernel
theorem dX7_packet_35 : decode cX7_packet 35 = .ok (.iconst (-1), 1) := by decide +kernel
theorem dX7_packet_36 : decode cX7_packet 36 = .ok (.ireturn, 1) := by decide +kernel
theorem dX7_waiting_0 : decode cX7_waiting 0 = .ok (.iload_n 1, 1) := by decide +kernel
theorem dX7_waiting_1 : decode cX7_waiting 1 = .ok (.ifCond .lt 23, 3) := by decide +kernel
theorem dX7_waiting_4 : decode cX7_waiting 4 = .ok (.iload_n 2, 1) := by decide +kernel
theorem dX7_waiting_5 : decode cX7_waiting 5 = .ok (.iconst 0, 1) := by decide +kernel
theorem dX7_waiting_6 : decode cX7_waiting 6 = .ok (.iconst 2, 1) := by decide +kernel
theorem dX7_waiting_7 : decode cX7_waiting 7 = .ok (.invokestatic 136, 3) := by decide +kernel
theorem dX7_waiting_10 : decode cX7_waiting 10 = .ok (.ifCond .eq 14, 3) := by decide +kernel
theorem dX7_waiting_13 : decode cX7_waiting 13 = .ok (.aload_n 0, 1) := by decide +kernel
theorem dX7_waiting_14 : decode cX7_waiting 14 = .ok (.bipush 122, 2) := by decide +kernel
theorem dX7_waiting_16 : decode cX7_waiting 16 = .ok (.iload_n 1, 1) := by decide +kernel
theorem dX7_waiting_17 : decode cX7_waiting 17 = .ok (.iload_n 2, 1) := by decide +kernel
theorem dX7_waiting_18 : decode cX7_waiting 18 = .ok (.invokevirtual 168, 3) := by decide +kernel
theorem dX7_waiting_21 : decode cX7_waiting 21 = .ok (.goto 4, 3) := by decide +kernel
theorem dX7_waiting_24 : decode cX7_waiting 24 = .ok (.iconst (-1), 1) := by decide +kernel
theorem dX7_waiting_25 : decode cX7_waiting 25 = .ok (.ireturn, 1) := by decide +kernel
theorem dX7_node_0 : decode cX7_node 0 = .ok (.iload_n 1, 1) := by decide +kernel
theorem dX7_node_1 : decode cX7_node 1 = .ok (.iconst 0, 1) := by decide +kernel
theorem dX7_node_2 : decode cX7_node 2 = .ok (.aload_n 0, 1) := by decide +kernel
theorem dX7_node_3 : decode cX7_node 3 = .ok (.getfield 7, 3) := by decide +kernel
theorem dX7_node_6 : decode cX7_node 6 = .ok (.iconst 1, 1) := by decide +kernel
theorem dX7_node_7 : decode cX7_node 7 = .ok (.iaload, 1) := by decide +kernel
theorem dX7_node_8 : decode cX7_node 8 = .ok (.iconst 1, 1) := by decide +kernel
theorem dX7_node_9 : decode cX7_node 9 = .ok (.iadd, 1) := by decide +kernel
theorem dX7_node_10 : decode cX7_node 10 = .ok (.invokestatic 136, 3) := by decide +kernel
theorem dX7_node_13 : decode cX7_node 13 = .ok (.ifCond .eq 12, 3) := by decide +kernel
theorem dX7_node_16 : decode cX7_node 16 = .ok (.iload_n 2, 1) := by decide +kernel
theorem dX7_node_17 : decode cX7_node 17 = .ok (.iconst 0, 1) := by decide +kernel
theorem dX7_node_18 : decode cX7_node 18 = .ok (.iconst 2, 1) := by decide +kernel
theorem dX7_node_19 : decode cX7_node 19 = .ok (.invokestatic 136, 3) := by decide +kernel
theorem dX7_node_22 : decode cX7_node 22 = .ok (.ifCond .ne 5, 3) := by decide +kernel
theorem dX7_node_25 : decode cX7_node 25 = .ok (.iconst (-1), 1) := by decide +kernel
theorem dX7_node_26 : decode cX7_node 26 = .ok (.ireturn, 1) := by decide +kernel
theorem dX7_node_27 : decode cX7_node 27 = .ok (.iload_n 2, 1) := by decide +kernel
theorem dX7_node_28 : decode cX7_node 28 = .ok (.iconst 2, 1) := by decide +kernel
theorem dX7_node_29 : decode cX7_node 29 = .ok (.if_icmp .ne 28, 3) := by decide +kernel
theorem dX7_node_32 : decode cX7_node 32 = .ok (.iload_n 1, 1) := by decide +kernel
theorem dX7_node_33 : decode cX7_node 33 = .ok (.aload_n 0, 1) := by decide +kernel
theorem dX7_node_34 : decode cX7_node 34 = .ok (.getfield 7, 3) := by decide +kernel
theorem dX7_node_37 : decode cX7_node 37 = .ok (.iconst 1, 1) := by decide +kernel
theorem dX7_node_38 : decode cX7_node 38 = .ok (.iaload, 1) := by decide +kernel
theorem dX7_node_39 : decode cX7_node 39 = .ok (.if_icmp .le 8, 3) := by decide +kernel
theorem dX7_node_42 : decode cX7_node 42 = .ok (.bipush (-9), 2) := by decide +kernel
theorem dX7_node_44 : decode cX7_node 44 = .ok (.goto 12, 3) := by decide +kernel
theorem dX7_node_47 : decode cX7_node 47 = .ok (.aload_n 0, 1) := by decide +kernel
theorem dX7_node_48 : decode cX7_node 48 = .ok (.getfield 7, 3) := by decide +kernel
theorem dX7_node_51 : decode cX7_node 51 = .ok (.bipush 7, 2) := by decide +kernel
theorem dX7_node_53 : decode cX7_node 53 = .ok (.iload_n 1, 1) := by decide +kernel
theorem dX7_node_54 : decode cX7_node 54 = .ok (.iadd, 1) := by decide +kernel
theorem dX7_node_55 : decode cX7_node 55 = .ok (.iaload, 1) := by decide +kernel
theorem dX7_node_56 : decode cX7_node 56 = .ok (.ireturn, 1) := by decide +kernel
theorem dX7_node_57 : decode cX7_node 57 = .ok (.iload_n 1, 1) := by decide +kernel
theorem dX7_node_58 : decode cX7_node 58 = .ok (.ifCond .ne 12, 3) := by decide +kernel
theorem dX7_node_61 : decode cX7_node 61 = .ok (.aload_n 0, 1) := by decide +kernel
theorem dX7_node_62 : decode cX7_node 62 = .ok (.getfield 7, 3) := by decide +kernel
theorem dX7_node_65 : decode cX7_node 65 = .ok (.iconst 0, 1) := by decide +kernel
theorem dX7_node_66 : decode cX7_node 66 = .ok (.iaload, 1) := by decide +kernel
theorem dX7_node_67 : decode cX7_node 67 = .ok (.goto 29, 3) := by decide +kernel
theorem dX7_node_70 : decode cX7_node 70 = .ok (.iload_n 2, 1) := by decide +kernel
theorem dX7_node_71 : decode cX7_node 71 = .ok (.ifCond .ne 16, 3) := by decide +kernel
theorem dX7_node_74 : decode cX7_node 74 = .ok (.aload_n 0, 1) := by decide +kernel
theorem dX7_node_75 : decode cX7_node 75 = .ok (.getfield 7, 3) := by decide +kernel
theorem dX7_node_78 : decode cX7_node 78 = .ok (.aload_n 0, 1) := by decide +kernel
theorem dX7_node_79 : decode cX7_node 79 = .ok (.iload_n 1, 1) := by decide +kernel
theorem dX7_node_80 : decode cX7_node 80 = .ok (.invokevirtual 165, 3) := by decide +kernel
theorem dX7_node_83 : decode cX7_node 83 = .ok (.iaload, 1) := by decide +kernel
theorem dX7_node_84 : decode cX7_node 84 = .ok (.goto 12, 3) := by decide +kernel
theorem dX7_node_87 : decode cX7_node 87 = .ok (.aload_n 0, 1) := by decide +kernel
theorem dX7_node_88 : decode cX7_node 88 = .ok (.aload_n 0, 1) := by decide +kernel
theorem dX7_node_89 : decode cX7_node 89 = .ok (.iload_n 1, 1) := by decide +kernel
theorem dX7_node_90 : decode cX7_node 90 = .ok (.invokevirtual 165, 3) := by decide +kernel
theorem dX7_node_93 : decode cX7_node 93 = .ok (.invokevirtual 59, 3) := by decide +kernel
theorem dX7_node_96 : decode cX7_node 96 = .ok (.ireturn, 1) := by decide +kernel
theorem dX7_novel_0 : decode cX7_novel 0 = .ok (.aload_n 0, 1) := by decide +kernel
theorem dX7_novel_1 : decode cX7_novel 1 = .ok (.iload_n 1, 1) := by decide +kernel
theorem dX7_novel_2 : decode cX7_novel 2 = .ok (.invokevirtual 162, 3) := by decide +kernel
theorem dX7_novel_5 : decode cX7_novel 5 = .ok (.ifCond .eq 11, 3) := by decide +kernel
theorem dX7_novel_8 : decode cX7_novel 8 = .ok (.aload_n 0, 1) := by decide +kernel
theorem dX7_novel_9 : decode cX7_novel 9 = .ok (.iload_n 2, 1) := by decide +kernel
theorem dX7_novel_10 : decode cX7_novel 10 = .ok (.invokevirtual 153, 3) := by decide +kernel
theorem dX7_novel_13 : decode cX7_novel 13 = .ok (.ifCond .ne 5, 3) := by decide +kernel
theorem dX7_novel_16 : decode cX7_novel 16 = .ok (.iconst (-1), 1) := by decide +kernel
theorem dX7_novel_17 : decode cX7_novel 17 = .ok (.ireturn, 1) := by decide +kernel
theorem dX7_novel_18 : decode cX7_novel 18 = .ok (.aload_n 0, 1) := by decide +kernel
theorem dX7_novel_19 : decode cX7_novel 19 = .ok (.aload_n 0, 1) := by decide +kernel
theorem dX7_novel_20 : decode cX7_novel 20 = .ok (.iload_n 1, 1) := by decide +kernel
theorem dX7_novel_21 : decode cX7_novel 21 = .ok (.invokevirtual 165, 3) := by decide +kernel
theorem dX7_novel_24 : decode cX7_novel 24 = .ok (.iload_n 2, 1) := by decide +kernel
theorem dX7_novel_25 : decode cX7_novel 25 = .ok (.invokevirtual 95, 3) := by decide +kernel
theorem dX7_novel_28 : decode cX7_novel 28 = .ok (.ifCond .eq 7, 3) := by decide +kernel
theorem dX7_novel_31 : decode cX7_novel 31 = .ok (.iconst 1, 1) := by decide +kernel
theorem dX7_novel_32 : decode cX7_novel 32 = .ok (.goto 4, 3) := by decide +kernel
theorem dX7_novel_35 : decode cX7_novel 35 = .ok (.iconst 0, 1) := by decide +kernel
theorem dX7_novel_36 : decode cX7_novel 36 = .ok (.ireturn, 1) := by decide +kernel
theorem dX7_overhead_0 : decode cX7_overhead 0 = .ok (.aload_n 0, 1) := by decide +kernel
theorem dX7_overhead_1 : decode cX7_overhead 1 = .ok (.getfield 7, 3) := by decide +kernel
theorem dX7_overhead_4 : decode cX7_overhead 4 = .ok (.bipush 61, 2) := by decide +kernel
theorem dX7_overhead_6 : decode cX7_overhead 6 = .ok (.iaload, 1) := by decide +kernel
theorem dX7_overhead_7 : decode cX7_overhead 7 = .ok (.ifCond .ne 7, 3) := by decide +kernel
theorem dX7_overhead_10 : decode cX7_overhead 10 = .ok (.fconst 0, 1) := by decide +kernel
theorem dX7_overhead_11 : decode cX7_overhead 11 = .ok (.goto 20, 3) := by decide +kernel
theorem dX7_overhead_14 : decode cX7_overhead 14 = .ok (.aload_n 0, 1) := by decide +kernel
theorem dX7_overhead_15 : decode cX7_overhead 15 = .ok (.getfield 7, 3) := by decide +kernel
theorem dX7_overhead_18 : decode cX7_overhead 18 = .ok (.bipush 31, 2) := by decide +kernel
theorem dX7_overhead_20 : decode cX7_overhead 20 = .ok (.iaload, 1) := by decide +kernel
theorem dX7_overhead_21 : decode cX7_overhead 21 = .ok (.i2f, 1) := by decide +kernel
theorem dX7_overhead_22 : decode cX7_overhead 22 = .ok (.aload_n 0, 1) := by decide +kernel
theorem dX7_overhead_23 : decode cX7_overhead 23 = .ok (.getfield 7, 3) := by decide +kernel
theorem dX7_overhead_26 : decode cX7_overhead 26 = .ok (.bipush 61, 2) := by decide +kernel
theorem dX7_overhead_28 : decode cX7_overhead 28 = .ok (.iaload, 1) := by decide +kernel
theorem dX7_overhead_29 : decode cX7_overhead 29 = .ok (.i2f, 1) := by decide +kernel
theorem dX7_overhead_30 : decode cX7_overhead 30 = .ok (.fdiv, 1) := by decide +kernel
theorem dX7_overhead_31 : decode cX7_overhead 31 = .ok (.freturn, 1) := by decide +kernel
theorem dX7_hold_0 : decode cX7_hold 0 = .ok (.iconst 0, 1) := by decide +kernel
theorem dX7_hold_1 : decode cX7_hold 1 = .ok (.istore_n 1, 1) := by decide +kernel
theorem dX7_hold_2 : decode cX7_hold 2 = .ok (.iload_n 1, 1) := by decide +kernel
theorem dX7_hold_3 : decode cX7_hold 3 = .ok (.sipush 165, 3) := by decide +kernel
theorem dX7_hold_6 : decode cX7_hold 6 = .ok (.if_icmp .ge 21, 3) := by decide +kernel
theorem dX7_hold_9 : decode cX7_hold 9 = .ok (.aload_n 0, 1) := by decide +kernel
theorem dX7_hold_10 : decode cX7_hold 10 = .ok (.getfield 31, 3) := by decide +kernel
theorem dX7_hold_13 : decode cX7_hold 13 = .ok (.iload_n 1, 1) := by decide +kernel
theorem dX7_hold_14 : decode cX7_hold 14 = .ok (.aload_n 0, 1) := by decide +kernel
theorem dX7_hold_15 : decode cX7_hold 15 = .ok (.getfield 7, 3) := by decide +kernel
theorem dX7_hold_18 : decode cX7_hold 18 = .ok (.iload_n 1, 1) := by decide +kernel
theorem dX7_hold_19 : decode cX7_hold 19 = .ok (.iaload, 1) := by decide +kernel
theorem dX7_hold_20 : decode cX7_hold 20 = .ok (.iastore, 1) := by decide +kernel
theorem dX7_hold_21 : decode cX7_hold 21 = .ok (.iinc 1 1, 3) := by decide +kernel
theorem dX7_hold_24 : decode cX7_hold 24 = .ok (.goto (-22), 3) := by decide +kernel
theorem dX7_hold_27 : decode cX7_hold 27 = .ok (.return_, 1) := by decide +kernel
theorem dX7_release_0 : decode cX7_release 0 = .ok (.iconst 0, 1) := by decide +kernel
theorem dX7_release_1 : decode cX7_release 1 = .ok (.istore_n 1, 1) := by decide +kernel
theorem dX7_release_2 : decode cX7_release 2 = .ok (.iload_n 1, 1) := by decide +kernel
theorem dX7_release_3 : decode cX7_release 3 = .ok (.sipush 165, 3) := by decide +kernel
theorem dX7_release_6 : decode cX7_release 6 = .ok (.if_icmp .ge 21, 3) := by decide +kernel
theorem dX7_release_9 : decode cX7_release 9 = .ok (.aload_n 0, 1) := by decide +kernel
theorem dX7_release_10 : decode cX7_release 10 = .ok (.getfield 7, 3) := by decide +kernel
theorem dX7_release_13 : decode cX7_release 13 = .ok (.iload_n 1, 1) := by decide +kernel
theorem dX7_release_14 : decode cX7_release 14 = .ok (.aload_n 0, 1) := by decide +kernel
theorem dX7_release_15 : decode cX7_release 15 = .ok (.getfield 31, 3) := by decide +kernel
theorem dX7_release_18 : decode cX7_release 18 = .ok (.iload_n 1, 1) := by decide +kernel
theorem dX7_release_19 : decode cX7_release 19 = .ok (.iaload, 1) := by decide +kernel
theorem dX7_release_20 : decode cX7_release 20 = .ok (.iastore, 1) := by decide +kernel
theorem dX7_release_21 : decode cX7_release 21 = .ok (.iinc 1 1, 3) := by decide +kernel
theorem dX7_release_24 : decode cX7_release 24 = .ok (.goto (-22), 3) := by decide +kernel
theorem dX7_release_27 : decode cX7_release 27 = .ok (.return_, 1) := by decide +kernel
theorem dX7_isWhole_0 : decode cX7_isWhole 0 = .ok (.iload_n 1, 1) := by decide +kernel
theorem dX7_isWhole_1 : decode cX7_isWhole 1 = .ok (.ifCond .ne 10, 3) := by decide +kernel
theorem dX7_isWhole_4 : decode cX7_isWhole 4 = .ok (.aload_n 0, 1) := by decide +kernel
theorem dX7_isWhole_5 : decode cX7_isWhole 5 = .ok (.invokevirtual 156, 3) := by decide +kernel
theorem dX7_isWhole_8 : decode cX7_isWhole 8 = .ok (.goto 10, 3) := by decide +kernel
theorem dX7_isWhole_11 : decode cX7_isWhole 11 = .ok (.aload_n 0, 1) := by decide +kernel
theorem dX7_isWhole_12 : decode cX7_isWhole 12 = .ok (.getfield 7, 3) := by decide +kernel
theorem dX7_isWhole_15 : decode cX7_isWhole 15 = .ok (.bipush 61, 2) := by decide +kernel
theorem dX7_isWhole_17 : decode cX7_isWhole 17 = .ok (.iaload, 1) := by decide +kernel
theorem dX7_isWhole_18 : decode cX7_isWhole 18 = .ok (.aload_n 0, 1) := by decide +kernel
theorem dX7_isWhole_19 : decode cX7_isWhole 19 = .ok (.getfield 7, 3) := by decide +kernel
theorem dX7_isWhole_22 : decode cX7_isWhole 22 = .ok (.iconst 0, 1) := by decide +kernel
theorem dX7_isWhole_23 : decode cX7_isWhole 23 = .ok (.iaload, 1) := by decide +kernel
theorem dX7_isWhole_24 : decode cX7_isWhole 24 = .ok (.if_icmp .ne 7, 3) := by decide +kernel
theorem dX7_isWhole_27 : decode cX7_isWhole 27 = .ok (.iconst 1, 1) := by decide +kernel
theorem dX7_isWhole_28 : decode cX7_isWhole 28 = .ok (.goto 4, 3) := by decide +kernel
theorem dX7_isWhole_31 : decode cX7_isWhole 31 = .ok (.iconst 0, 1) := by decide +kernel
theorem dX7_isWhole_32 : decode cX7_isWhole 32 = .ok (.ireturn, 1) := by decide +kernel
theorem dX7_ticksTo_0 : decode cX7_ticksTo 0 = .ok (.iconst 0, 1) := by decide +kernel
theorem dX7_ticksTo_1 : decode cX7_ticksTo 1 = .ok (.istore_n 3, 1) := by decide +kernel
theorem dX7_ticksTo_2 : decode cX7_ticksTo 2 = .ok (.iload_n 3, 1) := by decide +kernel
theorem dX7_ticksTo_3 : decode cX7_ticksTo 3 = .ok (.iload_n 2, 1) := by decide +kernel
theorem dX7_ticksTo_4 : decode cX7_ticksTo 4 = .ok (.if_icmp .ge 21, 3) := by decide +kernel
theorem dX7_ticksTo_7 : decode cX7_ticksTo 7 = .ok (.aload_n 0, 1) := by decide +kernel
theorem dX7_ticksTo_8 : decode cX7_ticksTo 8 = .ok (.iload_n 1, 1) := by decide +kernel
theorem dX7_ticksTo_9 : decode cX7_ticksTo 9 = .ok (.invokevirtual 172, 3) := by decide +kernel
theorem dX7_ticksTo_12 : decode cX7_ticksTo 12 = .ok (.ifCond .ne 13, 3) := by decide +kernel
theorem dX7_ticksTo_15 : decode cX7_ticksTo 15 = .ok (.aload_n 0, 1) := by decide +kernel
theorem dX7_ticksTo_16 : decode cX7_ticksTo 16 = .ok (.invokevirtual 150, 3) := by decide +kernel
theorem dX7_ticksTo_19 : decode cX7_ticksTo 19 = .ok (.iinc 3 1, 3) := by decide +kernel
theorem dX7_ticksTo_22 : decode cX7_ticksTo 22 = .ok (.goto (-20), 3) := by decide +kernel
theorem dX7_ticksTo_25 : decode cX7_ticksTo 25 = .ok (.aload_n 0, 1) := by decide +kernel
theorem dX7_ticksTo_26 : decode cX7_ticksTo 26 = .ok (.iload_n 1, 1) := by decide +kernel
theorem dX7_ticksTo_27 : decode cX7_ticksTo 27 = .ok (.invokevirtual 172, 3) := by decide +kernel
theorem dX7_ticksTo_30 : decode cX7_ticksTo 30 = .ok (.ifCond .eq 7, 3) := by decide +kernel
theorem dX7_ticksTo_33 : decode cX7_ticksTo 33 = .ok (.iload_n 3, 1) := by decide +kernel
theorem dX7_ticksTo_34 : decode cX7_ticksTo 34 = .ok (.goto 5, 3) := by decide +kernel
theorem dX7_ticksTo_37 : decode cX7_ticksTo 37 = .ok (.bipush (-9), 2) := by decide +kernel
theorem dX7_ticksTo_39 : decode cX7_ticksTo 39 = .ok (.ireturn, 1) := by decide +kernel
theorem dX7_forecast_0 : decode cX7_forecast 0 = .ok (.iload_n 1, 1) := by decide +kernel
theorem dX7_forecast_1 : decode cX7_forecast 1 = .ok (.iconst 0, 1) := by decide +kernel
theorem dX7_forecast_2 : decode cX7_forecast 2 = .ok (.iconst 1, 1) := by decide +kernel
theorem dX7_forecast_3 : decode cX7_forecast 3 = .ok (.invokestatic 136, 3) := by decide +kernel
theorem dX7_forecast_6 : decode cX7_forecast 6 = .ok (.ifCond .ne 5, 3) := by decide +kernel
theorem dX7_forecast_9 : decode cX7_forecast 9 = .ok (.iconst (-1), 1) := by decide +kernel
theorem dX7_forecast_10 : decode cX7_forecast 10 = .ok (.ireturn, 1) := by decide +kernel
theorem dX7_forecast_11 : decode cX7_forecast 11 = .ok (.aload_n 0, 1) := by decide +kernel
theorem dX7_forecast_12 : decode cX7_forecast 12 = .ok (.invokevirtual 175, 3) := by decide +kernel
theorem dX7_forecast_15 : decode cX7_forecast 15 = .ok (.aload_n 0, 1) := by decide +kernel
theorem dX7_forecast_16 : decode cX7_forecast 16 = .ok (.iload_n 1, 1) := by decide +kernel
theorem dX7_forecast_17 : decode cX7_forecast 17 = .ok (.sipush 300, 3) := by decide +kernel
theorem dX7_forecast_20 : decode cX7_forecast 20 = .ok (.invokevirtual 178, 3) := by decide +kernel
theorem dX7_forecast_23 : decode cX7_forecast 23 = .ok (.istore_n 2, 1) := by decide +kernel
theorem dX7_forecast_24 : decode cX7_forecast 24 = .ok (.aload_n 0, 1) := by decide +kernel
theorem dX7_forecast_25 : decode cX7_forecast 25 = .ok (.invokevirtual 181, 3) := by decide +kernel
theorem dX7_forecast_28 : decode cX7_forecast 28 = .ok (.iload_n 2, 1) := by decide +kernel
theorem dX7_forecast_29 : decode cX7_forecast 29 = .ok (.ireturn, 1) := by decide +kernel
theorem dX7_bestPolicy_0 : decode cX7_bestPolicy 0 = .ok (.aload_n 0, 1) := by decide +kernel
theorem dX7_bestPolicy_1 : decode cX7_bestPolicy 1 = .ok (.invokevirtual 175, 3) := by decide +kernel
theorem dX7_bestPolicy_4 : decode cX7_bestPolicy 4 = .ok (.bipush (-9), 2) := by decide +kernel
theorem dX7_bestPolicy_6 : decode cX7_bestPolicy 6 = .ok (.istore_n 1, 1) := by decide +kernel
theorem dX7_bestPolicy_7 : decode cX7_bestPolicy 7 = .ok (.sipush 301, 3) := by decide +kernel
theorem dX7_bestPolicy_10 : decode cX7_bestPolicy 10 = .ok (.istore_n 2, 1) := by decide +kernel
theorem dX7_bestPolicy_11 : decode cX7_bestPolicy 11 = .ok (.iconst 0, 1) := by decide +kernel
theorem dX7_bestPolicy_12 : decode cX7_bestPolicy 12 = .ok (.istore_n 3, 1) := by decide +kernel
theorem dX7_bestPolicy_13 : decode cX7_bestPolicy 13 = .ok (.iload_n 3, 1) := by decide +kernel
theorem dX7_bestPolicy_14 : decode cX7_bestPolicy 14 = .ok (.iconst 4, 1) := by decide +kernel
theorem dX7_bestPolicy_15 : decode cX7_bestPolicy 15 = .ok (.if_icmp .ge 48, 3) := by decide +kernel
theorem dX7_bestPolicy_18 : decode cX7_bestPolicy 18 = .ok (.aload_n 0, 1) := by decide +kernel
theorem dX7_bestPolicy_19 : decode cX7_bestPolicy 19 = .ok (.getfield 7, 3) := by decide +kernel
theorem dX7_bestPolicy_22 : decode cX7_bestPolicy 22 = .ok (.iconst 4, 1) := by decide +kernel
theorem dX7_bestPolicy_23 : decode cX7_bestPolicy 23 = .ok (.iload_n 3, 1) := by decide +kernel
theorem dX7_bestPolicy_24 : decode cX7_bestPolicy 24 = .ok (.iastore, 1) := by decide +kernel
theorem dX7_bestPolicy_25 : decode cX7_bestPolicy 25 = .ok (.aload_n 0, 1) := by decide +kernel
theorem dX7_bestPolicy_26 : decode cX7_bestPolicy 26 = .ok (.iconst 1, 1) := by decide +kernel
theorem dX7_bestPolicy_27 : decode cX7_bestPolicy 27 = .ok (.sipush 300, 3) := by decide +kernel
theorem dX7_bestPolicy_30 : decode cX7_bestPolicy 30 = .ok (.invokevirtual 178, 3) := by decide +kernel
theorem dX7_bestPolicy_33 : decode cX7_bestPolicy 33 = .ok (.istore 4, 2) := by decide +kernel
theorem dX7_bestPolicy_35 : decode cX7_bestPolicy 35 = .ok (.aload_n 0, 1) := by decide +kernel
theorem dX7_bestPolicy_36 : decode cX7_bestPolicy 36 = .ok (.invokevirtual 181, 3) := by decide +kernel
theorem dX7_bestPolicy_39 : decode cX7_bestPolicy 39 = .ok (.iload 4, 2) := by decide +kernel
theorem dX7_bestPolicy_41 : decode cX7_bestPolicy 41 = .ok (.bipush (-9), 2) := by decide +kernel
theorem dX7_bestPolicy_43 : decode cX7_bestPolicy 43 = .ok (.if_icmp .eq 14, 3) := by decide +kernel
theorem dX7_bestPolicy_46 : decode cX7_bestPolicy 46 = .ok (.iload 4, 2) := by decide +kernel
theorem dX7_bestPolicy_48 : decode cX7_bestPolicy 48 = .ok (.iload_n 2, 1) := by decide +kernel
theorem dX7_bestPolicy_49 : decode cX7_bestPolicy 49 = .ok (.if_icmp .ge 8, 3) := by decide +kernel
theorem dX7_bestPolicy_52 : decode cX7_bestPolicy 52 = .ok (.iload_n 3, 1) := by decide +kernel
theorem dX7_bestPolicy_53 : decode cX7_bestPolicy 53 = .ok (.istore_n 1, 1) := by decide +kernel
theorem dX7_bestPolicy_54 : decode cX7_bestPolicy 54 = .ok (.iload 4, 2) := by decide +kernel
theorem dX7_bestPolicy_56 : decode cX7_bestPolicy 56 = .ok (.istore_n 2, 1) := by decide +kernel
theorem dX7_bestPolicy_57 : decode cX7_bestPolicy 57 = .ok (.iinc 3 1, 3) := by decide +kernel
theorem dX7_bestPolicy_60 : decode cX7_bestPolicy 60 = .ok (.goto (-47), 3) := by decide +kernel
theorem dX7_bestPolicy_63 : decode cX7_bestPolicy 63 = .ok (.iload_n 1, 1) := by decide +kernel
theorem dX7_bestPolicy_64 : decode cX7_bestPolicy 64 = .ok (.ireturn, 1) := by decide +kernel
theorem dX7_bearable_0 : decode cX7_bearable 0 = .ok (.iload_n 1, 1) := by decide +kernel
theorem dX7_bearable_1 : decode cX7_bearable 1 = .ok (.iconst 0, 1) := by decide +kernel
theorem dX7_bearable_2 : decode cX7_bearable 2 = .ok (.aload_n 0, 1) := by decide +kernel
theorem dX7_bearable_3 : decode cX7_bearable 3 = .ok (.getfield 7, 3) := by decide +kernel
theorem dX7_bearable_6 : decode cX7_bearable 6 = .ok (.iconst 1, 1) := by decide +kernel
theorem dX7_bearable_7 : decode cX7_bearable 7 = .ok (.iaload, 1) := by decide +kernel
theorem dX7_bearable_8 : decode cX7_bearable 8 = .ok (.invokestatic 136, 3) := by decide +kernel
theorem dX7_bearable_11 : decode cX7_bearable 11 = .ok (.ifCond .eq 13, 3) := by decide +kernel
theorem dX7_bearable_14 : decode cX7_bearable 14 = .ok (.iload_n 2, 1) := by decide +kernel
theorem dX7_bearable_15 : decode cX7_bearable 15 = .ok (.iconst 0, 1) := by decide +kernel
theorem dX7_bearable_16 : decode cX7_bearable 16 = .ok (.bipush 100, 2) := by decide +kernel
theorem dX7_bearable_18 : decode cX7_bearable 18 = .ok (.invokestatic 136, 3) := by decide +kernel
theorem dX7_bearable_21 : decode cX7_bearable 21 = .ok (.ifCond .ne 5, 3) := by decide +kernel
theorem dX7_bearable_24 : decode cX7_bearable 24 = .ok (.iconst (-1), 1) := by decide +kernel
theorem dX7_bearable_25 : decode cX7_bearable 25 = .ok (.ireturn, 1) := by decide +kernel
theorem dX7_bearable_26 : decode cX7_bearable 26 = .ok (.aload_n 0, 1) := by decide +kernel
theorem dX7_bearable_27 : decode cX7_bearable 27 = .ok (.invokevirtual 175, 3) := by decide +kernel
theorem dX7_bearable_30 : decode cX7_bearable 30 = .ok (.bipush 99, 2) := by decide +kernel
theorem dX7_bearable_32 : decode cX7_bearable 32 = .ok (.istore_n 3, 1) := by decide +kernel
theorem dX7_bearable_33 : decode cX7_bearable 33 = .ok (.iload_n 3, 1) := by decide +kernel
theorem dX7_bearable_34 : decode cX7_bearable 34 = .ok (.ifCond .lt 40, 3) := by decide +kernel
theorem dX7_bearable_37 : decode cX7_bearable 37 = .ok (.aload_n 0, 1) := by decide +kernel
theorem dX7_bearable_38 : decode cX7_bearable 38 = .ok (.getfield 7, 3) := by decide +kernel
theorem dX7_bearable_41 : decode cX7_bearable 41 = .ok (.bipush 7, 2) := by decide +kernel
theorem dX7_bearable_43 : decode cX7_bearable 43 = .ok (.iload_n 1, 1) := by decide +kernel
theorem dX7_bearable_44 : decode cX7_bearable 44 = .ok (.iadd, 1) := by decide +kernel
theorem dX7_bearable_45 : decode cX7_bearable 45 = .ok (.iload_n 3, 1) := by decide +kernel
theorem dX7_bearable_46 : decode cX7_bearable 46 = .ok (.iastore, 1) := by decide +kernel
theorem dX7_bearable_47 : decode cX7_bearable 47 = .ok (.aload_n 0, 1) := by decide +kernel
theorem dX7_bearable_48 : decode cX7_bearable 48 = .ok (.iconst 1, 1) := by decide +kernel
theorem dX7_bearable_49 : decode cX7_bearable 49 = .ok (.iload_n 2, 1) := by decide +kernel
theorem dX7_bearable_50 : decode cX7_bearable 50 = .ok (.invokevirtual 178, 3) := by decide +kernel
theorem dX7_bearable_53 : decode cX7_bearable 53 = .ok (.istore 4, 2) := by decide +kernel
theorem dX7_bearable_55 : decode cX7_bearable 55 = .ok (.aload_n 0, 1) := by decide +kernel
theorem dX7_bearable_56 : decode cX7_bearable 56 = .ok (.invokevirtual 181, 3) := by decide +kernel
theorem dX7_bearable_59 : decode cX7_bearable 59 = .ok (.iload 4, 2) := by decide +kernel
theorem dX7_bearable_61 : decode cX7_bearable 61 = .ok (.bipush (-9), 2) := by decide +kernel
theorem dX7_bearable_63 : decode cX7_bearable 63 = .ok (.if_icmp .eq 5, 3) := by decide +kernel
theorem dX7_bearable_66 : decode cX7_bearable 66 = .ok (.iload_n 3, 1) := by decide +kernel
theorem dX7_bearable_67 : decode cX7_bearable 67 = .ok (.ireturn, 1) := by decide +kernel
theorem dX7_bearable_68 : decode cX7_bearable 68 = .ok (.iinc 3 (-1), 3) := by decide +kernel
theorem dX7_bearable_71 : decode cX7_bearable 71 = .ok (.goto (-38), 3) := by decide +kernel
theorem dX7_bearable_74 : decode cX7_bearable 74 = .ok (.bipush (-9), 2) := by decide +kernel
theorem dX7_bearable_76 : decode cX7_bearable 76 = .ok (.ireturn, 1) := by decide +kernel
theorem dX7_isImage_0 : decode cX7_isImage 0 = .ok (.iload_n 0, 1) := by decide +kernel
theorem dX7_isImage_1 : decode cX7_isImage 1 = .ok (.iconst 0, 1) := by decide +kernel
theorem dX7_isImage_2 : decode cX7_isImage 2 = .ok (.iconst 1, 1) := by decide +kernel
theorem dX7_isImage_3 : decode cX7_isImage 3 = .ok (.invokestatic 136, 3) := by decide +kernel
theorem dX7_isImage_6 : decode cX7_isImage 6 = .ok (.ireturn, 1) := by decide +kernel
theorem dX7_keep_0 : decode cX7_keep 0 = .ok (.iload_n 1, 1) := by decide +kernel
theorem dX7_keep_1 : decode cX7_keep 1 = .ok (.invokestatic 184, 3) := by decide +kernel
theorem dX7_keep_4 : decode cX7_keep 4 = .ok (.ifCond .ne 5, 3) := by decide +kernel
theorem dX7_keep_7 : decode cX7_keep 7 = .ok (.iconst (-1), 1) := by decide +kernel
theorem dX7_keep_8 : decode cX7_keep 8 = .ok (.ireturn, 1) := by decide +kernel
theorem dX7_keep_9 : decode cX7_keep 9 = .ok (.iconst 0, 1) := by decide +kernel
theorem dX7_keep_10 : decode cX7_keep 10 = .ok (.istore_n 2, 1) := by decide +kernel
theorem dX7_keep_11 : decode cX7_keep 11 = .ok (.iload_n 2, 1) := by decide +kernel
theorem dX7_keep_12 : decode cX7_keep 12 = .ok (.sipush 165, 3) := by decide +kernel
theorem dX7_keep_15 : decode cX7_keep 15 = .ok (.if_icmp .ge 27, 3) := by decide +kernel
theorem dX7_keep_18 : decode cX7_keep 18 = .ok (.aload_n 0, 1) := by decide +kernel
theorem dX7_keep_19 : decode cX7_keep 19 = .ok (.getfield 16, 3) := by decide +kernel
theorem dX7_keep_22 : decode cX7_keep 22 = .ok (.sipush 165, 3) := by decide +kernel
theorem dX7_keep_25 : decode cX7_keep 25 = .ok (.iload_n 1, 1) := by decide +kernel
theorem dX7_keep_26 : decode cX7_keep 26 = .ok (.imul, 1) := by decide +kernel
theorem dX7_keep_27 : decode cX7_keep 27 = .ok (.iload_n 2, 1) := by decide +kernel
theorem dX7_keep_28 : decode cX7_keep 28 = .ok (.iadd, 1) := by decide +kernel
theorem dX7_keep_29 : decode cX7_keep 29 = .ok (.aload_n 0, 1) := by decide +kernel
theorem dX7_keep_30 : decode cX7_keep 30 = .ok (.getfield 7, 3) := by decide +kernel
theorem dX7_keep_33 : decode cX7_keep 33 = .ok (.iload_n 2, 1) := by decide +kernel
theorem dX7_keep_34 : decode cX7_keep 34 = .ok (.iaload, 1) := by decide +kernel
theorem dX7_keep_35 : decode cX7_keep 35 = .ok (.iastore, 1) := by decide +kernel
theorem dX7_keep_36 : decode cX7_keep 36 = .ok (.iinc 2 1, 3) := by decide +kernel
theorem dX7_keep_39 : decode cX7_keep 39 = .ok (.goto (-28), 3) := by decide +kernel
theorem dX7_keep_42 : decode cX7_keep 42 = .ok (.aload_n 0, 1) := by decide +kernel
theorem dX7_keep_43 : decode cX7_keep 43 = .ok (.dup, 1) := by decide +kernel
theorem dX7_keep_44 : decode cX7_keep 44 = .ok (.getfield 187, 3) := by decide +kernel
theorem dX7_keep_47 : decode cX7_keep 47 = .ok (.iconst 1, 1) := by decide +kernel
theorem dX7_keep_48 : decode cX7_keep 48 = .ok (.iload_n 1, 1) := by decide +kernel
theorem dX7_keep_49 : decode cX7_keep 49 = .ok (.ishl, 1) := by decide +kernel
theorem dX7_keep_50 : decode cX7_keep 50 = .ok (.ior, 1) := by decide +kernel
theorem dX7_keep_51 : decode cX7_keep 51 = .ok (.putfield 187, 3) := by decide +kernel
theorem dX7_keep_54 : decode cX7_keep 54 = .ok (.aload_n 0, 1) := by decide +kernel
theorem dX7_keep_55 : decode cX7_keep 55 = .ok (.getfield 7, 3) := by decide +kernel
theorem dX7_keep_58 : decode cX7_keep 58 = .ok (.iconst 2, 1) := by decide +kernel
theorem dX7_keep_59 : decode cX7_keep 59 = .ok (.iaload, 1) := by decide +kernel
theorem dX7_keep_60 : decode cX7_keep 60 = .ok (.ireturn, 1) := by decide +kernel
theorem dX7_back_0 : decode cX7_back 0 = .ok (.iload_n 1, 1) := by decide +kernel
theorem dX7_back_1 : decode cX7_back 1 = .ok (.invokestatic 184, 3) := by decide +kernel
theorem dX7_back_4 : decode cX7_back 4 = .ok (.ifCond .ne 5, 3) := by decide +kernel
theorem dX7_back_7 : decode cX7_back 7 = .ok (.iconst (-1), 1) := by decide +kernel
theorem dX7_back_8 : decode cX7_back 8 = .ok (.ireturn, 1) := by decide +kernel
theorem dX7_back_9 : decode cX7_back 9 = .ok (.aload_n 0, 1) := by decide +kernel
theorem dX7_back_10 : decode cX7_back 10 = .ok (.getfield 187, 3) := by decide +kernel
theorem dX7_back_13 : decode cX7_back 13 = .ok (.iload_n 1, 1) := by decide +kernel
theorem dX7_back_14 : decode cX7_back 14 = .ok (.ishr, 1) := by decide +kernel
theorem dX7_back_15 : decode cX7_back 15 = .ok (.iconst 1, 1) := by decide +kernel
theorem dX7_back_16 : decode cX7_back 16 = .ok (.iand, 1) := by decide +kernel
theorem dX7_back_17 : decode cX7_back 17 = .ok (.ifCond .ne 6, 3) := by decide +kernel
theorem dX7_back_20 : decode cX7_back 20 = .ok (.bipush (-2), 2) := by decide +kernel
theorem dX7_back_22 : decode cX7_back 22 = .ok (.ireturn, 1) := by decide +kernel
theorem dX7_back_23 : decode cX7_back 23 = .ok (.aload_n 0, 1) := by decide +kernel
theorem dX7_back_24 : decode cX7_back 24 = .ok (.invokevirtual 140, 3) := by decide +kernel
theorem dX7_back_27 : decode cX7_back 27 = .ok (.iconst 0, 1) := by decide +kernel
theorem dX7_back_28 : decode cX7_back 28 = .ok (.istore_n 2, 1) := by decide +kernel
theorem dX7_back_29 : decode cX7_back 29 = .ok (.iload_n 2, 1) := by decide +kernel
theorem dX7_back_30 : decode cX7_back 30 = .ok (.sipush 165, 3) := by decide +kernel
theorem dX7_back_33 : decode cX7_back 33 = .ok (.if_icmp .ge 27, 3) := by decide +kernel
theorem dX7_back_36 : decode cX7_back 36 = .ok (.aload_n 0, 1) := by decide +kernel
theorem dX7_back_37 : decode cX7_back 37 = .ok (.getfield 7, 3) := by decide +kernel
theorem dX7_back_40 : decode cX7_back 40 = .ok (.iload_n 2, 1) := by decide +kernel
theorem dX7_back_41 : decode cX7_back 41 = .ok (.aload_n 0, 1) := by decide +kernel
theorem dX7_back_42 : decode cX7_back 42 = .ok (.getfield 16, 3) := by decide +kernel
theorem dX7_back_45 : decode cX7_back 45 = .ok (.sipush 165, 3) := by decide +kernel
theorem dX7_back_48 : decode cX7_back 48 = .ok (.iload_n 1, 1) := by decide +kernel
theorem dX7_back_49 : decode cX7_back 49 = .ok (.imul, 1) := by decide +kernel
theorem dX7_back_50 : decode cX7_back 50 = .ok (.iload_n 2, 1) := by decide +kernel
theorem dX7_back_51 : decode cX7_back 51 = .ok (.iadd, 1) := by decide +kernel
theorem dX7_back_52 : decode cX7_back 52 = .ok (.iaload, 1) := by decide +kernel
theorem dX7_back_53 : decode cX7_back 53 = .ok (.iastore, 1) := by decide +kernel
theorem dX7_back_54 : decode cX7_back 54 = .ok (.iinc 2 1, 3) := by decide +kernel
theorem dX7_back_57 : decode cX7_back 57 = .ok (.goto (-28), 3) := by decide +kernel
theorem dX7_back_60 : decode cX7_back 60 = .ok (.aload_n 0, 1) := by decide +kernel
theorem dX7_back_61 : decode cX7_back 61 = .ok (.getfield 7, 3) := by decide +kernel
theorem dX7_back_64 : decode cX7_back 64 = .ok (.iconst 2, 1) := by decide +kernel
theorem dX7_back_65 : decode cX7_back 65 = .ok (.iaload, 1) := by decide +kernel
theorem dX7_back_66 : decode cX7_back 66 = .ok (.ireturn, 1) := by decide +kernel
end
section
theorem dL_law_0 : decode cL_law 0 = .ok (.new 7, 3) := by decide +kernel
theorem dL_law_3 : decode cL_law 3 = .ok (.dup, 1) := by decide +kernel
theorem dL_law_4 : decode cL_law 4 = .ok (.invokespecial 9, 3) := by decide +kernel
theorem dL_law_7 : decode cL_law 7 = .ok (.astore_n 1, 1) := by decide +kernel
theorem dL_law_8 : decode cL_law 8 = .ok (.new 10, 3) := by decide +kernel
theorem dL_law_11 : decode cL_law 11 = .ok (.dup, 1) := by decide +kernel
theorem dL_law_12 : decode cL_law 12 = .ok (.invokespecial 12, 3) := by decide +kernel
theorem dL_law_15 : decode cL_law 15 = .ok (.astore_n 2, 1) := by decide +kernel
theorem dL_law_16 : decode cL_law 16 = .ok (.iconst 0, 1) := by decide +kernel
theorem dL_law_17 : decode cL_law 17 = .ok (.istore_n 3, 1) := by decide +kernel
theorem dL_law_18 : decode cL_law 18 = .ok (.iload_n 3, 1) := by decide +kernel
theorem dL_law_19 : decode cL_law 19 = .ok (.aload_n 0, 1) := by decide +kernel
theorem dL_law_20 : decode cL_law 20 = .ok (.arraylength, 1) := by decide +kernel
theorem dL_law_21 : decode cL_law 21 = .ok (.iconst 4, 1) := by decide +kernel
theorem dL_law_22 : decode cL_law 22 = .ok (.isub, 1) := by decide +kernel
theorem dL_law_23 : decode cL_law 23 = .ok (.if_icmp .gt 691, 3) := by decide +kernel
theorem dL_law_26 : decode cL_law 26 = .ok (.aload_n 0, 1) := by decide +kernel
theorem dL_law_27 : decode cL_law 27 = .ok (.iload_n 3, 1) := by decide +kernel
theorem dL_law_28 : decode cL_law 28 = .ok (.iaload, 1) := by decide +kernel
theorem dL_law_29 : decode cL_law 29 = .ok (.bipush 31, 2) := by decide +kernel
theorem dL_law_31 : decode cL_law 31 = .ok (.iand, 1) := by decide +kernel
theorem dL_law_32 : decode cL_law 32 = .ok (.tableswitch 676 0 19 #[96, 129, 162, 195, 228, 261, 284, 307, 320, 343, 376, 419, 452, 485, 518, 561, 584, 597, 630, 653], 96) := by decide +kernel
theorem dL_law_128 : decode cL_law 128 = .ok (.aload_n 1, 1) := by decide +kernel
theorem dL_law_129 : decode cL_law 129 = .ok (.aload_n 0, 1) := by decide +kernel
theorem dL_law_130 : decode cL_law 130 = .ok (.iload_n 3, 1) := by decide +kernel
theorem dL_law_131 : decode cL_law 131 = .ok (.iconst 1, 1) := by decide +kernel
theorem dL_law_132 : decode cL_law 132 = .ok (.iadd, 1) := by decide +kernel
theorem dL_law_133 : decode cL_law 133 = .ok (.iaload, 1) := by decide +kernel
theorem dL_law_134 : decode cL_law 134 = .ok (.aload_n 0, 1) := by decide +kernel
theorem dL_law_135 : decode cL_law 135 = .ok (.iload_n 3, 1) := by decide +kernel
theorem dL_law_136 : decode cL_law 136 = .ok (.iconst 2, 1) := by decide +kernel
theorem dL_law_137 : decode cL_law 137 = .ok (.iadd, 1) := by decide +kernel
theorem dL_law_138 : decode cL_law 138 = .ok (.iaload, 1) := by decide +kernel
theorem dL_law_139 : decode cL_law 139 = .ok (.invokevirtual 13, 3) := by decide +kernel
theorem dL_law_142 : decode cL_law 142 = .ok (.aload_n 2, 1) := by decide +kernel
theorem dL_law_143 : decode cL_law 143 = .ok (.aload_n 0, 1) := by decide +kernel
theorem dL_law_144 : decode cL_law 144 = .ok (.iload_n 3, 1) := by decide +kernel
theorem dL_law_145 : decode cL_law 145 = .ok (.iconst 1, 1) := by decide +kernel
theorem dL_law_146 : decode cL_law 146 = .ok (.iadd, 1) := by decide +kernel
theorem dL_law_147 : decode cL_law 147 = .ok (.iaload, 1) := by decide +kernel
theorem dL_law_148 : decode cL_law 148 = .ok (.aload_n 0, 1) := by decide +kernel
theorem dL_law_149 : decode cL_law 149 = .ok (.iload_n 3, 1) := by decide +kernel
theorem dL_law_150 : decode cL_law 150 = .ok (.iconst 2, 1) := by decide +kernel
theorem dL_law_151 : decode cL_law 151 = .ok (.iadd, 1) := by decide +kernel
theorem dL_law_152 : decode cL_law 152 = .ok (.iaload, 1) := by decide +kernel
theorem dL_law_153 : decode cL_law 153 = .ok (.invokevirtual 17, 3) := by decide +kernel
theorem dL_law_156 : decode cL_law 156 = .ok (.if_icmp .eq 552, 3) := by decide +kernel
theorem dL_law_159 : decode cL_law 159 = .ok (.iconst 0, 1) := by decide +kernel
theorem dL_law_160 : decode cL_law 160 = .ok (.ireturn, 1) := by decide +kernel
theorem dL_law_161 : decode cL_law 161 = .ok (.aload_n 1, 1) := by decide +kernel
theorem dL_law_162 : decode cL_law 162 = .ok (.aload_n 0, 1) := by decide +kernel
theorem dL_law_163 : decode cL_law 163 = .ok (.iload_n 3, 1) := by decide +kernel
theorem dL_law_164 : decode cL_law 164 = .ok (.iconst 1, 1) := by decide +kernel
theorem dL_law_165 : decode cL_law 165 = .ok (.iadd, 1) := by decide +kernel
theorem dL_law_166 : decode cL_law 166 = .ok (.iaload, 1) := by decide +kernel
theorem dL_law_167 : decode cL_law 167 = .ok (.aload_n 0, 1) := by decide +kernel
theorem dL_law_168 : decode cL_law 168 = .ok (.iload_n 3, 1) := by decide +kernel
theorem dL_law_169 : decode cL_law 169 = .ok (.iconst 2, 1) := by decide +kernel
theorem dL_law_170 : decode cL_law 170 = .ok (.iadd, 1) := by decide +kernel
theorem dL_law_171 : decode cL_law 171 = .ok (.iaload, 1) := by decide +kernel
theorem dL_law_172 : decode cL_law 172 = .ok (.invokevirtual 18, 3) := by decide +kernel
theorem dL_law_175 : decode cL_law 175 = .ok (.aload_n 2, 1) := by decide +kernel
theorem dL_law_176 : decode cL_law 176 = .ok (.aload_n 0, 1) := by decide +kernel
theorem dL_law_177 : decode cL_law 177 = .ok (.iload_n 3, 1) := by decide +kernel
theorem dL_law_178 : decode cL_law 178 = .ok (.iconst 1, 1) := by decide +kernel
theorem dL_law_179 : decode cL_law 179 = .ok (.iadd, 1) := by decide +kernel
theorem dL_law_180 : decode cL_law 180 = .ok (.iaload, 1) := by decide +kernel
theorem dL_law_181 : decode cL_law 181 = .ok (.aload_n 0, 1) := by decide +kernel
theorem dL_law_182 : decode cL_law 182 = .ok (.iload_n 3, 1) := by decide +kernel
theorem dL_law_183 : decode cL_law 183 = .ok (.iconst 2, 1) := by decide +kernel
theorem dL_law_184 : decode cL_law 184 = .ok (.iadd, 1) := by decide +kernel
theorem dL_law_185 : decode cL_law 185 = .ok (.iaload, 1) := by decide +kernel
theorem dL_law_186 : decode cL_law 186 = .ok (.invokevirtual 21, 3) := by decide +kernel
theorem dL_law_189 : decode cL_law 189 = .ok (.if_icmp .eq 519, 3) := by decide +kernel
theorem dL_law_192 : decode cL_law 192 = .ok (.iconst 0, 1) := by decide +kernel
theorem dL_law_193 : decode cL_law 193 = .ok (.ireturn, 1) := by decide +kernel
theorem dL_law_194 : decode cL_law 194 = .ok (.aload_n 1, 1) := by decide +kernel
theorem dL_law_195 : decode cL_law 195 = .ok (.aload_n 0, 1) := by decide +kernel
theorem dL_law_196 : decode cL_law 196 = .ok (.iload_n 3, 1) := by decide +kernel
theorem dL_law_197 : decode cL_law 197 = .ok (.iconst 1, 1) := by decide +kernel
theorem dL_law_198 : decode cL_law 198 = .ok (.iadd, 1) := by decide +kernel
theorem dL_law_199 : decode cL_law 199 = .ok (.iaload, 1) := by decide +kernel
theorem dL_law_200 : decode cL_law 200 = .ok (.aload_n 0, 1) := by decide +kernel
theorem dL_law_201 : decode cL_law 201 = .ok (.iload_n 3, 1) := by decide +kernel
theorem dL_law_202 : decode cL_law 202 = .ok (.iconst 2, 1) := by decide +kernel
theorem dL_law_203 : decode cL_law 203 = .ok (.iadd, 1) := by decide +kernel
theorem dL_law_204 : decode cL_law 204 = .ok (.iaload, 1) := by decide +kernel
theorem dL_law_205 : decode cL_law 205 = .ok (.invokevirtual 22, 3) := by decide +kernel
theorem dL_law_208 : decode cL_law 208 = .ok (.aload_n 2, 1) := by decide +kernel
theorem dL_law_209 : decode cL_law 209 = .ok (.aload_n 0, 1) := by decide +kernel
theorem dL_law_210 : decode cL_law 210 = .ok (.iload_n 3, 1) := by decide +kernel
theorem dL_law_211 : decode cL_law 211 = .ok (.iconst 1, 1) := by decide +kernel
theorem dL_law_212 : decode cL_law 212 = .ok (.iadd, 1) := by decide +kernel
theorem dL_law_213 : decode cL_law 213 = .ok (.iaload, 1) := by decide +kernel
theorem dL_law_214 : decode cL_law 214 = .ok (.aload_n 0, 1) := by decide +kernel
theorem dL_law_215 : decode cL_law 215 = .ok (.iload_n 3, 1) := by decide +kernel
theorem dL_law_216 : decode cL_law 216 = .ok (.iconst 2, 1) := by decide +kernel
theorem dL_law_217 : decode cL_law 217 = .ok (.iadd, 1) := by decide +kernel
theorem dL_law_218 : decode cL_law 218 = .ok (.iaload, 1) := by decide +kernel
theorem dL_law_219 : decode cL_law 219 = .ok (.invokevirtual 25, 3) := by decide +kernel
theorem dL_law_222 : decode cL_law 222 = .ok (.if_icmp .eq 486, 3) := by decide +kernel
theorem dL_law_225 : decode cL_law 225 = .ok (.iconst 0, 1) := by decide +kernel
theorem dL_law_226 : decode cL_law 226 = .ok (.ireturn, 1) := by decide +kernel
theorem dL_law_227 : decode cL_law 227 = .ok (.aload_n 1, 1) := by decide +kernel
theorem dL_law_228 : decode cL_law 228 = .ok (.aload_n 0, 1) := by decide +kernel
theorem dL_law_229 : decode cL_law 229 = .ok (.iload_n 3, 1) := by decide +kernel
theorem dL_law_230 : decode cL_law 230 = .ok (.iconst 1, 1) := by decide +kernel
theorem dL_law_231 : decode cL_law 231 = .ok (.iadd, 1) := by decide +kernel
theorem dL_law_232 : decode cL_law 232 = .ok (.iaload, 1) := by decide +kernel
theorem dL_law_233 : decode cL_law 233 = .ok (.aload_n 0, 1) := by decide +kernel
theorem dL_law_234 : decode cL_law 234 = .ok (.iload_n 3, 1) := by decide +kernel
theorem dL_law_235 : decode cL_law 235 = .ok (.iconst 2, 1) := by decide +kernel
theorem dL_law_236 : decode cL_law 236 = .ok (.iadd, 1) := by decide +kernel
theorem dL_law_237 : decode cL_law 237 = .ok (.iaload, 1) := by decide +kernel
theorem dL_law_238 : decode cL_law 238 = .ok (.invokevirtual 26, 3) := by decide +kernel
theorem dL_law_241 : decode cL_law 241 = .ok (.aload_n 2, 1) := by decide +kernel
theorem dL_law_242 : decode cL_law 242 = .ok (.aload_n 0, 1) := by decide +kernel
theorem dL_law_243 : decode cL_law 243 = .ok (.iload_n 3, 1) := by decide +kernel
theorem dL_law_244 : decode cL_law 244 = .ok (.iconst 1, 1) := by decide +kernel
theorem dL_law_245 : decode cL_law 245 = .ok (.iadd, 1) := by decide +kernel
theorem dL_law_246 : decode cL_law 246 = .ok (.iaload, 1) := by decide +kernel
theorem dL_law_247 : decode cL_law 247 = .ok (.aload_n 0, 1) := by decide +kernel
theorem dL_law_248 : decode cL_law 248 = .ok (.iload_n 3, 1) := by decide +kernel
theorem dL_law_249 : decode cL_law 249 = .ok (.iconst 2, 1) := by decide +kernel
theorem dL_law_250 : decode cL_law 250 = .ok (.iadd, 1) := by decide +kernel
theorem dL_law_251 : decode cL_law 251 = .ok (.iaload, 1) := by decide +kernel
theorem dL_law_252 : decode cL_law 252 = .ok (.invokevirtual 29, 3) := by decide +kernel
theorem dL_law_255 : decode cL_law 255 = .ok (.if_icmp .eq 453, 3) := by decide +kernel
theorem dL_law_258 : decode cL_law 258 = .ok (.iconst 0, 1) := by decide +kernel
theorem dL_law_259 : decode cL_law 259 = .ok (.ireturn, 1) := by decide +kernel
theorem dL_law_260 : decode cL_law 260 = .ok (.aload_n 1, 1) := by decide +kernel
theorem dL_law_261 : decode cL_law 261 = .ok (.aload_n 0, 1) := by decide +kernel
theorem dL_law_262 : decode cL_law 262 = .ok (.iload_n 3, 1) := by decide +kernel
theorem dL_law_263 : decode cL_law 263 = .ok (.iconst 1, 1) := by decide +kernel
theorem dL_law_264 : decode cL_law 264 = .ok (.iadd, 1) := by decide +kernel
theorem dL_law_265 : decode cL_law 265 = .ok (.iaload, 1) := by decide +kernel
theorem dL_law_266 : decode cL_law 266 = .ok (.aload_n 0, 1) := by decide +kernel
theorem dL_law_267 : decode cL_law 267 = .ok (.iload_n 3, 1) := by decide +kernel
theorem dL_law_268 : decode cL_law 268 = .ok (.iconst 2, 1) := by decide +kernel
theorem dL_law_269 : decode cL_law 269 = .ok (.iadd, 1) := by decide +kernel
theorem dL_law_270 : decode cL_law 270 = .ok (.iaload, 1) := by decide +kernel
theorem dL_law_271 : decode cL_law 271 = .ok (.invokevirtual 30, 3) := by decide +kernel
theorem dL_law_274 : decode cL_law 274 = .ok (.aload_n 2, 1) := by decide +kernel
theorem dL_law_275 : decode cL_law 275 = .ok (.aload_n 0, 1) := by decide +kernel
theorem dL_law_276 : decode cL_law 276 = .ok (.iload_n 3, 1) := by decide +kernel
theorem dL_law_277 : decode cL_law 277 = .ok (.iconst 1, 1) := by decide +kernel
theorem dL_law_278 : decode cL_law 278 = .ok (.iadd, 1) := by decide +kernel
theorem dL_law_279 : decode cL_law 279 = .ok (.iaload, 1) := by decide +kernel
theorem dL_law_280 : decode cL_law 280 = .ok (.aload_n 0, 1) := by decide +kernel
theorem dL_law_281 : decode cL_law 281 = .ok (.iload_n 3, 1) := by decide +kernel
theorem dL_law_282 : decode cL_law 282 = .ok (.iconst 2, 1) := by decide +kernel
theorem dL_law_283 : decode cL_law 283 = .ok (.iadd, 1) := by decide +kernel
theorem dL_law_284 : decode cL_law 284 = .ok (.iaload, 1) := by decide +kernel
theorem dL_law_285 : decode cL_law 285 = .ok (.invokevirtual 33, 3) := by decide +kernel
theorem dL_law_288 : decode cL_law 288 = .ok (.if_icmp .eq 420, 3) := by decide +kernel
theorem dL_law_291 : decode cL_law 291 = .ok (.iconst 0, 1) := by decide +kernel
theorem dL_law_292 : decode cL_law 292 = .ok (.ireturn, 1) := by decide +kernel
theorem dL_law_293 : decode cL_law 293 = .ok (.aload_n 1, 1) := by decide +kernel
theorem dL_law_294 : decode cL_law 294 = .ok (.aload_n 0, 1) := by decide +kernel
theorem dL_law_295 : decode cL_law 295 = .ok (.iload_n 3, 1) := by decide +kernel
theorem dL_law_296 : decode cL_law 296 = .ok (.iconst 1, 1) := by decide +kernel
theorem dL_law_297 : decode cL_law 297 = .ok (.iadd, 1) := by decide +kernel
theorem dL_law_298 : decode cL_law 298 = .ok (.iaload, 1) := by decide +kernel
theorem dL_law_299 : decode cL_law 299 = .ok (.invokevirtual 34, 3) := by decide +kernel
theorem dL_law_302 : decode cL_law 302 = .ok (.aload_n 2, 1) := by decide +kernel
theorem dL_law_303 : decode cL_law 303 = .ok (.aload_n 0, 1) := by decide +kernel
theorem dL_law_304 : decode cL_law 304 = .ok (.iload_n 3, 1) := by decide +kernel
theorem dL_law_305 : decode cL_law 305 = .ok (.iconst 1, 1) := by decide +kernel
theorem dL_law_306 : decode cL_law 306 = .ok (.iadd, 1) := by decide +kernel
theorem dL_law_307 : decode cL_law 307 = .ok (.iaload, 1) := by decide +kernel
theorem dL_law_308 : decode cL_law 308 = .ok (.invokevirtual 38, 3) := by decide +kernel
theorem dL_law_311 : decode cL_law 311 = .ok (.if_icmp .eq 397, 3) := by decide +kernel
theorem dL_law_314 : decode cL_law 314 = .ok (.iconst 0, 1) := by decide +kernel
theorem dL_law_315 : decode cL_law 315 = .ok (.ireturn, 1) := by decide +kernel
theorem dL_law_316 : decode cL_law 316 = .ok (.aload_n 1, 1) := by decide +kernel
theorem dL_law_317 : decode cL_law 317 = .ok (.aload_n 0, 1) := by decide +kernel
theorem dL_law_318 : decode cL_law 318 = .ok (.iload_n 3, 1) := by decide +kernel
theorem dL_law_319 : decode cL_law 319 = .ok (.iconst 1, 1) := by decide +kernel
theorem dL_law_320 : decode cL_law 320 = .ok (.iadd, 1) := by decide +kernel
theorem dL_law_321 : decode cL_law 321 = .ok (.iaload, 1) := by decide +kernel
theorem dL_law_322 : decode cL_law 322 = .ok (.invokevirtual 39, 3) := by decide +kernel
theorem dL_law_325 : decode cL_law 325 = .ok (.aload_n 2, 1) := by decide +kernel
theorem dL_law_326 : decode cL_law 326 = .ok (.aload_n 0, 1) := by decide +kernel
theorem dL_law_327 : decode cL_law 327 = .ok (.iload_n 3, 1) := by decide +kernel
theorem dL_law_328 : decode cL_law 328 = .ok (.iconst 1, 1) := by decide +kernel
theorem dL_law_329 : decode cL_law 329 = .ok (.iadd, 1) := by decide +kernel
theorem dL_law_330 : decode cL_law 330 = .ok (.iaload, 1) := by decide +kernel
theorem dL_law_331 : decode cL_law 331 = .ok (.invokevirtual 42, 3) := by decide +kernel
theorem dL_law_334 : decode cL_law 334 = .ok (.if_icmp .eq 374, 3) := by decide +kernel
theorem dL_law_337 : decode cL_law 337 = .ok (.iconst 0, 1) := by decide +kernel
theorem dL_law_338 : decode cL_law 338 = .ok (.ireturn, 1) := by decide +kernel
theorem dL_law_339 : decode cL_law 339 = .ok (.aload_n 1, 1) := by decide +kernel
theorem dL_law_340 : decode cL_law 340 = .ok (.invokevirtual 43, 3) := by decide +kernel
theorem dL_law_343 : decode cL_law 343 = .ok (.aload_n 2, 1) := by decide +kernel
theorem dL_law_344 : decode cL_law 344 = .ok (.invokevirtual 47, 3) := by decide +kernel
theorem dL_law_347 : decode cL_law 347 = .ok (.if_icmp .eq 361, 3) := by decide +kernel
theorem dL_law_350 : decode cL_law 350 = .ok (.iconst 0, 1) := by decide +kernel
theorem dL_law_351 : decode cL_law 351 = .ok (.ireturn, 1) := by decide +kernel
theorem dL_law_352 : decode cL_law 352 = .ok (.aload_n 1, 1) := by decide +kernel
theorem dL_law_353 : decode cL_law 353 = .ok (.aload_n 0, 1) := by decide +kernel
theorem dL_law_354 : decode cL_law 354 = .ok (.iload_n 3, 1) := by decide +kernel
theorem dL_law_355 : decode cL_law 355 = .ok (.iconst 1, 1) := by decide +kernel
theorem dL_law_356 : decode cL_law 356 = .ok (.iadd, 1) := by decide +kernel
theorem dL_law_357 : decode cL_law 357 = .ok (.iaload, 1) := by decide +kernel
theorem dL_law_358 : decode cL_law 358 = .ok (.invokevirtual 48, 3) := by decide +kernel
theorem dL_law_361 : decode cL_law 361 = .ok (.aload_n 2, 1) := by decide +kernel
theorem dL_law_362 : decode cL_law 362 = .ok (.aload_n 0, 1) := by decide +kernel
theorem dL_law_363 : decode cL_law 363 = .ok (.iload_n 3, 1) := by decide +kernel
theorem dL_law_364 : decode cL_law 364 = .ok (.iconst 1, 1) := by decide +kernel
theorem dL_law_365 : decode cL_law 365 = .ok (.iadd, 1) := by decide +kernel
theorem dL_law_366 : decode cL_law 366 = .ok (.iaload, 1) := by decide +kernel
theorem dL_law_367 : decode cL_law 367 = .ok (.invokevirtual 51, 3) := by decide +kernel
theorem dL_law_370 : decode cL_law 370 = .ok (.if_icmp .eq 338, 3) := by decide +kernel
theorem dL_law_373 : decode cL_law 373 = .ok (.iconst 0, 1) := by decide +kernel
theorem dL_law_374 : decode cL_law 374 = .ok (.ireturn, 1) := by decide +kernel
theorem dL_law_375 : decode cL_law 375 = .ok (.aload_n 1, 1) := by decide +kernel
theorem dL_law_376 : decode cL_law 376 = .ok (.aload_n 0, 1) := by decide +kernel
theorem dL_law_377 : decode cL_law 377 = .ok (.iload_n 3, 1) := by decide +kernel
theorem dL_law_378 : decode cL_law 378 = .ok (.iconst 1, 1) := by decide +kernel
theorem dL_law_379 : decode cL_law 379 = .ok (.iadd, 1) := by decide +kernel
theorem dL_law_380 : decode cL_law 380 = .ok (.iaload, 1) := by decide +kernel
theorem dL_law_381 : decode cL_law 381 = .ok (.aload_n 0, 1) := by decide +kernel
theorem dL_law_382 : decode cL_law 382 = .ok (.iload_n 3, 1) := by decide +kernel
theorem dL_law_383 : decode cL_law 383 = .ok (.iconst 2, 1) := by decide +kernel
theorem dL_law_384 : decode cL_law 384 = .ok (.iadd, 1) := by decide +kernel
theorem dL_law_385 : decode cL_law 385 = .ok (.iaload, 1) := by decide +kernel
theorem dL_law_386 : decode cL_law 386 = .ok (.invokevirtual 52, 3) := by decide +kernel
theorem dL_law_389 : decode cL_law 389 = .ok (.aload_n 2, 1) := by decide +kernel
theorem dL_law_390 : decode cL_law 390 = .ok (.aload_n 0, 1) := by decide +kernel
theorem dL_law_391 : decode cL_law 391 = .ok (.iload_n 3, 1) := by decide +kernel
theorem dL_law_392 : decode cL_law 392 = .ok (.iconst 1, 1) := by decide +kernel
theorem dL_law_393 : decode cL_law 393 = .ok (.iadd, 1) := by decide +kernel
theorem dL_law_394 : decode cL_law 394 = .ok (.iaload, 1) := by decide +kernel
theorem dL_law_395 : decode cL_law 395 = .ok (.aload_n 0, 1) := by decide +kernel
theorem dL_law_396 : decode cL_law 396 = .ok (.iload_n 3, 1) := by decide +kernel
theorem dL_law_397 : decode cL_law 397 = .ok (.iconst 2, 1) := by decide +kernel
theorem dL_law_398 : decode cL_law 398 = .ok (.iadd, 1) := by decide +kernel
theorem dL_law_399 : decode cL_law 399 = .ok (.iaload, 1) := by decide +kernel
theorem dL_law_400 : decode cL_law 400 = .ok (.invokevirtual 55, 3) := by decide +kernel
theorem dL_law_403 : decode cL_law 403 = .ok (.if_icmp .eq 305, 3) := by decide +kernel
theorem dL_law_406 : decode cL_law 406 = .ok (.iconst 0, 1) := by decide +kernel
theorem dL_law_407 : decode cL_law 407 = .ok (.ireturn, 1) := by decide +kernel
theorem dL_law_408 : decode cL_law 408 = .ok (.aload_n 1, 1) := by decide +kernel
theorem dL_law_409 : decode cL_law 409 = .ok (.aload_n 0, 1) := by decide +kernel
theorem dL_law_410 : decode cL_law 410 = .ok (.iload_n 3, 1) := by decide +kernel
theorem dL_law_411 : decode cL_law 411 = .ok (.iconst 1, 1) := by decide +kernel
theorem dL_law_412 : decode cL_law 412 = .ok (.iadd, 1) := by decide +kernel
theorem dL_law_413 : decode cL_law 413 = .ok (.iaload, 1) := by decide +kernel
theorem dL_law_414 : decode cL_law 414 = .ok (.aload_n 0, 1) := by decide +kernel
theorem dL_law_415 : decode cL_law 415 = .ok (.iload_n 3, 1) := by decide +kernel
theorem dL_law_416 : decode cL_law 416 = .ok (.iconst 2, 1) := by decide +kernel
theorem dL_law_417 : decode cL_law 417 = .ok (.iadd, 1) := by decide +kernel
theorem dL_law_418 : decode cL_law 418 = .ok (.iaload, 1) := by decide +kernel
theorem dL_law_419 : decode cL_law 419 = .ok (.aload_n 0, 1) := by decide +kernel
theorem dL_law_420 : decode cL_law 420 = .ok (.iload_n 3, 1) := by decide +kernel
theorem dL_law_421 : decode cL_law 421 = .ok (.iconst 3, 1) := by decide +kernel
theorem dL_law_422 : decode cL_law 422 = .ok (.iadd, 1) := by decide +kernel
theorem dL_law_423 : decode cL_law 423 = .ok (.iaload, 1) := by decide +kernel
theorem dL_law_424 : decode cL_law 424 = .ok (.invokevirtual 56, 3) := by decide +kernel
theorem dL_law_427 : decode cL_law 427 = .ok (.aload_n 2, 1) := by decide +kernel
theorem dL_law_428 : decode cL_law 428 = .ok (.aload_n 0, 1) := by decide +kernel
theorem dL_law_429 : decode cL_law 429 = .ok (.iload_n 3, 1) := by decide +kernel
theorem dL_law_430 : decode cL_law 430 = .ok (.iconst 1, 1) := by decide +kernel
theorem dL_law_431 : decode cL_law 431 = .ok (.iadd, 1) := by decide +kernel
theorem dL_law_432 : decode cL_law 432 = .ok (.iaload, 1) := by decide +kernel
theorem dL_law_433 : decode cL_law 433 = .ok (.aload_n 0, 1) := by decide +kernel
theorem dL_law_434 : decode cL_law 434 = .ok (.iload_n 3, 1) := by decide +kernel
theorem dL_law_435 : decode cL_law 435 = .ok (.iconst 2, 1) := by decide +kernel
theorem dL_law_436 : decode cL_law 436 = .ok (.iadd, 1) := by decide +kernel
theorem dL_law_437 : decode cL_law 437 = .ok (.iaload, 1) := by decide +kernel
theorem dL_law_438 : decode cL_law 438 = .ok (.aload_n 0, 1) := by decide +kernel
theorem dL_law_439 : decode cL_law 439 = .ok (.iload_n 3, 1) := by decide +kernel
theorem dL_law_440 : decode cL_law 440 = .ok (.iconst 3, 1) := by decide +kernel
theorem dL_law_441 : decode cL_law 441 = .ok (.iadd, 1) := by decide +kernel
theorem dL_law_442 : decode cL_law 442 = .ok (.iaload, 1) := by decide +kernel
theorem dL_law_443 : decode cL_law 443 = .ok (.invokevirtual 60, 3) := by decide +kernel
theorem dL_law_446 : decode cL_law 446 = .ok (.if_icmp .eq 262, 3) := by decide +kernel
theorem dL_law_449 : decode cL_law 449 = .ok (.iconst 0, 1) := by decide +kernel
theorem dL_law_450 : decode cL_law 450 = .ok (.ireturn, 1) := by decide +kernel
theorem dL_law_451 : decode cL_law 451 = .ok (.aload_n 1, 1) := by decide +kernel
theorem dL_law_452 : decode cL_law 452 = .ok (.aload_n 0, 1) := by decide +kernel
theorem dL_law_453 : decode cL_law 453 = .ok (.iload_n 3, 1) := by decide +kernel
theorem dL_law_454 : decode cL_law 454 = .ok (.iconst 1, 1) := by decide +kernel
theorem dL_law_455 : decode cL_law 455 = .ok (.iadd, 1) := by decide +kernel
theorem dL_law_456 : decode cL_law 456 = .ok (.iaload, 1) := by decide +kernel
theorem dL_law_457 : decode cL_law 457 = .ok (.aload_n 0, 1) := by decide +kernel
theorem dL_law_458 : decode cL_law 458 = .ok (.iload_n 3, 1) := by decide +kernel
theorem dL_law_459 : decode cL_law 459 = .ok (.iconst 2, 1) := by decide +kernel
theorem dL_law_460 : decode cL_law 460 = .ok (.iadd, 1) := by decide +kernel
theorem dL_law_461 : decode cL_law 461 = .ok (.iaload, 1) := by decide +kernel
theorem dL_law_462 : decode cL_law 462 = .ok (.invokevirtual 61, 3) := by decide +kernel
theorem dL_law_465 : decode cL_law 465 = .ok (.aload_n 2, 1) := by decide +kernel
theorem dL_law_466 : decode cL_law 466 = .ok (.aload_n 0, 1) := by decide +kernel
theorem dL_law_467 : decode cL_law 467 = .ok (.iload_n 3, 1) := by decide +kernel
theorem dL_law_468 : decode cL_law 468 = .ok (.iconst 1, 1) := by decide +kernel
theorem dL_law_469 : decode cL_law 469 = .ok (.iadd, 1) := by decide +kernel
theorem dL_law_470 : decode cL_law 470 = .ok (.iaload, 1) := by decide +kernel
theorem dL_law_471 : decode cL_law 471 = .ok (.aload_n 0, 1) := by decide +kernel
theorem dL_law_472 : decode cL_law 472 = .ok (.iload_n 3, 1) := by decide +kernel
theorem dL_law_473 : decode cL_law 473 = .ok (.iconst 2, 1) := by decide +kernel
theorem dL_law_474 : decode cL_law 474 = .ok (.iadd, 1) := by decide +kernel
theorem dL_law_475 : decode cL_law 475 = .ok (.iaload, 1) := by decide +kernel
theorem dL_law_476 : decode cL_law 476 = .ok (.invokevirtual 64, 3) := by decide +kernel
theorem dL_law_479 : decode cL_law 479 = .ok (.if_icmp .eq 229, 3) := by decide +kernel
theorem dL_law_482 : decode cL_law 482 = .ok (.iconst 0, 1) := by decide +kernel
theorem dL_law_483 : decode cL_law 483 = .ok (.ireturn, 1) := by decide +kernel
theorem dL_law_484 : decode cL_law 484 = .ok (.aload_n 1, 1) := by decide +kernel
theorem dL_law_485 : decode cL_law 485 = .ok (.aload_n 0, 1) := by decide +kernel
theorem dL_law_486 : decode cL_law 486 = .ok (.iload_n 3, 1) := by decide +kernel
theorem dL_law_487 : decode cL_law 487 = .ok (.iconst 1, 1) := by decide +kernel
theorem dL_law_488 : decode cL_law 488 = .ok (.iadd, 1) := by decide +kernel
theorem dL_law_489 : decode cL_law 489 = .ok (.iaload, 1) := by decide +kernel
theorem dL_law_490 : decode cL_law 490 = .ok (.aload_n 0, 1) := by decide +kernel
theorem dL_law_491 : decode cL_law 491 = .ok (.iload_n 3, 1) := by decide +kernel
theorem dL_law_492 : decode cL_law 492 = .ok (.iconst 2, 1) := by decide +kernel
theorem dL_law_493 : decode cL_law 493 = .ok (.iadd, 1) := by decide +kernel
theorem dL_law_494 : decode cL_law 494 = .ok (.iaload, 1) := by decide +kernel
theorem dL_law_495 : decode cL_law 495 = .ok (.invokevirtual 65, 3) := by decide +kernel
theorem dL_law_498 : decode cL_law 498 = .ok (.aload_n 2, 1) := by decide +kernel
theorem dL_law_499 : decode cL_law 499 = .ok (.aload_n 0, 1) := by decide +kernel
theorem dL_law_500 : decode cL_law 500 = .ok (.iload_n 3, 1) := by decide +kernel
theorem dL_law_501 : decode cL_law 501 = .ok (.iconst 1, 1) := by decide +kernel
theorem dL_law_502 : decode cL_law 502 = .ok (.iadd, 1) := by decide +kernel
theorem dL_law_503 : decode cL_law 503 = .ok (.iaload, 1) := by decide +kernel
theorem dL_law_504 : decode cL_law 504 = .ok (.aload_n 0, 1) := by decide +kernel
theorem dL_law_505 : decode cL_law 505 = .ok (.iload_n 3, 1) := by decide +kernel
theorem dL_law_506 : decode cL_law 506 = .ok (.iconst 2, 1) := by decide +kernel
theorem dL_law_507 : decode cL_law 507 = .ok (.iadd, 1) := by decide +kernel
theorem dL_law_508 : decode cL_law 508 = .ok (.iaload, 1) := by decide +kernel
theorem dL_law_509 : decode cL_law 509 = .ok (.invokevirtual 68, 3) := by decide +kernel
theorem dL_law_512 : decode cL_law 512 = .ok (.if_icmp .eq 196, 3) := by decide +kernel
theorem dL_law_515 : decode cL_law 515 = .ok (.iconst 0, 1) := by decide +kernel
theorem dL_law_516 : decode cL_law 516 = .ok (.ireturn, 1) := by decide +kernel
theorem dL_law_517 : decode cL_law 517 = .ok (.aload_n 1, 1) := by decide +kernel
theorem dL_law_518 : decode cL_law 518 = .ok (.aload_n 0, 1) := by decide +kernel
theorem dL_law_519 : decode cL_law 519 = .ok (.iload_n 3, 1) := by decide +kernel
theorem dL_law_520 : decode cL_law 520 = .ok (.iconst 1, 1) := by decide +kernel
theorem dL_law_521 : decode cL_law 521 = .ok (.iadd, 1) := by decide +kernel
theorem dL_law_522 : decode cL_law 522 = .ok (.iaload, 1) := by decide +kernel
theorem dL_law_523 : decode cL_law 523 = .ok (.aload_n 0, 1) := by decide +kernel
theorem dL_law_524 : decode cL_law 524 = .ok (.iload_n 3, 1) := by decide +kernel
theorem dL_law_525 : decode cL_law 525 = .ok (.iconst 2, 1) := by decide +kernel
theorem dL_law_526 : decode cL_law 526 = .ok (.iadd, 1) := by decide +kernel
theorem dL_law_527 : decode cL_law 527 = .ok (.iaload, 1) := by decide +kernel
theorem dL_law_528 : decode cL_law 528 = .ok (.invokevirtual 69, 3) := by decide +kernel
theorem dL_law_531 : decode cL_law 531 = .ok (.aload_n 2, 1) := by decide +kernel
theorem dL_law_532 : decode cL_law 532 = .ok (.aload_n 0, 1) := by decide +kernel
theorem dL_law_533 : decode cL_law 533 = .ok (.iload_n 3, 1) := by decide +kernel
theorem dL_law_534 : decode cL_law 534 = .ok (.iconst 1, 1) := by decide +kernel
theorem dL_law_535 : decode cL_law 535 = .ok (.iadd, 1) := by decide +kernel
theorem dL_law_536 : decode cL_law 536 = .ok (.iaload, 1) := by decide +kernel
theorem dL_law_537 : decode cL_law 537 = .ok (.aload_n 0, 1) := by decide +kernel
theorem dL_law_538 : decode cL_law 538 = .ok (.iload_n 3, 1) := by decide +kernel
theorem dL_law_539 : decode cL_law 539 = .ok (.iconst 2, 1) := by decide +kernel
theorem dL_law_540 : decode cL_law 540 = .ok (.iadd, 1) := by decide +kernel
theorem dL_law_541 : decode cL_law 541 = .ok (.iaload, 1) := by decide +kernel
theorem dL_law_542 : decode cL_law 542 = .ok (.invokevirtual 72, 3) := by decide +kernel
theorem dL_law_545 : decode cL_law 545 = .ok (.if_icmp .eq 163, 3) := by decide +kernel
theorem dL_law_548 : decode cL_law 548 = .ok (.iconst 0, 1) := by decide +kernel
theorem dL_law_549 : decode cL_law 549 = .ok (.ireturn, 1) := by decide +kernel
theorem dL_law_550 : decode cL_law 550 = .ok (.aload_n 1, 1) := by decide +kernel
theorem dL_law_551 : decode cL_law 551 = .ok (.invokevirtual 73, 3) := by decide +kernel
theorem dL_law_554 : decode cL_law 554 = .ok (.f2d, 1) := by decide +kernel
theorem dL_law_555 : decode cL_law 555 = .ok (.dstore 4, 2) := by decide +kernel
theorem dL_law_557 : decode cL_law 557 = .ok (.aload_n 2, 1) := by decide +kernel
theorem dL_law_558 : decode cL_law 558 = .ok (.invokevirtual 77, 3) := by decide +kernel
theorem dL_law_561 : decode cL_law 561 = .ok (.f2d, 1) := by decide +kernel
theorem dL_law_562 : decode cL_law 562 = .ok (.dstore 6, 2) := by decide +kernel
theorem dL_law_564 : decode cL_law 564 = .ok (.dload 4, 2) := by decide +kernel
theorem dL_law_566 : decode cL_law 566 = .ok (.dload 6, 2) := by decide +kernel
theorem dL_law_568 : decode cL_law 568 = .ok (.dcmp .l, 1) := by decide +kernel
theorem dL_law_569 : decode cL_law 569 = .ok (.ifCond .eq 21, 3) := by decide +kernel
theorem dL_law_572 : decode cL_law 572 = .ok (.dload 4, 2) := by decide +kernel
theorem dL_law_574 : decode cL_law 574 = .ok (.dload 4, 2) := by decide +kernel
theorem dL_law_576 : decode cL_law 576 = .ok (.dcmp .l, 1) := by decide +kernel
theorem dL_law_577 : decode cL_law 577 = .ok (.ifCond .eq 11, 3) := by decide +kernel
theorem dL_law_580 : decode cL_law 580 = .ok (.dload 6, 2) := by decide +kernel
theorem dL_law_582 : decode cL_law 582 = .ok (.dload 6, 2) := by decide +kernel
theorem dL_law_584 : decode cL_law 584 = .ok (.dcmp .l, 1) := by decide +kernel
theorem dL_law_585 : decode cL_law 585 = .ok (.ifCond .ne 5, 3) := by decide +kernel
theorem dL_law_588 : decode cL_law 588 = .ok (.iconst 0, 1) := by decide +kernel
theorem dL_law_589 : decode cL_law 589 = .ok (.ireturn, 1) := by decide +kernel
theorem dL_law_590 : decode cL_law 590 = .ok (.goto 118, 3) := by decide +kernel
theorem dL_law_593 : decode cL_law 593 = .ok (.aload_n 1, 1) := by decide +kernel
theorem dL_law_594 : decode cL_law 594 = .ok (.aload_n 0, 1) := by decide +kernel
theorem dL_law_595 : decode cL_law 595 = .ok (.iload_n 3, 1) := by decide +kernel
theorem dL_law_596 : decode cL_law 596 = .ok (.iconst 1, 1) := by decide +kernel
theorem dL_law_597 : decode cL_law 597 = .ok (.iadd, 1) := by decide +kernel
theorem dL_law_598 : decode cL_law 598 = .ok (.iaload, 1) := by decide +kernel
theorem dL_law_599 : decode cL_law 599 = .ok (.invokevirtual 78, 3) := by decide +kernel
theorem dL_law_602 : decode cL_law 602 = .ok (.aload_n 2, 1) := by decide +kernel
theorem dL_law_603 : decode cL_law 603 = .ok (.aload_n 0, 1) := by decide +kernel
theorem dL_law_604 : decode cL_law 604 = .ok (.iload_n 3, 1) := by decide +kernel
theorem dL_law_605 : decode cL_law 605 = .ok (.iconst 1, 1) := by decide +kernel
theorem dL_law_606 : decode cL_law 606 = .ok (.iadd, 1) := by decide +kernel
theorem dL_law_607 : decode cL_law 607 = .ok (.iaload, 1) := by decide +kernel
theorem dL_law_608 : decode cL_law 608 = .ok (.invokevirtual 81, 3) := by decide +kernel
theorem dL_law_611 : decode cL_law 611 = .ok (.if_icmp .eq 97, 3) := by decide +kernel
theorem dL_law_614 : decode cL_law 614 = .ok (.iconst 0, 1) := by decide +kernel
theorem dL_law_615 : decode cL_law 615 = .ok (.ireturn, 1) := by decide +kernel
theorem dL_law_616 : decode cL_law 616 = .ok (.aload_n 1, 1) := by decide +kernel
theorem dL_law_617 : decode cL_law 617 = .ok (.invokevirtual 82, 3) := by decide +kernel
theorem dL_law_620 : decode cL_law 620 = .ok (.aload_n 2, 1) := by decide +kernel
theorem dL_law_621 : decode cL_law 621 = .ok (.invokevirtual 85, 3) := by decide +kernel
theorem dL_law_624 : decode cL_law 624 = .ok (.if_icmp .eq 84, 3) := by decide +kernel
theorem dL_law_627 : decode cL_law 627 = .ok (.iconst 0, 1) := by decide +kernel
theorem dL_law_628 : decode cL_law 628 = .ok (.ireturn, 1) := by decide +kernel
theorem dL_law_629 : decode cL_law 629 = .ok (.aload_n 1, 1) := by decide +kernel
theorem dL_law_630 : decode cL_law 630 = .ok (.aload_n 0, 1) := by decide +kernel
theorem dL_law_631 : decode cL_law 631 = .ok (.iload_n 3, 1) := by decide +kernel
theorem dL_law_632 : decode cL_law 632 = .ok (.iconst 1, 1) := by decide +kernel
theorem dL_law_633 : decode cL_law 633 = .ok (.iadd, 1) := by decide +kernel
theorem dL_law_634 : decode cL_law 634 = .ok (.iaload, 1) := by decide +kernel
theorem dL_law_635 : decode cL_law 635 = .ok (.aload_n 0, 1) := by decide +kernel
theorem dL_law_636 : decode cL_law 636 = .ok (.iload_n 3, 1) := by decide +kernel
theorem dL_law_637 : decode cL_law 637 = .ok (.iconst 2, 1) := by decide +kernel
theorem dL_law_638 : decode cL_law 638 = .ok (.iadd, 1) := by decide +kernel
theorem dL_law_639 : decode cL_law 639 = .ok (.iaload, 1) := by decide +kernel
theorem dL_law_640 : decode cL_law 640 = .ok (.invokevirtual 86, 3) := by decide +kernel
theorem dL_law_643 : decode cL_law 643 = .ok (.aload_n 2, 1) := by decide +kernel
theorem dL_law_644 : decode cL_law 644 = .ok (.aload_n 0, 1) := by decide +kernel
theorem dL_law_645 : decode cL_law 645 = .ok (.iload_n 3, 1) := by decide +kernel
theorem dL_law_646 : decode cL_law 646 = .ok (.iconst 1, 1) := by decide +kernel
theorem dL_law_647 : decode cL_law 647 = .ok (.iadd, 1) := by decide +kernel
theorem dL_law_648 : decode cL_law 648 = .ok (.iaload, 1) := by decide +kernel
theorem dL_law_649 : decode cL_law 649 = .ok (.aload_n 0, 1) := by decide +kernel
theorem dL_law_650 : decode cL_law 650 = .ok (.iload_n 3, 1) := by decide +kernel
theorem dL_law_651 : decode cL_law 651 = .ok (.iconst 2, 1) := by decide +kernel
theorem dL_law_652 : decode cL_law 652 = .ok (.iadd, 1) := by decide +kernel
theorem dL_law_653 : decode cL_law 653 = .ok (.iaload, 1) := by decide +kernel
theorem dL_law_654 : decode cL_law 654 = .ok (.invokevirtual 89, 3) := by decide +kernel
theorem dL_law_657 : decode cL_law 657 = .ok (.if_icmp .eq 51, 3) := by decide +kernel
theorem dL_law_660 : decode cL_law 660 = .ok (.iconst 0, 1) := by decide +kernel
theorem dL_law_661 : decode cL_law 661 = .ok (.ireturn, 1) := by decide +kernel
theorem dL_law_662 : decode cL_law 662 = .ok (.aload_n 1, 1) := by decide +kernel
theorem dL_law_663 : decode cL_law 663 = .ok (.aload_n 0, 1) := by decide +kernel
theorem dL_law_664 : decode cL_law 664 = .ok (.iload_n 3, 1) := by decide +kernel
theorem dL_law_665 : decode cL_law 665 = .ok (.iconst 1, 1) := by decide +kernel
theorem dL_law_666 : decode cL_law 666 = .ok (.iadd, 1) := by decide +kernel
theorem dL_law_667 : decode cL_law 667 = .ok (.iaload, 1) := by decide +kernel
theorem dL_law_668 : decode cL_law 668 = .ok (.invokevirtual 90, 3) := by decide +kernel
theorem dL_law_671 : decode cL_law 671 = .ok (.aload_n 2, 1) := by decide +kernel
theorem dL_law_672 : decode cL_law 672 = .ok (.aload_n 0, 1) := by decide +kernel
theorem dL_law_673 : decode cL_law 673 = .ok (.iload_n 3, 1) := by decide +kernel
theorem dL_law_674 : decode cL_law 674 = .ok (.iconst 1, 1) := by decide +kernel
theorem dL_law_675 : decode cL_law 675 = .ok (.iadd, 1) := by decide +kernel
theorem dL_law_676 : decode cL_law 676 = .ok (.iaload, 1) := by decide +kernel
theorem dL_law_677 : decode cL_law 677 = .ok (.invokevirtual 93, 3) := by decide +kernel
theorem dL_law_680 : decode cL_law 680 = .ok (.if_icmp .eq 28, 3) := by decide +kernel
theorem dL_law_683 : decode cL_law 683 = .ok (.iconst 0, 1) := by decide +kernel
theorem dL_law_684 : decode cL_law 684 = .ok (.ireturn, 1) := by decide +kernel
theorem dL_law_685 : decode cL_law 685 = .ok (.aload_n 1, 1) := by decide +kernel
theorem dL_law_686 : decode cL_law 686 = .ok (.aload_n 0, 1) := by decide +kernel
theorem dL_law_687 : decode cL_law 687 = .ok (.iload_n 3, 1) := by decide +kernel
theorem dL_law_688 : decode cL_law 688 = .ok (.iconst 1, 1) := by decide +kernel
theorem dL_law_689 : decode cL_law 689 = .ok (.iadd, 1) := by decide +kernel
theorem dL_law_690 : decode cL_law 690 = .ok (.iaload, 1) := by decide +kernel
theorem dL_law_691 : decode cL_law 691 = .ok (.invokevirtual 94, 3) := by decide +kernel
theorem dL_law_694 : decode cL_law 694 = .ok (.aload_n 2, 1) := by decide +kernel
theorem dL_law_695 : decode cL_law 695 = .ok (.aload_n 0, 1) := by decide +kernel
theorem dL_law_696 : decode cL_law 696 = .ok (.iload_n 3, 1) := by decide +kernel
theorem dL_law_697 : decode cL_law 697 = .ok (.iconst 1, 1) := by decide +kernel
theorem dL_law_698 : decode cL_law 698 = .ok (.iadd, 1) := by decide +kernel
theorem dL_law_699 : decode cL_law 699 = .ok (.iaload, 1) := by decide +kernel
theorem dL_law_700 : decode cL_law 700 = .ok (.invokevirtual 97, 3) := by decide +kernel
theorem dL_law_703 : decode cL_law 703 = .ok (.if_icmp .eq 5, 3) := by decide +kernel
theorem dL_law_706 : decode cL_law 706 = .ok (.iconst 0, 1) := by decide +kernel
theorem dL_law_707 : decode cL_law 707 = .ok (.ireturn, 1) := by decide +kernel
theorem dL_law_708 : decode cL_law 708 = .ok (.iinc 3 4, 3) := by decide +kernel
theorem dL_law_711 : decode cL_law 711 = .ok (.goto (-693), 3) := by decide +kernel
theorem dL_law_714 : decode cL_law 714 = .ok (.iconst 1, 1) := by decide +kernel
theorem dL_law_715 : decode cL_law 715 = .ok (.ireturn, 1) := by decide +kernel
end
section
def zYV (y : MethodName) (b : ByteArray) (mL : Nat) (rt : Option FieldType) (n : Nat) : Prop := Cond.code y b mL rt ∈ TB ∧ Cond.initialized y.cls ∈ TB ∧ Cond.instanceMethod y ∈ TB ∧ Cond.selects y.cls y y ∈ TB ∧ y.cls ≠ "java/lang/invoke/MethodHandle" ∧ y.cls ≠ "java/lang/invoke/VarHandle" ∧ (parseMethodDescriptor y.desc).map (fun d => d.parameters.length) = some n
def zYS (y : MethodName) (b : ByteArray) (mL : Nat) (rt : Option FieldType) (n : Nat) : Prop := Cond.code y b mL rt ∈ TB ∧ Cond.initialized y.cls ∈ TB ∧ Cond.static y ∈ TB ∧ y.cls ≠ "java/lang/invoke/MethodHandle" ∧ y.cls ≠ "java/lang/invoke/VarHandle" ∧ (parseMethodDescriptor y.desc).map (fun d => d.parameters.length) = some n
def zYI (y : MethodName) (b : ByteArray) (mL : Nat) (n : Nat) : Prop := Cond.code y b mL none ∈ TB ∧ Cond.initialized y.cls ∈ TB ∧ Cond.instanceMethod y ∈ TB ∧ y.name = "<init>" ∧ y.cls ≠ "java/lang/invoke/MethodHandle" ∧ y.cls ≠ "java/lang/invoke/VarHandle" ∧ (parseMethodDescriptor y.desc).map (fun d => d.parameters.length) = some n
theorem kyX6_init : zYI yX6_init cX6_init 2 0 := ⟨q_63, q_48, q_62, rfl, by decide +kernel, by decide +kernel, by decide +kernel⟩
theorem kyX5_init : zYI yX5_init cX5_init 2 0 := ⟨q_71, q_49, q_70, rfl, by decide +kernel, by decide +kernel, by decide +kernel⟩
theorem kyX3_init : zYI yX3_init cX3_init 1 0 := ⟨q_77, q_50, q_76, rfl, by decide +kernel, by decide +kernel, by decide +kernel⟩
theorem kyX6_copyRow : zYS yX6_copyRow cX6_copyRow 2 none 2 := ⟨q_83, q_48, q_82, by decide +kernel, by decide +kernel, by decide +kernel⟩
theorem kyJ9_min_7cf53 : zYS yJ9_min_7cf53 cJ9_min_7cf53 2 (some .int) 2 := ⟨q_86, q_51, q_85, by decide +kernel, by decide +kernel, by decide +kernel⟩
theorem kyX3_giveFirstValues : zYV yX3_giveFirstValues cX3_giveFirstValues 2 none 0 := ⟨q_93, q_50, q_92, q_0, by decide +kernel, by decide +kernel, by decide +kernel⟩
theorem kyX2_init : zYI yX2_init cX2_init 1 0 := ⟨q_143, q_53, q_142, rfl, by decide +kernel, by decide +kernel, by decide +kernel⟩
theorem kyX1_init : zYI yX1_init cX1_init 2 1 := ⟨q_149, q_54, q_148, rfl, by decide +kernel, by decide +kernel, by decide +kernel⟩
theorem kyJ9_max_7cf53 : zYS yJ9_max_7cf53 cJ9_max_7cf53 2 (some .int) 2 := ⟨q_153, q_51, q_152, by decide +kernel, by decide +kernel, by decide +kernel⟩
theorem kyX4_init : zYI yX4_init cX4_init 1 0 := ⟨q_168, q_55, q_167, rfl, by decide +kernel, by decide +kernel, by decide +kernel⟩
theorem kyX0_init : zYI yX0_init cX0_init 2 0 := ⟨q_182, q_56, q_181, rfl, by decide +kernel, by decide +kernel, by decide +kernel⟩
theorem kyX6_begin : zYV yX6_begin cX6_begin 4 (some .int) 2 := ⟨q_289, q_48, q_287, q_288, by decide +kernel, by decide +kernel, by decide +kernel⟩
theorem kyX6_isWithin : zYS yX6_isWithin cX6_isWithin 3 (some .boolean) 3 := ⟨q_292, q_48, q_291, by decide +kernel, by decide +kernel, by decide +kernel⟩
theorem kyX6_remember : zYV yX6_remember cX6_remember 1 none 0 := ⟨q_296, q_48, q_295, q_1, by decide +kernel, by decide +kernel, by decide +kernel⟩
theorem kyX6_dropOldestRecord : zYV yX6_dropOldestRecord cX6_dropOldestRecord 3 none 0 := ⟨q_300, q_48, q_299, q_2, by decide +kernel, by decide +kernel, by decide +kernel⟩
theorem kyX5_copyFrom : zYV yX5_copyFrom cX5_copyFrom 3 none 1 := ⟨q_304, q_49, q_302, q_303, by decide +kernel, by decide +kernel, by decide +kernel⟩
theorem kyX3_copyFrom : zYV yX3_copyFrom cX3_copyFrom 2 none 1 := ⟨q_308, q_50, q_306, q_307, by decide +kernel, by decide +kernel, by decide +kernel⟩
theorem kyX1_copyFrom : zYV yX1_copyFrom cX1_copyFrom 2 none 1 := ⟨q_312, q_54, q_310, q_311, by decide +kernel, by decide +kernel, by decide +kernel⟩
theorem kyX2_copyFrom : zYV yX2_copyFrom cX2_copyFrom 2 none 1 := ⟨q_318, q_53, q_316, q_317, by decide +kernel, by decide +kernel, by decide +kernel⟩
theorem kyX4_copyFrom : zYV yX4_copyFrom cX4_copyFrom 2 none 1 := ⟨q_323, q_55, q_321, q_322, by decide +kernel, by decide +kernel, by decide +kernel⟩
theorem kyX0_copyFrom : zYV yX0_copyFrom cX0_copyFrom 2 none 1 := ⟨q_328, q_56, q_326, q_327, by decide +kernel, by decide +kernel, by decide +kernel⟩
theorem kyX5_restart : zYV yX5_restart cX5_restart 7 none 2 := ⟨q_333, q_49, q_331, q_332, by decide +kernel, by decide +kernel, by decide +kernel⟩
theorem kyX3_restart : zYV yX3_restart cX3_restart 4 none 2 := ⟨q_337, q_50, q_335, q_336, by decide +kernel, by decide +kernel, by decide +kernel⟩
theorem kyX1_clear : zYV yX1_clear cX1_clear 1 none 0 := ⟨q_341, q_54, q_339, q_340, by decide +kernel, by decide +kernel, by decide +kernel⟩
theorem kyX2_clear : zYV yX2_clear cX2_clear 1 none 0 := ⟨q_345, q_53, q_343, q_344, by decide +kernel, by decide +kernel, by decide +kernel⟩
theorem kyX4_clear : zYV yX4_clear cX4_clear 2 none 0 := ⟨q_350, q_55, q_348, q_349, by decide +kernel, by decide +kernel, by decide +kernel⟩
theorem kyX0_clear : zYV yX0_clear cX0_clear 2 none 0 := ⟨q_354, q_56, q_352, q_353, by decide +kernel, by decide +kernel, by decide +kernel⟩
theorem kyX6_setBlock : zYV yX6_setBlock cX6_setBlock 4 (some .int) 2 := ⟨q_358, q_48, q_356, q_357, by decide +kernel, by decide +kernel, by decide +kernel⟩
theorem kyX6_isBlock : zYV yX6_isBlock cX6_isBlock 2 (some .boolean) 1 := ⟨q_362, q_48, q_361, q_3, by decide +kernel, by decide +kernel, by decide +kernel⟩
theorem kyX6_setLoss : zYV yX6_setLoss cX6_setLoss 4 (some .int) 2 := ⟨q_366, q_48, q_364, q_365, by decide +kernel, by decide +kernel, by decide +kernel⟩
theorem kyX6_isLink : zYV yX6_isLink cX6_isLink 2 (some .boolean) 1 := ⟨q_370, q_48, q_369, q_4, by decide +kernel, by decide +kernel, by decide +kernel⟩
theorem kyX6_setWeight : zYV yX6_setWeight cX6_setWeight 4 (some .int) 2 := ⟨q_374, q_48, q_372, q_373, by decide +kernel, by decide +kernel, by decide +kernel⟩
theorem kyX3_weightSum : zYV yX3_weightSum cX3_weightSum 3 (some .int) 0 := ⟨q_378, q_50, q_376, q_377, by decide +kernel, by decide +kernel, by decide +kernel⟩
theorem kyX6_set : zYV yX6_set cX6_set 3 (some .int) 2 := ⟨q_382, q_48, q_380, q_381, by decide +kernel, by decide +kernel, by decide +kernel⟩
theorem kyX6_isSetting : zYS yX6_isSetting cX6_isSetting 2 (some .boolean) 2 := ⟨q_385, q_48, q_384, by decide +kernel, by decide +kernel, by decide +kernel⟩
theorem kyX5_changeRoom : zYV yX5_changeRoom cX5_changeRoom 7 (some .int) 1 := ⟨q_389, q_49, q_387, q_388, by decide +kernel, by decide +kernel, by decide +kernel⟩
theorem kyX1_removeFrontsBeyond : zYV yX1_removeFrontsBeyond cX1_removeFrontsBeyond 3 none 1 := ⟨q_393, q_54, q_391, q_392, by decide +kernel, by decide +kernel, by decide +kernel⟩
theorem kyX1_removeAt : zYV yX1_removeAt cX1_removeAt 4 (some .int) 1 := ⟨q_397, q_54, q_395, q_396, by decide +kernel, by decide +kernel, by decide +kernel⟩
theorem kyX3_changePolicy : zYV yX3_changePolicy cX3_changePolicy 3 (some .int) 1 := ⟨q_401, q_50, q_399, q_400, by decide +kernel, by decide +kernel, by decide +kernel⟩
theorem kyX3_changeStyle : zYV yX3_changeStyle cX3_changeStyle 3 (some .int) 1 := ⟨q_405, q_50, q_403, q_404, by decide +kernel, by decide +kernel, by decide +kernel⟩
theorem kyX3_changeSeed : zYV yX3_changeSeed cX3_changeSeed 3 (some .int) 1 := ⟨q_409, q_50, q_407, q_408, by decide +kernel, by decide +kernel, by decide +kernel⟩
theorem kyX6_run : zYV yX6_run cX6_run 3 (some .int) 1 := ⟨q_413, q_48, q_411, q_412, by decide +kernel, by decide +kernel, by decide +kernel⟩
theorem kyX5_tick : zYV yX5_tick cX5_tick 2 none 0 := ⟨q_417, q_49, q_415, q_416, by decide +kernel, by decide +kernel, by decide +kernel⟩
theorem kyX5_make : zYV yX5_make cX5_make 3 (some .int) 1 := ⟨q_421, q_49, q_420, q_5, by decide +kernel, by decide +kernel, by decide +kernel⟩
theorem kyX3_drawPacket : zYV yX3_drawPacket cX3_drawPacket 4 (some .int) 0 := ⟨q_425, q_50, q_423, q_424, by decide +kernel, by decide +kernel, by decide +kernel⟩
theorem kyX3_drawDegree : zYV yX3_drawDegree cX3_drawDegree 4 (some .int) 0 := ⟨q_429, q_50, q_427, q_428, by decide +kernel, by decide +kernel, by decide +kernel⟩
theorem kyX3_draw : zYV yX3_draw cX3_draw 2 (some .int) 1 := ⟨q_434, q_50, q_432, q_433, by decide +kernel, by decide +kernel, by decide +kernel⟩
theorem kyX3_packetOf : zYV yX3_packetOf cX3_packetOf 4 (some .int) 1 := ⟨q_443, q_50, q_441, q_442, by decide +kernel, by decide +kernel, by decide +kernel⟩
theorem kyX6_packetWith : zYS yX6_packetWith cX6_packetWith 2 (some .int) 2 := ⟨q_446, q_48, q_445, by decide +kernel, by decide +kernel, by decide +kernel⟩
theorem kyX5_listOf : zYV yX5_listOf cX5_listOf 2 (some (.object "RelayTransfer$PacketList")) 1 := ⟨q_450, q_49, q_448, q_449, by decide +kernel, by decide +kernel, by decide +kernel⟩
theorem kyX5_recode : zYV yX5_recode cX5_recode 5 (some .int) 1 := ⟨q_454, q_49, q_453, q_6, by decide +kernel, by decide +kernel, by decide +kernel⟩
theorem kyX1_at : zYV yX1_at cX1_at 2 (some .int) 1 := ⟨q_459, q_54, q_457, q_458, by decide +kernel, by decide +kernel, by decide +kernel⟩
theorem kyX6_setIn : zYS yX6_setIn cX6_setIn 1 (some .int) 1 := ⟨q_462, q_48, q_461, by decide +kernel, by decide +kernel, by decide +kernel⟩
theorem kyX5_forward : zYV yX5_forward cX5_forward 3 (some .int) 1 := ⟨q_466, q_49, q_465, q_7, by decide +kernel, by decide +kernel, by decide +kernel⟩
theorem kyX1_append : zYV yX1_append cX1_append 2 none 1 := ⟨q_471, q_54, q_469, q_470, by decide +kernel, by decide +kernel, by decide +kernel⟩
theorem kyX3_isLostOn : zYV yX3_isLostOn cX3_isLostOn 3 (some .boolean) 1 := ⟨q_475, q_50, q_473, q_474, by decide +kernel, by decide +kernel, by decide +kernel⟩
theorem kyX2_accept : zYV yX2_accept cX2_accept 3 (some .boolean) 2 := ⟨q_479, q_53, q_477, q_478, by decide +kernel, by decide +kernel, by decide +kernel⟩
theorem kyX2_peel : zYV yX2_peel cX2_peel 5 none 2 := ⟨q_483, q_53, q_482, q_8, by decide +kernel, by decide +kernel, by decide +kernel⟩
theorem kyX0_takenOutOf : zYV yX0_takenOutOf cX0_takenOutOf 4 (some .int) 1 := ⟨q_487, q_56, q_485, q_486, by decide +kernel, by decide +kernel, by decide +kernel⟩
theorem kyX6_hasBlock : zYS yX6_hasBlock cX6_hasBlock 2 (some .boolean) 2 := ⟨q_490, q_48, q_489, by decide +kernel, by decide +kernel, by decide +kernel⟩
theorem kyX6_degreeOf : zYS yX6_degreeOf cX6_degreeOf 1 (some .int) 1 := ⟨q_493, q_48, q_492, by decide +kernel, by decide +kernel, by decide +kernel⟩
theorem kyJ6_bitCount_0f7a4 : zYS yJ6_bitCount_0f7a4 cJ6_bitCount_0f7a4 1 (some .int) 1 := ⟨q_496, q_58, q_495, by decide +kernel, by decide +kernel, by decide +kernel⟩
theorem kyX0_add : zYV yX0_add cX0_add 4 none 2 := ⟨q_506, q_56, q_504, q_505, by decide +kernel, by decide +kernel, by decide +kernel⟩
theorem kyX1_takeOut : zYV yX1_takeOut cX1_takeOut 5 none 1 := ⟨q_510, q_54, q_508, q_509, by decide +kernel, by decide +kernel, by decide +kernel⟩
theorem kyX1_removeFirstSingle : zYV yX1_removeFirstSingle cX1_removeFirstSingle 2 (some .int) 0 := ⟨q_515, q_54, q_513, q_514, by decide +kernel, by decide +kernel, by decide +kernel⟩
theorem kyX4_take : zYV yX4_take cX4_take 5 (some .boolean) 1 := ⟨q_522, q_55, q_520, q_521, by decide +kernel, by decide +kernel, by decide +kernel⟩
theorem kyX2_solve : zYV yX2_solve cX2_solve 4 none 1 := ⟨q_526, q_53, q_525, q_9, by decide +kernel, by decide +kernel, by decide +kernel⟩
theorem kyX4_reduce : zYV yX4_reduce cX4_reduce 5 (some .int) 1 := ⟨q_531, q_55, q_529, q_530, by decide +kernel, by decide +kernel, by decide +kernel⟩
theorem kyX6_valueIn : zYS yX6_valueIn cX6_valueIn 1 (some .int) 1 := ⟨q_534, q_48, q_533, by decide +kernel, by decide +kernel, by decide +kernel⟩
theorem kyX5_store : zYV yX5_store cX5_store 4 none 2 := ⟨q_538, q_49, q_537, q_10, by decide +kernel, by decide +kernel, by decide +kernel⟩
theorem kyX5_isNovelFor : zYV yX5_isNovelFor cX5_isNovelFor 3 (some .boolean) 2 := ⟨q_542, q_49, q_540, q_541, by decide +kernel, by decide +kernel, by decide +kernel⟩
theorem kyX5_rankOf : zYV yX5_rankOf cX5_rankOf 3 (some .int) 1 := ⟨q_546, q_49, q_544, q_545, by decide +kernel, by decide +kernel, by decide +kernel⟩
theorem kyX1_placeOfMostCommon : zYV yX1_placeOfMostCommon cX1_placeOfMostCommon 6 (some .int) 1 := ⟨q_553, q_54, q_551, q_552, by decide +kernel, by decide +kernel, by decide +kernel⟩
theorem kyX6_inject : zYV yX6_inject cX6_inject 2 (some .int) 1 := ⟨q_558, q_48, q_556, q_557, by decide +kernel, by decide +kernel, by decide +kernel⟩
theorem kyX6_isBlockSet : zYV yX6_isBlockSet cX6_isBlockSet 2 (some .boolean) 1 := ⟨q_562, q_48, q_561, q_11, by decide +kernel, by decide +kernel, by decide +kernel⟩
theorem kyX6_undo : zYV yX6_undo cX6_undo 1 (some .int) 0 := ⟨q_568, q_48, q_566, q_567, by decide +kernel, by decide +kernel, by decide +kernel⟩
theorem kyX6_told : zYV yX6_told cX6_told 4 (some .int) 1 := ⟨q_572, q_48, q_570, q_571, by decide +kernel, by decide +kernel, by decide +kernel⟩
theorem kyX6_block : zYV yX6_block cX6_block 3 (some .int) 2 := ⟨q_576, q_48, q_574, q_575, by decide +kernel, by decide +kernel, by decide +kernel⟩
theorem kyX0_valueAt : zYV yX0_valueAt cX0_valueAt 2 (some .int) 1 := ⟨q_580, q_56, q_578, q_579, by decide +kernel, by decide +kernel, by decide +kernel⟩
theorem kyX0_has : zYV yX0_has cX0_has 2 (some .boolean) 1 := ⟨q_584, q_56, q_582, q_583, by decide +kernel, by decide +kernel, by decide +kernel⟩
theorem kyX6_packet : zYV yX6_packet cX6_packet 5 (some .int) 3 := ⟨q_589, q_48, q_587, q_588, by decide +kernel, by decide +kernel, by decide +kernel⟩
theorem kyX6_numberOfPacket : zYS yX6_numberOfPacket cX6_numberOfPacket 4 (some .int) 3 := ⟨q_593, q_48, q_592, by decide +kernel, by decide +kernel, by decide +kernel⟩
theorem kyX6_waiting : zYV yX6_waiting cX6_waiting 3 (some .int) 2 := ⟨q_601, q_48, q_599, q_600, by decide +kernel, by decide +kernel, by decide +kernel⟩
theorem kyX6_node : zYV yX6_node cX6_node 4 (some .int) 2 := ⟨q_605, q_48, q_603, q_604, by decide +kernel, by decide +kernel, by decide +kernel⟩
theorem kyX6_novel : zYV yX6_novel cX6_novel 4 (some .int) 2 := ⟨q_610, q_48, q_608, q_609, by decide +kernel, by decide +kernel, by decide +kernel⟩
theorem kyX6_overhead : zYV yX6_overhead cX6_overhead 2 (some .float) 0 := ⟨q_615, q_48, q_613, q_614, by decide +kernel, by decide +kernel, by decide +kernel⟩
theorem kyX6_forecast : zYV yX6_forecast cX6_forecast 2 (some .int) 1 := ⟨q_619, q_48, q_617, q_618, by decide +kernel, by decide +kernel, by decide +kernel⟩
theorem kyX6_ticksOfTrial : zYV yX6_ticksOfTrial cX6_ticksOfTrial 4 (some .int) 2 := ⟨q_623, q_48, q_622, q_12, by decide +kernel, by decide +kernel, by decide +kernel⟩
theorem kyX5_isComplete : zYV yX5_isComplete cX5_isComplete 3 (some .boolean) 1 := ⟨q_627, q_49, q_625, q_626, by decide +kernel, by decide +kernel, by decide +kernel⟩
theorem kyX6_bestPolicy : zYV yX6_bestPolicy cX6_bestPolicy 5 (some .int) 0 := ⟨q_631, q_48, q_629, q_630, by decide +kernel, by decide +kernel, by decide +kernel⟩
theorem kyX6_bearable : zYV yX6_bearable cX6_bearable 4 (some .int) 2 := ⟨q_635, q_48, q_633, q_634, by decide +kernel, by decide +kernel, by decide +kernel⟩
theorem kyX6_keep : zYV yX6_keep cX6_keep 2 (some .int) 1 := ⟨q_639, q_48, q_637, q_638, by decide +kernel, by decide +kernel, by decide +kernel⟩
theorem kyX6_back : zYV yX6_back cX6_back 2 (some .int) 1 := ⟨q_643, q_48, q_641, q_642, by decide +kernel, by decide +kernel, by decide +kernel⟩
theorem kyX7_init : zYI yX7_init cX7_init 1 0 := ⟨q_648, q_57, q_647, rfl, by decide +kernel, by decide +kernel, by decide +kernel⟩
theorem kyX7_lay : zYV yX7_lay cX7_lay 4 none 2 := ⟨q_653, q_57, q_652, q_13, by decide +kernel, by decide +kernel, by decide +kernel⟩
theorem kyX7_begin : zYV yX7_begin cX7_begin 4 (some .int) 2 := ⟨q_700, q_57, q_698, q_699, by decide +kernel, by decide +kernel, by decide +kernel⟩
theorem kyX7_isIn : zYS yX7_isIn cX7_isIn 3 (some .boolean) 3 := ⟨q_703, q_57, q_702, by decide +kernel, by decide +kernel, by decide +kernel⟩
theorem kyX7_remember : zYV yX7_remember cX7_remember 2 none 0 := ⟨q_707, q_57, q_706, q_14, by decide +kernel, by decide +kernel, by decide +kernel⟩
theorem kyX7_setBlock : zYV yX7_setBlock cX7_setBlock 3 (some .int) 2 := ⟨q_711, q_57, q_709, q_710, by decide +kernel, by decide +kernel, by decide +kernel⟩
theorem kyX7_isBlock : zYV yX7_isBlock cX7_isBlock 2 (some .boolean) 1 := ⟨q_715, q_57, q_714, q_15, by decide +kernel, by decide +kernel, by decide +kernel⟩
theorem kyX7_put : zYV yX7_put cX7_put 4 (some .int) 2 := ⟨q_719, q_57, q_718, q_16, by decide +kernel, by decide +kernel, by decide +kernel⟩
theorem kyX7_setLoss : zYV yX7_setLoss cX7_setLoss 3 (some .int) 2 := ⟨q_723, q_57, q_721, q_722, by decide +kernel, by decide +kernel, by decide +kernel⟩
theorem kyX7_setWeight : zYV yX7_setWeight cX7_setWeight 4 (some .int) 2 := ⟨q_727, q_57, q_725, q_726, by decide +kernel, by decide +kernel, by decide +kernel⟩
theorem kyX7_weights : zYV yX7_weights cX7_weights 3 (some .int) 0 := ⟨q_731, q_57, q_730, q_17, by decide +kernel, by decide +kernel, by decide +kernel⟩
theorem kyX7_set : zYV yX7_set cX7_set 6 (some .int) 2 := ⟨q_735, q_57, q_733, q_734, by decide +kernel, by decide +kernel, by decide +kernel⟩
theorem kyX7_storeOf : zYS yX7_storeOf cX7_storeOf 1 (some .int) 1 := ⟨q_738, q_57, q_737, by decide +kernel, by decide +kernel, by decide +kernel⟩
theorem kyX7_drop : zYV yX7_drop cX7_drop 4 none 2 := ⟨q_742, q_57, q_741, q_18, by decide +kernel, by decide +kernel, by decide +kernel⟩
theorem kyX7_setAt : zYS yX7_setAt cX7_setAt 2 (some .int) 2 := ⟨q_745, q_57, q_744, by decide +kernel, by decide +kernel, by decide +kernel⟩
theorem kyX7_run : zYV yX7_run cX7_run 3 (some .int) 1 := ⟨q_749, q_57, q_747, q_748, by decide +kernel, by decide +kernel, by decide +kernel⟩
theorem kyX7_tick : zYV yX7_tick cX7_tick 3 none 0 := ⟨q_753, q_57, q_752, q_19, by decide +kernel, by decide +kernel, by decide +kernel⟩
theorem kyX7_makeAtSource : zYV yX7_makeAtSource cX7_makeAtSource 4 none 0 := ⟨q_757, q_57, q_756, q_20, by decide +kernel, by decide +kernel, by decide +kernel⟩
theorem kyX7_draw : zYV yX7_draw cX7_draw 4 (some .int) 1 := ⟨q_761, q_57, q_760, q_21, by decide +kernel, by decide +kernel, by decide +kernel⟩
theorem kyX7_valueOf : zYV yX7_valueOf cX7_valueOf 4 (some .int) 1 := ⟨q_769, q_57, q_768, q_22, by decide +kernel, by decide +kernel, by decide +kernel⟩
theorem kyX7_makeAtRelay : zYV yX7_makeAtRelay cX7_makeAtRelay 6 none 1 := ⟨q_773, q_57, q_772, q_23, by decide +kernel, by decide +kernel, by decide +kernel⟩
theorem kyX7_append : zYV yX7_append cX7_append 4 none 3 := ⟨q_777, q_57, q_776, q_24, by decide +kernel, by decide +kernel, by decide +kernel⟩
theorem kyX7_arriveAtRelay : zYV yX7_arriveAtRelay cX7_arriveAtRelay 7 none 3 := ⟨q_781, q_57, q_780, q_25, by decide +kernel, by decide +kernel, by decide +kernel⟩
theorem kyX7_isNovel : zYV yX7_isNovel cX7_isNovel 4 (some .boolean) 2 := ⟨q_785, q_57, q_784, q_26, by decide +kernel, by decide +kernel, by decide +kernel⟩
theorem kyX7_layBase : zYV yX7_layBase cX7_layBase 4 (some .int) 1 := ⟨q_789, q_57, q_788, q_27, by decide +kernel, by decide +kernel, by decide +kernel⟩
theorem kyX7_reduce : zYV yX7_reduce cX7_reduce 4 none 2 := ⟨q_793, q_57, q_792, q_28, by decide +kernel, by decide +kernel, by decide +kernel⟩
theorem kyX7_highest : zYV yX7_highest cX7_highest 3 (some .int) 1 := ⟨q_797, q_57, q_796, q_29, by decide +kernel, by decide +kernel, by decide +kernel⟩
theorem kyX7_mostAlike : zYV yX7_mostAlike cX7_mostAlike 5 (some .int) 2 := ⟨q_801, q_57, q_800, q_30, by decide +kernel, by decide +kernel, by decide +kernel⟩
theorem kyX7_size : zYS yX7_size cX7_size 3 (some .int) 1 := ⟨q_804, q_57, q_803, by decide +kernel, by decide +kernel, by decide +kernel⟩
theorem kyX7_arriveAtReceiver : zYV yX7_arriveAtReceiver cX7_arriveAtReceiver 5 (some .int) 2 := ⟨q_808, q_57, q_807, q_31, by decide +kernel, by decide +kernel, by decide +kernel⟩
theorem kyX7_peel : zYV yX7_peel cX7_peel 8 none 2 := ⟨q_812, q_57, q_811, q_32, by decide +kernel, by decide +kernel, by decide +kernel⟩
theorem kyX7_lowest : zYS yX7_lowest cX7_lowest 2 (some .int) 1 := ⟨q_815, q_57, q_814, by decide +kernel, by decide +kernel, by decide +kernel⟩
theorem kyX7_learn : zYV yX7_learn cX7_learn 5 none 2 := ⟨q_819, q_57, q_818, q_33, by decide +kernel, by decide +kernel, by decide +kernel⟩
theorem kyX7_firstAlone : zYV yX7_firstAlone cX7_firstAlone 2 (some .int) 0 := ⟨q_823, q_57, q_822, q_34, by decide +kernel, by decide +kernel, by decide +kernel⟩
theorem kyX7_solved : zYV yX7_solved cX7_solved 2 (some .int) 1 := ⟨q_827, q_57, q_826, q_35, by decide +kernel, by decide +kernel, by decide +kernel⟩
theorem kyX7_note : zYV yX7_note cX7_note 1 none 0 := ⟨q_831, q_57, q_830, q_36, by decide +kernel, by decide +kernel, by decide +kernel⟩
theorem kyX7_inject : zYV yX7_inject cX7_inject 3 (some .int) 1 := ⟨q_835, q_57, q_833, q_834, by decide +kernel, by decide +kernel, by decide +kernel⟩
theorem kyX7_isSet : zYV yX7_isSet cX7_isSet 2 (some .boolean) 1 := ⟨q_839, q_57, q_838, q_37, by decide +kernel, by decide +kernel, by decide +kernel⟩
theorem kyX7_undo : zYV yX7_undo cX7_undo 2 (some .int) 0 := ⟨q_843, q_57, q_841, q_842, by decide +kernel, by decide +kernel, by decide +kernel⟩
theorem kyX7_told : zYV yX7_told cX7_told 2 (some .int) 1 := ⟨q_847, q_57, q_845, q_846, by decide +kernel, by decide +kernel, by decide +kernel⟩
theorem kyX7_known : zYV yX7_known cX7_known 3 (some .int) 0 := ⟨q_851, q_57, q_850, q_38, by decide +kernel, by decide +kernel, by decide +kernel⟩
theorem kyX7_solvedBlocks : zYV yX7_solvedBlocks cX7_solvedBlocks 3 (some .int) 0 := ⟨q_855, q_57, q_854, q_39, by decide +kernel, by decide +kernel, by decide +kernel⟩
theorem kyX7_block : zYV yX7_block cX7_block 4 (some .int) 2 := ⟨q_859, q_57, q_857, q_858, by decide +kernel, by decide +kernel, by decide +kernel⟩
theorem kyX7_packet : zYV yX7_packet cX7_packet 4 (some .int) 3 := ⟨q_863, q_57, q_861, q_862, by decide +kernel, by decide +kernel, by decide +kernel⟩
theorem kyX7_hasList : zYV yX7_hasList cX7_hasList 2 (some .boolean) 1 := ⟨q_867, q_57, q_866, q_40, by decide +kernel, by decide +kernel, by decide +kernel⟩
theorem kyX7_listOf : zYV yX7_listOf cX7_listOf 2 (some .int) 1 := ⟨q_871, q_57, q_870, q_41, by decide +kernel, by decide +kernel, by decide +kernel⟩
theorem kyX7_part : zYV yX7_part cX7_part 5 (some .int) 3 := ⟨q_875, q_57, q_874, q_42, by decide +kernel, by decide +kernel, by decide +kernel⟩
theorem kyX7_waiting : zYV yX7_waiting cX7_waiting 3 (some .int) 2 := ⟨q_879, q_57, q_877, q_878, by decide +kernel, by decide +kernel, by decide +kernel⟩
theorem kyX7_node : zYV yX7_node cX7_node 3 (some .int) 2 := ⟨q_883, q_57, q_881, q_882, by decide +kernel, by decide +kernel, by decide +kernel⟩
theorem kyX7_novel : zYV yX7_novel cX7_novel 3 (some .int) 2 := ⟨q_887, q_57, q_885, q_886, by decide +kernel, by decide +kernel, by decide +kernel⟩
theorem kyX7_overhead : zYV yX7_overhead cX7_overhead 1 (some .float) 0 := ⟨q_891, q_57, q_889, q_890, by decide +kernel, by decide +kernel, by decide +kernel⟩
theorem kyX7_forecast : zYV yX7_forecast cX7_forecast 3 (some .int) 1 := ⟨q_895, q_57, q_893, q_894, by decide +kernel, by decide +kernel, by decide +kernel⟩
theorem kyX7_hold : zYV yX7_hold cX7_hold 2 none 0 := ⟨q_899, q_57, q_898, q_43, by decide +kernel, by decide +kernel, by decide +kernel⟩
theorem kyX7_ticksTo : zYV yX7_ticksTo cX7_ticksTo 4 (some .int) 2 := ⟨q_903, q_57, q_902, q_44, by decide +kernel, by decide +kernel, by decide +kernel⟩
theorem kyX7_isWhole : zYV yX7_isWhole cX7_isWhole 2 (some .boolean) 1 := ⟨q_907, q_57, q_906, q_45, by decide +kernel, by decide +kernel, by decide +kernel⟩
theorem kyX7_release : zYV yX7_release cX7_release 2 none 0 := ⟨q_911, q_57, q_910, q_46, by decide +kernel, by decide +kernel, by decide +kernel⟩
theorem kyX7_bestPolicy : zYV yX7_bestPolicy cX7_bestPolicy 5 (some .int) 0 := ⟨q_915, q_57, q_913, q_914, by decide +kernel, by decide +kernel, by decide +kernel⟩
theorem kyX7_bearable : zYV yX7_bearable cX7_bearable 5 (some .int) 2 := ⟨q_919, q_57, q_917, q_918, by decide +kernel, by decide +kernel, by decide +kernel⟩
theorem kyX7_keep : zYV yX7_keep cX7_keep 3 (some .int) 1 := ⟨q_923, q_57, q_921, q_922, by decide +kernel, by decide +kernel, by decide +kernel⟩
theorem kyX7_isImage : zYS yX7_isImage cX7_isImage 1 (some .boolean) 1 := ⟨q_926, q_57, q_925, by decide +kernel, by decide +kernel, by decide +kernel⟩
theorem kyX7_back : zYV yX7_back cX7_back 3 (some .int) 1 := ⟨q_930, q_57, q_928, q_929, by decide +kernel, by decide +kernel, by decide +kernel⟩
theorem q_objc : Cond.code objectInit ⟨#[0xb1]⟩ 1 none ∈ TB := q_66
theorem q_obji : Cond.instanceMethod objectInit ∈ TB := q_65
theorem q_mminc : Cond.code Lib.Math.min.name Lib.Math.min.code 2 (some .int) ∈ TB := q_86
theorem q_mmins : Cond.static Lib.Math.min.name ∈ TB := q_85
theorem q_mmaxc : Cond.code Lib.Math.max.name Lib.Math.max.code 2 (some .int) ∈ TB := q_153
theorem q_mmaxs : Cond.static Lib.Math.max.name ∈ TB := q_152
theorem q_acn : Cond.native arraycopyName ∈ TB := q_89
theorem q_acs : Cond.static arraycopyName ∈ TB := q_88
theorem q_sys : Cond.initialized "java/lang/System" ∈ TB := q_52
theorem q_math : Cond.initialized "java/lang/Math" ∈ TB := q_51
theorem inX0 : ∀ w ∈ u_ws RX0 TX0 3, w ∈ TB := by decide +kernel
theorem inX1 : ∀ w ∈ u_ws RX1 TX1 2, w ∈ TB := by decide +kernel
theorem inX2 : ∀ w ∈ u_ws RX2 TX2 8, w ∈ TB := by decide +kernel
theorem inX3 : ∀ w ∈ u_ws RX3 TX3 9, w ∈ TB := by decide +kernel
theorem inX4 : ∀ w ∈ u_ws RX4 TX4 2, w ∈ TB := by decide +kernel
theorem inX5 : ∀ w ∈ u_ws RX5 TX5 8, w ∈ TB := by decide +kernel
theorem inX6 : ∀ w ∈ u_ws RX6 TX6 6, w ∈ TB := by decide +kernel
theorem inX7 : ∀ w ∈ u_ws RX7 TX7 14, w ∈ TB := by decide +kernel
end
section
/-! THE LAYER: one heap picture for all (a shape and a content for each address), one judgement VV that carries heap, locals and frame -/
section ZBASE
abbrev zG : Type := va_G × (Nat → ClassId) × Nat × Nat
abbrev zH : Type := Nat → Nat × Nat × (Nat → Nat)
abbrev zV : Type := Nat → Nat → Int32
def zl (p : Nat) (x : Int32) : Value := match p with
  | 0 => .int x
  | 1 => .null
  | q + 2 => .ref q
def zok (G : zG) (a : Nat) (k : Nat × Nat × (Nat → Nat)) (f : Nat → Int32) (H : Heap) : Prop :=
  (k.1 < 8 → t_OB a (G.1.1 k.1) k.2.1 (G.1.2 k.1) H (fun j => zl (k.2.2 j) (f j))) ∧ (8 ≤ k.1 → H[a]? = some (arrV (G.2.1 k.1) k.2.1 (fun j => zl (k.2.2 j) (f j))))
def zdm (G : zG) (N a : Nat) : Prop := (G.2.2.1 ≤ a ∧ a < N) ∨ a = G.2.2.2
def zR (G : zG) (sh : zH) (v : zV) (N : Nat) (H : Heap) : Prop := H.size = N ∧ G.2.2.1 ≤ N ∧ G.2.2.2 < G.2.2.1 ∧ ∀ a, zdm G N a → zok G a (sh a) (v a) H
abbrev zA (G : zG) : Nat → Prop := fun q => G.2.2.1 ≤ q
def zcl : List vw_C := [(RX0, TX0, 3), (RX1, TX1, 2), (RX2, TX2, 8), (RX3, TX3, 9), (RX4, TX4, 2), (RX5, TX5, 8), (RX6, TX6, 6), (RX7, TX7, 14)]
def zty (G : zG) : List (ClassId × FieldType) := [(G.2.1 8, .int), (G.2.1 9, .boolean), (G.2.1 10, .object RX1), (G.2.1 11, .object RX5)]
def zK (G : zG) (s : State) : Prop := va_K G.1 zcl (zty G) s ∧ (∀ w ∈ NB, va_Nw w s) ∧ va_AO RX1 s ∧ va_AO RX5 s
def z2 (v : zV) (a k : Nat) (x : Int32) : zV := fun b j => if b = a ∧ j = k then x else v b j
theorem z2_self (v : zV) (a k : Nat) (x : Int32) : z2 v a k x a k = x := by simp [z2]
theorem z2_ne {v : zV} {a k b j : Nat} {x : Int32} (h : ¬ (b = a ∧ j = k)) : z2 v a k x b j = v b j := by simp [z2, h]
theorem z2_addr {v : zV} {a k b : Nat} {x : Int32} (h : b ≠ a) : z2 v a k x b = v b := by funext j; simp [z2, h]
theorem z2_at (v : zV) (a k : Nat) (x : Int32) : z2 v a k x a = upd (v a) k x := by funext j; simp [z2, upd]
theorem zok.kept {G : zG} {a : Nat} {k : Nat × Nat × (Nat → Nat)} {f : Nat → Int32} {H H1 : Heap} (h : zok G a k f H) (hq : H1[a]? = H[a]?) : zok G a k f H1 := ⟨fun hk => (h.1 hk).kept hq, fun hk => by rw [hq]; exact h.2 hk⟩
theorem zok.lt {G : zG} {a : Nat} {k : Nat × Nat × (Nat → Nat)} {f : Nat → Int32} {H : Heap} (h : zok G a k f H) : a < H.size := by
  rcases Nat.lt_or_ge k.1 8 with hk | hk
  · obtain ⟨cell, h1, -⟩ := h.1 hk
    exact (Array.getElem?_eq_some_iff.mp h1).1
  · exact (Array.getElem?_eq_some_iff.mp (h.2 hk)).1
theorem zR.put {G : zG} {sh : zH} {v : zV} {N : Nat} {H H1 : Heap} (h : zR G sh v N H) {a k : Nat} {x : Int32} (e : zok G a (sh a) (upd (v a) k x) H1) (z : H1.size = H.size) (oq : ∀ q : Nat, q ≠ a → H1[q]? = H[q]?) : zR G sh (z2 v a k x) N H1 := by
  obtain ⟨h1, h2, h3, h4⟩ := h
  refine ⟨z.trans h1, h2, h3, fun b hb => ?_⟩
  by_cases hba : b = a
  · subst hba
    rw [z2_at]
    exact e
  · rw [z2_addr hba]
    exact (h4 b hb).kept (oq b hba)
theorem zNw_moved {w : Cond} (h : zN w = true) {u U : State} (hW : u.WarmedH U.vm) (hw : va_Nw w u) : va_Nw w U := by
  unfold zN at h
  split at h
  · exact va_Nw.warmF hW hw
  · exact va_Nw.warmM hW hw
  · cases h
theorem zNw_on {w : Cond} (h : zN w = true) : w.onTables = true := by
  unfold zN at h
  split at h
  · rfl
  · rfl
  · cases h
theorem zK.moved {G : zG} {u U : State} (hW : u.WarmedH U.vm) (h : zK G u) : zK G U := ⟨va_K.moved hW.alike h.1, fun w hw => zNw_moved (NB_n hw) hW (h.2.1 w hw), va_AO.moved hW.alike h.2.2.1, va_AO.moved hW.alike h.2.2.2⟩
theorem zK.same {G : zG} {u U : State} (hv : u.vm = U.vm) (h : zK G u) : zK G U := by
  have ha : u.vm.Alike U.vm := by rw [hv]; exact Vm.Alike.refl U.vm
  exact ⟨va_K.moved ha h.1, fun w hw => va_Nw.same (zNw_on (NB_n hw)) hv (h.2.1 w hw), va_AO.moved ha h.2.2.1, va_AO.moved ha h.2.2.2⟩
def lo (ls : Array Slot) (nL : Nat) (lv : List (Option Value)) : Prop := ls.size = nL ∧ lv_wf ls ∧ ∀ (i : Nat) (w : Value), lv[i]? = some (some w) → ls[i]? = some (.val w)
def asl : Nat → List (Option Value) → List (Nat × Value)
  | _, [] => []
  | i, none :: t => asl (i + 1) t
  | i, some w :: t => (i, w) :: asl (i + 1) t
theorem asl_mem (lv : List (Option Value)) : ∀ (n j : Nat) (w : Value), (j, w) ∈ asl n lv ↔ ∃ i, j = n + i ∧ lv[i]? = some (some w) := by
  induction lv with
  | nil => intro n j w; simp [asl]
  | cons o t ih =>
    intro n j w
    have key : (∃ i, j = n + 1 + i ∧ t[i]? = some (some w)) ↔ (∃ i, j = n + (i + 1) ∧ t[i]? = some (some w)) := by
      constructor
      · rintro ⟨i, h1, h2⟩; exact ⟨i, by omega, h2⟩
      · rintro ⟨i, h1, h2⟩; exact ⟨i, by omega, h2⟩
    cases o with
    | none =>
      simp only [asl, ih, key]
      constructor
      · rintro ⟨i, h1, h2⟩; exact ⟨i + 1, h1, by simpa using h2⟩
      · rintro ⟨i, h1, h2⟩
        cases i with
        | zero => simp at h2
        | succ i => exact ⟨i, h1, by simpa using h2⟩
    | some x =>
      simp only [asl, List.mem_cons, ih, key, Prod.mk.injEq]
      constructor
      · rintro (⟨h1, h2⟩ | ⟨i, h1, h2⟩)
        · exact ⟨0, by omega, by simp [h2]⟩
        · exact ⟨i + 1, h1, by simpa using h2⟩
      · rintro ⟨i, h1, h2⟩
        cases i with
        | zero => simp at h2; exact Or.inl ⟨by omega, h2.symm⟩
        | succ i => exact Or.inr ⟨i, h1, by simpa using h2⟩
theorem lo_has {ls : Array Slot} {nL : Nat} {lv : List (Option Value)} (h : lo ls nL lv) : lv_has ls nL (asl 0 lv) := by
  refine ⟨h.1, h.2.1, fun q hq => ?_⟩
  obtain ⟨i, h1, h2⟩ := (asl_mem lv 0 q.1 q.2).mp hq
  have h3 : q.1 = i := by omega
  rw [h3]
  exact h.2.2 i q.2 h2
def lvc (lv : List (Option Value)) : Bool := lv.all (fun o => match o with
  | some w => w.category == 1
  | none => true)
theorem lo_set1 {ls : Array Slot} {nL i : Nat} {lv : List (Option Value)} {x : Value} (hc : lvc lv = true) (h : lv_has ls nL ((i, x) :: (asl 0 lv).filter (fun q => !(q.1 == i) && !(q.1 + 1 == i && q.2.category == 2)))) : lo ls nL (lv.set i (some x)) := by
  refine ⟨h.1, h.2.1, fun j w hj => ?_⟩
  rw [List.getElem?_set] at hj
  by_cases hij : i = j
  · rw [if_pos hij] at hj
    by_cases hl : i < lv.length
    · rw [if_pos hl] at hj
      cases hj
      subst hij
      exact h.2.2 (i, x) List.mem_cons_self
    · rw [if_neg hl] at hj
      cases hj
  · rw [if_neg hij] at hj
    refine h.2.2 (j, w) (List.mem_cons_of_mem _ (List.mem_filter.mpr ⟨(asl_mem lv 0 j w).mpr ⟨j, by omega, hj⟩, ?_⟩))
    have h1 := List.all_eq_true.mp hc _ (List.mem_of_getElem? hj)
    have h2 : w.category = 1 := by simpa using h1
    simp [Ne.symm hij, h2]
theorem lo_set2 {ls : Array Slot} {nL i : Nat} {lv : List (Option Value)} {x : Value} (hc : lvc lv = true) (h : lv_has ls nL ((i, x) :: (asl 0 lv).filter (fun q => !(q.1 == i) && (!(q.1 == i + 1) && !(q.1 + 1 == i && q.2.category == 2))))) : lo ls nL ((lv.set i (some x)).set (i + 1) none) := by
  refine ⟨h.1, h.2.1, fun j w hj => ?_⟩
  rw [List.getElem?_set] at hj
  by_cases hij : i + 1 = j
  · rw [if_pos hij] at hj
    split at hj <;> cases hj
  · rw [if_neg hij, List.getElem?_set] at hj
    by_cases hij2 : i = j
    · rw [if_pos hij2] at hj
      by_cases hl : i < lv.length
      · rw [if_pos hl] at hj
        cases hj
        subst hij2
        exact h.2.2 (i, x) List.mem_cons_self
      · rw [if_neg hl] at hj
        cases hj
    · rw [if_neg hij2] at hj
      refine h.2.2 (j, w) (List.mem_cons_of_mem _ (List.mem_filter.mpr ⟨(asl_mem lv 0 j w).mpr ⟨j, by omega, hj⟩, ?_⟩))
      have h1 := List.all_eq_true.mp hc _ (List.mem_of_getElem? hj)
      have h2 : w.category = 1 := by simpa using h1
      simp [Ne.symm hij, Ne.symm hij2, h2]
theorem lo_args (as : List Value) : ∀ (k i : Nat) (w : Value), (∀ x ∈ as, x.category = 1) → as[i]? = some w → (k + i, w) ∈ lv_args k as := by
  induction as with
  | nil => intro k i w _ h; simp at h
  | cons x t ih =>
    intro k i w hc h
    have h1 : x.category = 1 := hc x List.mem_cons_self
    cases i with
    | zero =>
      simp at h
      subst h
      exact List.mem_cons_self
    | succ i =>
      refine List.mem_cons_of_mem _ ?_
      rw [if_neg (by rw [h1]; decide)]
      have := ih (k + 1) i w (fun y hy => hc y (List.mem_cons_of_mem _ hy)) (by simpa using h)
      rw [show k + (i + 1) = k + 1 + i by omega]
      exact this
theorem lo_entry {as : List Value} {n : Nat} (hc : ∀ x ∈ as, x.category = 1) (h : as.length ≤ n) : lo ((lg_sl as ++ List.replicate (n - (lg_sl as).length) Slot.unset).toArray) n (as.map some ++ List.replicate (n - as.length) none) := by
  have hl : (lg_sl as).length = as.length := by
    clear h
    induction as with
    | nil => rfl
    | cons x t ih =>
      have h1 : x.category = 1 := hc x List.mem_cons_self
      have h2 := ih (fun y hy => hc y (List.mem_cons_of_mem _ hy))
      simp only [lg_sl, List.flatMap_cons, h1] at h2 ⊢
      simp [h2]
  have h0 := lv_entry as (n := n) (by rw [hl]; exact h)
  refine ⟨h0.1, h0.2.1, fun i w hi => ?_⟩
  have h1 : as[i]? = some w := by
    by_cases hlt : i < as.length
    · rw [List.getElem?_append_left (by simpa using hlt)] at hi
      rw [List.getElem?_map] at hi
      cases h2 : as[i]? with
      | none => rw [h2] at hi; cases hi
      | some x => rw [h2] at hi; simp at hi; rw [hi]
    · rw [List.getElem?_append_right (by simpa using Nat.not_lt.mp hlt)] at hi
      have := List.eq_of_mem_replicate (List.mem_of_getElem? hi)
      cases this
  have h2 := lo_args as 0 i w hc h1
  rw [Nat.zero_add] at h2
  exact h0.2.2 (i, w) h2
end ZBASE
section ZROWS
def VV (p : Program) (l : Launch) (e : Env) (R : Room) (s : State) (m : MethodId) (args : Array Value) (below : List Frame) (meth : Method) (c : Code) (cells slots : Nat) (Q : State → Prop) (G : zG) (nL : Nat) (sh : zH) (v : zV) (N pc : Nat) (lv : List (Option Value)) (st : List Value) : Prop :=
  ∀ (H : Heap) (locs : List Loc) (ls : Array Slot), zR G sh v N H → va_S (zA G) s.heap H locs → lo ls nL lv → W p l e R s m args below meth c H locs cells slots Q (F0 m pc ls st)
def zC (p : Program) (s : State) (m : MethodId) (args : Array Value) (meth : Method) (c : Code) (own nm : String) (cc : ByteArray) (nL : Nat) (ret : Option FieldType) (G : zG) : Prop :=
  p.tables.exec = Jvm.exec ∧ c.code = cc ∧ c.maxLocals = nL ∧ s.vm.findClass own = some m.cls ∧ (∀ w ∈ TB, w.before args s = true) ∧ meth.sig.returnType = ret ∧ meth.locks = false ∧ meth.name = nm ∧ zK G s
def zM (l : Launch) (G : zG) (y : MethodName) (b : ByteArray) (mL : Nat) (ret : Option FieldType) (dp mc ms : Nat) (as : List Value) (sh : zH) (v : zV) (N : Nat) (Post : Option Value → zH → zV → Nat → Prop) : Prop :=
  Met l y (Cond.code y b mL ret :: TB) ({ frames := dp, cells := mc, slots := ms, locals := 32 * dp }) (va_Pc as (fun U => zR G sh v N U.heap ∧ zK G U)) (fun _ st o t => (∃ (r : Option Value) (sh1 : zH) (v1 : zV) (N1 : Nat), o = .returned r ∧ Post r sh1 v1 N1 ∧ zR G sh1 v1 N1 t.heap) ∧ va_F (zA G) st t) mc ms (zA G)
def zQ (below : List Frame) (Post : Option Value → zH → zV → Nat → Prop) (G : zG) (args : Array Value) (s : State) (mc ms : Nat) : State → Prop :=
  MQ below (fun _ st o t => (∃ (r : Option Value) (sh1 : zH) (v1 : zV) (N1 : Nat), o = .returned r ∧ Post r sh1 v1 N1 ∧ zR G sh1 v1 N1 t.heap) ∧ va_F (zA G) st t) args s mc ms (zA G)
def zm (l : Launch) (G : zG) (y : MethodName) (b : ByteArray) (mL : Nat) (ret : Option FieldType) (dp : Nat) (as : List Value) (sh : zH) (v : zV) (N : Nat) (Post : Option Value → zV → Prop) : Prop :=
  zM l G y b mL ret dp 0 0 as sh v N (fun r sh1 v1 N1 => sh1 = sh ∧ N1 = N ∧ Post r v1)
theorem zC.k {p : Program} {s : State} {m : MethodId} {args : Array Value} {meth : Method} {c : Code} {own nm : String} {cc : ByteArray} {nL : Nat} {ret : Option FieldType} {G : zG} (C : zC p s m args meth c own nm cc nL ret G) : va_K G.1 zcl (zty G) s := C.2.2.2.2.2.2.2.2.1
theorem zC.n {p : Program} {s : State} {m : MethodId} {args : Array Value} {meth : Method} {c : Code} {own nm : String} {cc : ByteArray} {nL : Nat} {ret : Option FieldType} {G : zG} (C : zC p s m args meth c own nm cc nL ret G) {w : Cond} (h : w ∈ NB) : w.before args s = true := va_Nw.use (zNw_on (NB_n h)) (C.2.2.2.2.2.2.2.2.2.1 w h)
theorem zM.of {l : Launch} {G : zG} {y : MethodName} {b : ByteArray} {mL : Nat} {ret : Option FieldType} {dp mc ms : Nat} {as : List Value} {sh : zH} {v : zV} {N : Nat} {Post : Option Value → zH → zV → Nat → Prop} (hy : plainName y.cls = true) (hc : as.all (fun w => w.category == 1) = true) (hl : as.length ≤ mL)
    (h : ∀ (p : Program) (e : Env) (s : State) (m : MethodId) (args : Array Value) (below : List Frame) (meth : Method) (c : Code), zC p s m args meth c y.cls y.name b mL ret G →
      VV p l e ({ frames := dp, cells := mc, slots := ms, locals := 32 * dp }) s m args below meth c 0 0 (zQ below Post G args s mc ms) G mL sh v N 0 (as.map some ++ List.replicate (mL - as.length) none) []) : zM l G y b mL ret dp mc ms as sh v N Post := by
  refine Met.ofW (cc := b) (maxL := mL) (ret := ret) hy rfl ?_
  intro p e s m args below meth c s₁ B hml hv
  obtain ⟨rfl, hR, hK⟩ := hv
  have hts := atoms_spec (ws := Cond.code y b mL ret :: TB) B.pre
  have C : zC p s m as.toArray meth c y.cls y.name b mL ret G := ⟨B.exec, B.bytes, hml, findClass_of_methodNamed B.named, fun w hw => hts w (List.mem_cons_of_mem _ hw), B.returns, B.notSynchronized, (name_of_methodNamed B.named B.method).1, hK⟩
  have hc1 : ∀ x ∈ as, x.category = 1 := fun x hx => by simpa using List.all_eq_true.mp hc x hx
  have := h p e s m as.toArray below meth c C s.heap [] _ hR va_S.rf (lo_entry hc1 hl)
  rw [lg_entry_eq]
  exact this
variable {p : Program} {l : Launch} {e : Env} {R : Room} {s : State} {m : MethodId} {args : Array Value} {below : List Frame} {meth : Method} {c : Code} {cells slots : Nat} {Q : State → Prop} {G : zG} {nL : Nat} {sh : zH} {v : zV} {N pc : Nat} {lv : List (Option Value)} {st : List Value} {own nm : String} {cc : ByteArray} {ret : Option FieldType}
theorem VV.eq {st2 : List Value} (h : st2 = st) (k : VV p l e R s m args below meth c cells slots Q G nL sh v N pc lv st) : VV p l e R s m args below meth c cells slots Q G nL sh v N pc lv st2 := h ▸ k
theorem VV.weak {lv2 : List (Option Value)} (h : ∀ (i : Nat) (w : Value), lv2[i]? = some (some w) → lv[i]? = some (some w)) (k : VV p l e R s m args below meth c cells slots Q G nL sh v N pc lv2 st) : VV p l e R s m args below meth c cells slots Q G nL sh v N pc lv st := fun H locs ls h1 h2 h3 => k H locs ls h1 h2 ⟨h3.1, h3.2.1, fun i w hi => h3.2.2 i w (h i w hi)⟩
theorem VV.vq {v2 : zV} (h : v = v2) (k : VV p l e R s m args below meth c cells slots Q G nL sh v2 N pc lv st) : VV p l e R s m args below meth c cells slots Q G nL sh v N pc lv st := h ▸ k

theorem r_iconst (C : zC p s m args meth c own nm cc nL ret G) {n : Int} {x : Int32} (hv : Int32.ofInt n = x) (hdg : decode cc pc = .ok (.iconst n, 1)) (kk : VV p l e R s m args below meth c cells slots Q G nL sh v N (pc + 1) lv (.int x :: st)) : VV p l e R s m args below meth c cells slots Q G nL sh v N pc lv st := fun H locs ls h1 h2 h3 => lv_iconst C.1 C.2.1 hdg hv (kk H locs ls h1 h2 h3)
theorem r_bipush (C : zC p s m args meth c own nm cc nL ret G) {n : Int} {x : Int32} (hv : (Int8.ofInt n).toInt32 = x) (hdg : decode cc pc = .ok (.bipush n, 2)) (kk : VV p l e R s m args below meth c cells slots Q G nL sh v N (pc + 2) lv (.int x :: st)) : VV p l e R s m args below meth c cells slots Q G nL sh v N pc lv st := fun H locs ls h1 h2 h3 => lv_bipush C.1 C.2.1 hdg hv (kk H locs ls h1 h2 h3)
theorem r_sipush (C : zC p s m args meth c own nm cc nL ret G) {n : Int} {x : Int32} (hv : (Int16.ofInt n).toInt32 = x) (hdg : decode cc pc = .ok (.sipush n, 3)) (kk : VV p l e R s m args below meth c cells slots Q G nL sh v N (pc + 3) lv (.int x :: st)) : VV p l e R s m args below meth c cells slots Q G nL sh v N pc lv st := fun H locs ls h1 h2 h3 => lv_sipush C.1 C.2.1 hdg hv (kk H locs ls h1 h2 h3)
theorem r_ldc (C : zC p s m args meth c own nm cc nL ret G) {index : Nat} {x : Int32} (hw : Cond.constant own index x ∈ TB) (hdg : decode cc pc = .ok (.ldc index, 2)) (kk : VV p l e R s m args below meth c cells slots Q G nL sh v N (pc + 2) lv (.int x :: st)) : VV p l e R s m args below meth c cells slots Q G nL sh v N pc lv st := fun H locs ls h1 h2 h3 => lv_ldc C.1 C.2.1 C.2.2.2.1 (C.2.2.2.2.1 _ hw) hdg (kk H locs ls h1 h2 h3)
theorem r_ldcw (C : zC p s m args meth c own nm cc nL ret G) {index : Nat} {x : Int32} (hw : Cond.constant own index x ∈ TB) (hdg : decode cc pc = .ok (.ldc_w index, 3)) (kk : VV p l e R s m args below meth c cells slots Q G nL sh v N (pc + 3) lv (.int x :: st)) : VV p l e R s m args below meth c cells slots Q G nL sh v N pc lv st := fun H locs ls h1 h2 h3 => lv_ldcw C.1 C.2.1 C.2.2.2.1 (C.2.2.2.2.1 _ hw) hdg (kk H locs ls h1 h2 h3)
theorem r_ldc2 (C : zC p s m args meth c own nm cc nL ret G) {index : Nat} {x : Int64} (hw : Cond.constantLong own index x ∈ TB) (hdg : decode cc pc = .ok (.ldc2_w index, 3)) (kk : VV p l e R s m args below meth c cells slots Q G nL sh v N (pc + 3) lv (.long x :: st)) : VV p l e R s m args below meth c cells slots Q G nL sh v N pc lv st := fun H locs ls h1 h2 h3 => lv_ldc2 C.1 C.2.1 C.2.2.2.1 (C.2.2.2.2.1 _ hw) hdg (kk H locs ls h1 h2 h3)
theorem r_null (C : zC p s m args meth c own nm cc nL ret G)  (hdg : decode cc pc = .ok (.aconst_null, 1)) (kk : VV p l e R s m args below meth c cells slots Q G nL sh v N (pc + 1) lv (.null :: st)) : VV p l e R s m args below meth c cells slots Q G nL sh v N pc lv st := fun H locs ls h1 h2 h3 => lv_null C.1 C.2.1 hdg (kk H locs ls h1 h2 h3)
theorem r_iload_n (C : zC p s m args meth c own nm cc nL ret G) {k : Fin 4} {i : Nat} {x : Int32} (hi : (k : Nat) = i) (hl : lv[i]? = some (some (.int x))) (hdg : decode cc pc = .ok (.iload_n k, 1)) (kk : VV p l e R s m args below meth c cells slots Q G nL sh v N (pc + 1) lv (.int x :: st)) : VV p l e R s m args below meth c cells slots Q G nL sh v N pc lv st := fun H locs ls h1 h2 h3 => lv_iload_n C.1 C.2.1 hdg hi (h3.2.2 _ _ hl) (kk H locs ls h1 h2 h3)
theorem r_iload (C : zC p s m args meth c own nm cc nL ret G) {i : Nat} {x : Int32} (hl : lv[i]? = some (some (.int x))) (hdg : decode cc pc = .ok (.iload i, 2)) (kk : VV p l e R s m args below meth c cells slots Q G nL sh v N (pc + 2) lv (.int x :: st)) : VV p l e R s m args below meth c cells slots Q G nL sh v N pc lv st := fun H locs ls h1 h2 h3 => lv_iload C.1 C.2.1 hdg (h3.2.2 _ _ hl) (kk H locs ls h1 h2 h3)
theorem r_aload_n (C : zC p s m args meth c own nm cc nL ret G) {k : Fin 4} {i : Nat} {x : Nat} (hi : (k : Nat) = i) (hl : lv[i]? = some (some (.ref x))) (hdg : decode cc pc = .ok (.aload_n k, 1)) (kk : VV p l e R s m args below meth c cells slots Q G nL sh v N (pc + 1) lv (.ref x :: st)) : VV p l e R s m args below meth c cells slots Q G nL sh v N pc lv st := fun H locs ls h1 h2 h3 => lv_aload_n C.1 C.2.1 hdg hi (h3.2.2 _ _ hl) (kk H locs ls h1 h2 h3)
theorem r_aload (C : zC p s m args meth c own nm cc nL ret G) {i : Nat} {x : Nat} (hl : lv[i]? = some (some (.ref x))) (hdg : decode cc pc = .ok (.aload i, 2)) (kk : VV p l e R s m args below meth c cells slots Q G nL sh v N (pc + 2) lv (.ref x :: st)) : VV p l e R s m args below meth c cells slots Q G nL sh v N pc lv st := fun H locs ls h1 h2 h3 => lv_aload C.1 C.2.1 hdg (h3.2.2 _ _ hl) (kk H locs ls h1 h2 h3)
theorem r_lload_n (C : zC p s m args meth c own nm cc nL ret G) {k : Fin 4} {i : Nat} {x : Int64} (hi : (k : Nat) = i) (hl : lv[i]? = some (some (.long x))) (hdg : decode cc pc = .ok (.lload_n k, 1)) (kk : VV p l e R s m args below meth c cells slots Q G nL sh v N (pc + 1) lv (.long x :: st)) : VV p l e R s m args below meth c cells slots Q G nL sh v N pc lv st := fun H locs ls h1 h2 h3 => lv_lload_n C.1 C.2.1 hdg hi (h3.2.2 _ _ hl) (kk H locs ls h1 h2 h3)
theorem r_lload (C : zC p s m args meth c own nm cc nL ret G) {i : Nat} {x : Int64} (hl : lv[i]? = some (some (.long x))) (hdg : decode cc pc = .ok (.lload i, 2)) (kk : VV p l e R s m args below meth c cells slots Q G nL sh v N (pc + 2) lv (.long x :: st)) : VV p l e R s m args below meth c cells slots Q G nL sh v N pc lv st := fun H locs ls h1 h2 h3 => lv_lload C.1 C.2.1 hdg (h3.2.2 _ _ hl) (kk H locs ls h1 h2 h3)
theorem r_istore_n (C : zC p s m args meth c own nm cc nL ret G) {k : Fin 4} {i : Nat} {x : Int32} (hi : (k : Nat) = i) {lv2 : List (Option Value)} (hn : i < nL) (hc : lvc lv = true) (hs : lv.set i (some (.int x)) = lv2) (hdg : decode cc pc = .ok (.istore_n k, 1)) (kk : VV p l e R s m args below meth c cells slots Q G nL sh v N (pc + 1) lv2 st) : VV p l e R s m args below meth c cells slots Q G nL sh v N pc lv (.int x :: st) := fun H locs ls h1 h2 h3 => lv_istore_n C.1 C.2.1 hdg hi (lo_has h3) hn rfl (fun ls2 hl2 => kk H locs ls2 h1 h2 (hs ▸ lo_set1 hc hl2))
theorem r_istore (C : zC p s m args meth c own nm cc nL ret G) {i : Nat} {x : Int32} {lv2 : List (Option Value)} (hn : i < nL) (hc : lvc lv = true) (hs : lv.set i (some (.int x)) = lv2) (hdg : decode cc pc = .ok (.istore i, 2)) (kk : VV p l e R s m args below meth c cells slots Q G nL sh v N (pc + 2) lv2 st) : VV p l e R s m args below meth c cells slots Q G nL sh v N pc lv (.int x :: st) := fun H locs ls h1 h2 h3 => lv_istore C.1 C.2.1 hdg (lo_has h3) hn rfl (fun ls2 hl2 => kk H locs ls2 h1 h2 (hs ▸ lo_set1 hc hl2))
theorem r_astore_n (C : zC p s m args meth c own nm cc nL ret G) {k : Fin 4} {i : Nat} {x : Nat} (hi : (k : Nat) = i) {lv2 : List (Option Value)} (hn : i < nL) (hc : lvc lv = true) (hs : lv.set i (some (.ref x)) = lv2) (hdg : decode cc pc = .ok (.astore_n k, 1)) (kk : VV p l e R s m args below meth c cells slots Q G nL sh v N (pc + 1) lv2 st) : VV p l e R s m args below meth c cells slots Q G nL sh v N pc lv (.ref x :: st) := fun H locs ls h1 h2 h3 => lv_astore_n C.1 C.2.1 hdg hi (lo_has h3) hn rfl (fun ls2 hl2 => kk H locs ls2 h1 h2 (hs ▸ lo_set1 hc hl2))
theorem r_astore (C : zC p s m args meth c own nm cc nL ret G) {i : Nat} {x : Nat} {lv2 : List (Option Value)} (hn : i < nL) (hc : lvc lv = true) (hs : lv.set i (some (.ref x)) = lv2) (hdg : decode cc pc = .ok (.astore i, 2)) (kk : VV p l e R s m args below meth c cells slots Q G nL sh v N (pc + 2) lv2 st) : VV p l e R s m args below meth c cells slots Q G nL sh v N pc lv (.ref x :: st) := fun H locs ls h1 h2 h3 => lv_astore C.1 C.2.1 hdg (lo_has h3) hn rfl (fun ls2 hl2 => kk H locs ls2 h1 h2 (hs ▸ lo_set1 hc hl2))
theorem r_lstore_n (C : zC p s m args meth c own nm cc nL ret G) {k : Fin 4} {i : Nat} {x : Int64} (hi : (k : Nat) = i) {lv2 : List (Option Value)} (hn : i + 1 < nL) (hc : lvc lv = true) (hs : (lv.set i (some (.long x))).set (i + 1) none = lv2) (hdg : decode cc pc = .ok (.lstore_n k, 1)) (kk : VV p l e R s m args below meth c cells slots Q G nL sh v N (pc + 1) lv2 st) : VV p l e R s m args below meth c cells slots Q G nL sh v N pc lv (.long x :: st) := fun H locs ls h1 h2 h3 => lv_lstore_n C.1 C.2.1 hdg hi (lo_has h3) hn rfl (fun ls2 hl2 => kk H locs ls2 h1 h2 (hs ▸ lo_set2 hc hl2))
theorem r_iinc (C : zC p s m args meth c own nm cc nL ret G) {i : Nat} {n : Int} {x y : Int32} {lv2 : List (Option Value)} (hl : lv[i]? = some (some (.int x))) (hv : x + Int32.ofInt n = y) (hn : i < nL) (hc : lvc lv = true) (hs : lv.set i (some (.int y)) = lv2) (hdg : decode cc pc = .ok (.iinc i n, 3)) (kk : VV p l e R s m args below meth c cells slots Q G nL sh v N (pc + 3) lv2 st) : VV p l e R s m args below meth c cells slots Q G nL sh v N pc lv st := fun H locs ls h1 h2 h3 => by
  obtain ⟨k, hk⟩ := List.getElem?_of_mem ((asl_mem lv 0 i (.int x)).mpr ⟨i, by omega, hl⟩)
  exact lv_iinc C.1 C.2.1 hdg (lo_has h3) hk hv hn rfl (fun ls2 hl2 => kk H locs ls2 h1 h2 (hs ▸ lo_set1 hc hl2))
theorem r_iadd (C : zC p s m args meth c own nm cc nL ret G) {x y z : Int32} (hv : x + y = z) (hdg : decode cc pc = .ok (.iadd, 1)) (kk : VV p l e R s m args below meth c cells slots Q G nL sh v N (pc + 1) lv (.int z :: st)) : VV p l e R s m args below meth c cells slots Q G nL sh v N pc lv (.int y :: .int x :: st) := fun H locs ls h1 h2 h3 => lv_iadd C.1 C.2.1 hdg (by rw [hv]; exact kk H locs ls h1 h2 h3)
theorem r_isub (C : zC p s m args meth c own nm cc nL ret G) {x y z : Int32} (hv : x - y = z) (hdg : decode cc pc = .ok (.isub, 1)) (kk : VV p l e R s m args below meth c cells slots Q G nL sh v N (pc + 1) lv (.int z :: st)) : VV p l e R s m args below meth c cells slots Q G nL sh v N pc lv (.int y :: .int x :: st) := fun H locs ls h1 h2 h3 => lv_isub C.1 C.2.1 hdg (by rw [hv]; exact kk H locs ls h1 h2 h3)
theorem r_imul (C : zC p s m args meth c own nm cc nL ret G) {x y z : Int32} (hv : x * y = z) (hdg : decode cc pc = .ok (.imul, 1)) (kk : VV p l e R s m args below meth c cells slots Q G nL sh v N (pc + 1) lv (.int z :: st)) : VV p l e R s m args below meth c cells slots Q G nL sh v N pc lv (.int y :: .int x :: st) := fun H locs ls h1 h2 h3 => lv_imul C.1 C.2.1 hdg (by rw [hv]; exact kk H locs ls h1 h2 h3)
theorem r_iand (C : zC p s m args meth c own nm cc nL ret G) {x y z : Int32} (hv : x &&& y = z) (hdg : decode cc pc = .ok (.iand, 1)) (kk : VV p l e R s m args below meth c cells slots Q G nL sh v N (pc + 1) lv (.int z :: st)) : VV p l e R s m args below meth c cells slots Q G nL sh v N pc lv (.int y :: .int x :: st) := fun H locs ls h1 h2 h3 => lv_iand C.1 C.2.1 hdg (by rw [hv]; exact kk H locs ls h1 h2 h3)
theorem r_ior (C : zC p s m args meth c own nm cc nL ret G) {x y z : Int32} (hv : x ||| y = z) (hdg : decode cc pc = .ok (.ior, 1)) (kk : VV p l e R s m args below meth c cells slots Q G nL sh v N (pc + 1) lv (.int z :: st)) : VV p l e R s m args below meth c cells slots Q G nL sh v N pc lv (.int y :: .int x :: st) := fun H locs ls h1 h2 h3 => lv_ior C.1 C.2.1 hdg (by rw [hv]; exact kk H locs ls h1 h2 h3)
theorem r_ixor (C : zC p s m args meth c own nm cc nL ret G) {x y z : Int32} (hv : x ^^^ y = z) (hdg : decode cc pc = .ok (.ixor, 1)) (kk : VV p l e R s m args below meth c cells slots Q G nL sh v N (pc + 1) lv (.int z :: st)) : VV p l e R s m args below meth c cells slots Q G nL sh v N pc lv (.int y :: .int x :: st) := fun H locs ls h1 h2 h3 => lv_ixor C.1 C.2.1 hdg (by rw [hv]; exact kk H locs ls h1 h2 h3)
theorem r_ishl (C : zC p s m args meth c own nm cc nL ret G) {x y z : Int32} (hv : x <<< (y &&& 31) = z) (hdg : decode cc pc = .ok (.ishl, 1)) (kk : VV p l e R s m args below meth c cells slots Q G nL sh v N (pc + 1) lv (.int z :: st)) : VV p l e R s m args below meth c cells slots Q G nL sh v N pc lv (.int y :: .int x :: st) := fun H locs ls h1 h2 h3 => lv_ishl C.1 C.2.1 hdg (by rw [hv]; exact kk H locs ls h1 h2 h3)
theorem r_ishr (C : zC p s m args meth c own nm cc nL ret G) {x y z : Int32} (hv : x >>> (y &&& 31) = z) (hdg : decode cc pc = .ok (.ishr, 1)) (kk : VV p l e R s m args below meth c cells slots Q G nL sh v N (pc + 1) lv (.int z :: st)) : VV p l e R s m args below meth c cells slots Q G nL sh v N pc lv (.int y :: .int x :: st) := fun H locs ls h1 h2 h3 => lv_ishr C.1 C.2.1 hdg (by rw [hv]; exact kk H locs ls h1 h2 h3)
theorem r_iushr (C : zC p s m args meth c own nm cc nL ret G) {x y z : Int32} (hv : (x.toUInt32 >>> (y.toUInt32 &&& Int32.toUInt32 31)).toInt32 = z) (hdg : decode cc pc = .ok (.iushr, 1)) (kk : VV p l e R s m args below meth c cells slots Q G nL sh v N (pc + 1) lv (.int z :: st)) : VV p l e R s m args below meth c cells slots Q G nL sh v N pc lv (.int y :: .int x :: st) := fun H locs ls h1 h2 h3 => lv_iushr C.1 C.2.1 hdg hv (kk H locs ls h1 h2 h3)
theorem r_idiv (C : zC p s m args meth c own nm cc nL ret G) {x y z : Int32} (hne : ¬ y = 0) (hv : x / y = z) (hdg : decode cc pc = .ok (.idiv, 1)) (kk : VV p l e R s m args below meth c cells slots Q G nL sh v N (pc + 1) lv (.int z :: st)) : VV p l e R s m args below meth c cells slots Q G nL sh v N pc lv (.int y :: .int x :: st) := fun H locs ls h1 h2 h3 => lv_idiv C.1 C.2.1 hdg hne (by rw [hv]; exact kk H locs ls h1 h2 h3)
theorem r_irem (C : zC p s m args meth c own nm cc nL ret G) {x y z : Int32} (hne : ¬ y = 0) (hv : x - x / y * y = z) (hdg : decode cc pc = .ok (.irem, 1)) (kk : VV p l e R s m args below meth c cells slots Q G nL sh v N (pc + 1) lv (.int z :: st)) : VV p l e R s m args below meth c cells slots Q G nL sh v N pc lv (.int y :: .int x :: st) := fun H locs ls h1 h2 h3 => lv_irem C.1 C.2.1 hdg hne (by rw [hv]; exact kk H locs ls h1 h2 h3)
theorem r_ladd (C : zC p s m args meth c own nm cc nL ret G) {x y z : Int64} (hv : x + y = z) (hdg : decode cc pc = .ok (.ladd, 1)) (kk : VV p l e R s m args below meth c cells slots Q G nL sh v N (pc + 1) lv (.long z :: st)) : VV p l e R s m args below meth c cells slots Q G nL sh v N pc lv (.long y :: .long x :: st) := fun H locs ls h1 h2 h3 => lv_ladd C.1 C.2.1 hdg (by rw [hv]; exact kk H locs ls h1 h2 h3)
theorem r_lmul (C : zC p s m args meth c own nm cc nL ret G) {x y z : Int64} (hv : x * y = z) (hdg : decode cc pc = .ok (.lmul, 1)) (kk : VV p l e R s m args below meth c cells slots Q G nL sh v N (pc + 1) lv (.long z :: st)) : VV p l e R s m args below meth c cells slots Q G nL sh v N pc lv (.long y :: .long x :: st) := fun H locs ls h1 h2 h3 => lv_lmul C.1 C.2.1 hdg (by rw [hv]; exact kk H locs ls h1 h2 h3)
theorem r_lrem (C : zC p s m args meth c own nm cc nL ret G) {x y z : Int64} (hne : ¬ y = 0) (hv : x - x / y * y = z) (hdg : decode cc pc = .ok (.lrem, 1)) (kk : VV p l e R s m args below meth c cells slots Q G nL sh v N (pc + 1) lv (.long z :: st)) : VV p l e R s m args below meth c cells slots Q G nL sh v N pc lv (.long y :: .long x :: st) := fun H locs ls h1 h2 h3 => lv_lrem C.1 C.2.1 hdg hne (by rw [hv]; exact kk H locs ls h1 h2 h3)
theorem r_i2l (C : zC p s m args meth c own nm cc nL ret G) {x : Int32} {z : Int64} (hv : x.toInt64 = z) (hdg : decode cc pc = .ok (.i2l, 1)) (kk : VV p l e R s m args below meth c cells slots Q G nL sh v N (pc + 1) lv (.long z :: st)) : VV p l e R s m args below meth c cells slots Q G nL sh v N pc lv (.int x :: st) := fun H locs ls h1 h2 h3 => lv_i2l C.1 C.2.1 hdg hv (kk H locs ls h1 h2 h3)
theorem r_l2i (C : zC p s m args meth c own nm cc nL ret G) {x : Int64} {z : Int32} (hv : x.toInt32 = z) (hdg : decode cc pc = .ok (.l2i, 1)) (kk : VV p l e R s m args below meth c cells slots Q G nL sh v N (pc + 1) lv (.int z :: st)) : VV p l e R s m args below meth c cells slots Q G nL sh v N pc lv (.long x :: st) := fun H locs ls h1 h2 h3 => lv_l2i C.1 C.2.1 hdg hv (kk H locs ls h1 h2 h3)
theorem r_dup (C : zC p s m args meth c own nm cc nL ret G) {w : Value} (hw : w.category = 1) (hdg : decode cc pc = .ok (.dup, 1)) (kk : VV p l e R s m args below meth c cells slots Q G nL sh v N (pc + 1) lv (w :: w :: st)) : VV p l e R s m args below meth c cells slots Q G nL sh v N pc lv (w :: st) := fun H locs ls h1 h2 h3 => lv_dup C.1 C.2.1 hdg hw (kk H locs ls h1 h2 h3)
theorem r_pop (C : zC p s m args meth c own nm cc nL ret G) {w : Value} (hw : w.category = 1) (hdg : decode cc pc = .ok (.pop, 1)) (kk : VV p l e R s m args below meth c cells slots Q G nL sh v N (pc + 1) lv st) : VV p l e R s m args below meth c cells slots Q G nL sh v N pc lv (w :: st) := fun H locs ls h1 h2 h3 => lv_pop C.1 C.2.1 hdg hw (kk H locs ls h1 h2 h3)
theorem r_dup2 (C : zC p s m args meth c own nm cc nL ret G) {w u : Value} (hw : w.category = 1) (hu : u.category = 1) (hdg : decode cc pc = .ok (.dup2, 1)) (kk : VV p l e R s m args below meth c cells slots Q G nL sh v N (pc + 1) lv (w :: u :: w :: u :: st)) : VV p l e R s m args below meth c cells slots Q G nL sh v N pc lv (w :: u :: st) := fun H locs ls h1 h2 h3 => lv_dup2_11 C.1 C.2.1 hdg hw hu (kk H locs ls h1 h2 h3)
theorem r_goto (C : zC p s m args meth c own nm cc nL ret G) {off : Int} {tgt : Nat} (hdg : decode cc pc = .ok (.goto off, 3)) (ht : (pc : Int) + off = (tgt : Int)) (kk : VV p l e R s m args below meth c cells slots Q G nL sh v N tgt lv st) : VV p l e R s m args below meth c cells slots Q G nL sh v N pc lv st := fun H locs ls h1 h2 h3 => lv_goto C.1 C.2.1 hdg ht (kk H locs ls h1 h2 h3)
theorem r_if_eq (C : zC p s m args meth c own nm cc nL ret G) {x : Int32} {off : Int} {tgt : Nat} (hdg : decode cc pc = .ok (.ifCond .eq off, 3)) (ht : (pc : Int) + off = (tgt : Int)) (kt : x = 0 → VV p l e R s m args below meth c cells slots Q G nL sh v N tgt lv st) (kf : ¬ x = 0 → VV p l e R s m args below meth c cells slots Q G nL sh v N (pc + 3) lv st) : VV p l e R s m args below meth c cells slots Q G nL sh v N pc lv (.int x :: st) := fun H locs ls h1 h2 h3 => lv_if_eq C.1 C.2.1 hdg ht (fun q => kt q H locs ls h1 h2 h3) (fun q => kf q H locs ls h1 h2 h3)
theorem r_icmp_eq (C : zC p s m args meth c own nm cc nL ret G) {x y : Int32} {off : Int} {tgt : Nat} (hdg : decode cc pc = .ok (.if_icmp .eq off, 3)) (ht : (pc : Int) + off = (tgt : Int)) (kt : x = y → VV p l e R s m args below meth c cells slots Q G nL sh v N tgt lv st) (kf : ¬ x = y → VV p l e R s m args below meth c cells slots Q G nL sh v N (pc + 3) lv st) : VV p l e R s m args below meth c cells slots Q G nL sh v N pc lv (.int y :: .int x :: st) := fun H locs ls h1 h2 h3 => lv_icmp_eq C.1 C.2.1 hdg ht (fun q => kt q H locs ls h1 h2 h3) (fun q => kf q H locs ls h1 h2 h3)
theorem r_if_ne (C : zC p s m args meth c own nm cc nL ret G) {x : Int32} {off : Int} {tgt : Nat} (hdg : decode cc pc = .ok (.ifCond .ne off, 3)) (ht : (pc : Int) + off = (tgt : Int)) (kt : ¬ x = 0 → VV p l e R s m args below meth c cells slots Q G nL sh v N tgt lv st) (kf : x = 0 → VV p l e R s m args below meth c cells slots Q G nL sh v N (pc + 3) lv st) : VV p l e R s m args below meth c cells slots Q G nL sh v N pc lv (.int x :: st) := fun H locs ls h1 h2 h3 => lv_if_ne C.1 C.2.1 hdg ht (fun q => kt q H locs ls h1 h2 h3) (fun q => kf q H locs ls h1 h2 h3)
theorem r_icmp_ne (C : zC p s m args meth c own nm cc nL ret G) {x y : Int32} {off : Int} {tgt : Nat} (hdg : decode cc pc = .ok (.if_icmp .ne off, 3)) (ht : (pc : Int) + off = (tgt : Int)) (kt : ¬ x = y → VV p l e R s m args below meth c cells slots Q G nL sh v N tgt lv st) (kf : x = y → VV p l e R s m args below meth c cells slots Q G nL sh v N (pc + 3) lv st) : VV p l e R s m args below meth c cells slots Q G nL sh v N pc lv (.int y :: .int x :: st) := fun H locs ls h1 h2 h3 => lv_icmp_ne C.1 C.2.1 hdg ht (fun q => kt q H locs ls h1 h2 h3) (fun q => kf q H locs ls h1 h2 h3)
theorem r_if_lt (C : zC p s m args meth c own nm cc nL ret G) {x : Int32} {off : Int} {tgt : Nat} (hdg : decode cc pc = .ok (.ifCond .lt off, 3)) (ht : (pc : Int) + off = (tgt : Int)) (kt : x < 0 → VV p l e R s m args below meth c cells slots Q G nL sh v N tgt lv st) (kf : ¬ x < 0 → VV p l e R s m args below meth c cells slots Q G nL sh v N (pc + 3) lv st) : VV p l e R s m args below meth c cells slots Q G nL sh v N pc lv (.int x :: st) := fun H locs ls h1 h2 h3 => lv_if_lt C.1 C.2.1 hdg ht (fun q => kt q H locs ls h1 h2 h3) (fun q => kf q H locs ls h1 h2 h3)
theorem r_icmp_lt (C : zC p s m args meth c own nm cc nL ret G) {x y : Int32} {off : Int} {tgt : Nat} (hdg : decode cc pc = .ok (.if_icmp .lt off, 3)) (ht : (pc : Int) + off = (tgt : Int)) (kt : x < y → VV p l e R s m args below meth c cells slots Q G nL sh v N tgt lv st) (kf : ¬ x < y → VV p l e R s m args below meth c cells slots Q G nL sh v N (pc + 3) lv st) : VV p l e R s m args below meth c cells slots Q G nL sh v N pc lv (.int y :: .int x :: st) := fun H locs ls h1 h2 h3 => lv_icmp_lt C.1 C.2.1 hdg ht (fun q => kt q H locs ls h1 h2 h3) (fun q => kf q H locs ls h1 h2 h3)
theorem r_if_ge (C : zC p s m args meth c own nm cc nL ret G) {x : Int32} {off : Int} {tgt : Nat} (hdg : decode cc pc = .ok (.ifCond .ge off, 3)) (ht : (pc : Int) + off = (tgt : Int)) (kt : 0 ≤ x → VV p l e R s m args below meth c cells slots Q G nL sh v N tgt lv st) (kf : ¬ 0 ≤ x → VV p l e R s m args below meth c cells slots Q G nL sh v N (pc + 3) lv st) : VV p l e R s m args below meth c cells slots Q G nL sh v N pc lv (.int x :: st) := fun H locs ls h1 h2 h3 => lv_if_ge C.1 C.2.1 hdg ht (fun q => kt q H locs ls h1 h2 h3) (fun q => kf q H locs ls h1 h2 h3)
theorem r_icmp_ge (C : zC p s m args meth c own nm cc nL ret G) {x y : Int32} {off : Int} {tgt : Nat} (hdg : decode cc pc = .ok (.if_icmp .ge off, 3)) (ht : (pc : Int) + off = (tgt : Int)) (kt : y ≤ x → VV p l e R s m args below meth c cells slots Q G nL sh v N tgt lv st) (kf : ¬ y ≤ x → VV p l e R s m args below meth c cells slots Q G nL sh v N (pc + 3) lv st) : VV p l e R s m args below meth c cells slots Q G nL sh v N pc lv (.int y :: .int x :: st) := fun H locs ls h1 h2 h3 => lv_icmp_ge C.1 C.2.1 hdg ht (fun q => kt q H locs ls h1 h2 h3) (fun q => kf q H locs ls h1 h2 h3)
theorem r_if_gt (C : zC p s m args meth c own nm cc nL ret G) {x : Int32} {off : Int} {tgt : Nat} (hdg : decode cc pc = .ok (.ifCond .gt off, 3)) (ht : (pc : Int) + off = (tgt : Int)) (kt : 0 < x → VV p l e R s m args below meth c cells slots Q G nL sh v N tgt lv st) (kf : ¬ 0 < x → VV p l e R s m args below meth c cells slots Q G nL sh v N (pc + 3) lv st) : VV p l e R s m args below meth c cells slots Q G nL sh v N pc lv (.int x :: st) := fun H locs ls h1 h2 h3 => lv_if_gt C.1 C.2.1 hdg ht (fun q => kt q H locs ls h1 h2 h3) (fun q => kf q H locs ls h1 h2 h3)
theorem r_icmp_gt (C : zC p s m args meth c own nm cc nL ret G) {x y : Int32} {off : Int} {tgt : Nat} (hdg : decode cc pc = .ok (.if_icmp .gt off, 3)) (ht : (pc : Int) + off = (tgt : Int)) (kt : y < x → VV p l e R s m args below meth c cells slots Q G nL sh v N tgt lv st) (kf : ¬ y < x → VV p l e R s m args below meth c cells slots Q G nL sh v N (pc + 3) lv st) : VV p l e R s m args below meth c cells slots Q G nL sh v N pc lv (.int y :: .int x :: st) := fun H locs ls h1 h2 h3 => lv_icmp_gt C.1 C.2.1 hdg ht (fun q => kt q H locs ls h1 h2 h3) (fun q => kf q H locs ls h1 h2 h3)
theorem r_if_le (C : zC p s m args meth c own nm cc nL ret G) {x : Int32} {off : Int} {tgt : Nat} (hdg : decode cc pc = .ok (.ifCond .le off, 3)) (ht : (pc : Int) + off = (tgt : Int)) (kt : x ≤ 0 → VV p l e R s m args below meth c cells slots Q G nL sh v N tgt lv st) (kf : ¬ x ≤ 0 → VV p l e R s m args below meth c cells slots Q G nL sh v N (pc + 3) lv st) : VV p l e R s m args below meth c cells slots Q G nL sh v N pc lv (.int x :: st) := fun H locs ls h1 h2 h3 => lv_if_le C.1 C.2.1 hdg ht (fun q => kt q H locs ls h1 h2 h3) (fun q => kf q H locs ls h1 h2 h3)
theorem r_icmp_le (C : zC p s m args meth c own nm cc nL ret G) {x y : Int32} {off : Int} {tgt : Nat} (hdg : decode cc pc = .ok (.if_icmp .le off, 3)) (ht : (pc : Int) + off = (tgt : Int)) (kt : x ≤ y → VV p l e R s m args below meth c cells slots Q G nL sh v N tgt lv st) (kf : ¬ x ≤ y → VV p l e R s m args below meth c cells slots Q G nL sh v N (pc + 3) lv st) : VV p l e R s m args below meth c cells slots Q G nL sh v N pc lv (.int y :: .int x :: st) := fun H locs ls h1 h2 h3 => lv_icmp_le C.1 C.2.1 hdg ht (fun q => kt q H locs ls h1 h2 h3) (fun q => kf q H locs ls h1 h2 h3)
theorem n_icmp_eq (C : zC p s m args meth c own nm cc nL ret G) {a b : Nat} {off : Int} {tgt : Nat} (ha : a < 2 ^ 31) (hb : b < 2 ^ 31) (hdg : decode cc pc = .ok (.if_icmp .eq off, 3)) (ht : (pc : Int) + off = (tgt : Int)) (kt : a = b → VV p l e R s m args below meth c cells slots Q G nL sh v N tgt lv st) (kf : a ≠ b → VV p l e R s m args below meth c cells slots Q G nL sh v N (pc + 3) lv st) : VV p l e R s m args below meth c cells slots Q G nL sh v N pc lv (.int (nI b) :: .int (nI a) :: st) := r_icmp_eq C hdg ht (fun q => kt ((nI_eq ha hb).mp q)) (fun q => kf (fun z => q ((nI_eq ha hb).mpr z)))
theorem n_icmp_ne (C : zC p s m args meth c own nm cc nL ret G) {a b : Nat} {off : Int} {tgt : Nat} (ha : a < 2 ^ 31) (hb : b < 2 ^ 31) (hdg : decode cc pc = .ok (.if_icmp .ne off, 3)) (ht : (pc : Int) + off = (tgt : Int)) (kt : a ≠ b → VV p l e R s m args below meth c cells slots Q G nL sh v N tgt lv st) (kf : a = b → VV p l e R s m args below meth c cells slots Q G nL sh v N (pc + 3) lv st) : VV p l e R s m args below meth c cells slots Q G nL sh v N pc lv (.int (nI b) :: .int (nI a) :: st) := r_icmp_ne C hdg ht (fun q => kt (fun z => q ((nI_eq ha hb).mpr z))) (fun q => kf ((nI_eq ha hb).mp q))
theorem n_icmp_lt (C : zC p s m args meth c own nm cc nL ret G) {a b : Nat} {off : Int} {tgt : Nat} (ha : a < 2 ^ 31) (hb : b < 2 ^ 31) (hdg : decode cc pc = .ok (.if_icmp .lt off, 3)) (ht : (pc : Int) + off = (tgt : Int)) (kt : a < b → VV p l e R s m args below meth c cells slots Q G nL sh v N tgt lv st) (kf : b ≤ a → VV p l e R s m args below meth c cells slots Q G nL sh v N (pc + 3) lv st) : VV p l e R s m args below meth c cells slots Q G nL sh v N pc lv (.int (nI b) :: .int (nI a) :: st) := r_icmp_lt C hdg ht (fun q => kt ((nI_ltI ha hb).mp q)) (fun q => kf (Nat.not_lt.mp (fun z => q ((nI_ltI ha hb).mpr z))))
theorem n_icmp_ge (C : zC p s m args meth c own nm cc nL ret G) {a b : Nat} {off : Int} {tgt : Nat} (ha : a < 2 ^ 31) (hb : b < 2 ^ 31) (hdg : decode cc pc = .ok (.if_icmp .ge off, 3)) (ht : (pc : Int) + off = (tgt : Int)) (kt : b ≤ a → VV p l e R s m args below meth c cells slots Q G nL sh v N tgt lv st) (kf : a < b → VV p l e R s m args below meth c cells slots Q G nL sh v N (pc + 3) lv st) : VV p l e R s m args below meth c cells slots Q G nL sh v N pc lv (.int (nI b) :: .int (nI a) :: st) := r_icmp_ge C hdg ht (fun q => kt ((nI_leI hb ha).mp q)) (fun q => kf (Nat.not_le.mp (fun z => q ((nI_leI hb ha).mpr z))))
theorem n_icmp_gt (C : zC p s m args meth c own nm cc nL ret G) {a b : Nat} {off : Int} {tgt : Nat} (ha : a < 2 ^ 31) (hb : b < 2 ^ 31) (hdg : decode cc pc = .ok (.if_icmp .gt off, 3)) (ht : (pc : Int) + off = (tgt : Int)) (kt : b < a → VV p l e R s m args below meth c cells slots Q G nL sh v N tgt lv st) (kf : a ≤ b → VV p l e R s m args below meth c cells slots Q G nL sh v N (pc + 3) lv st) : VV p l e R s m args below meth c cells slots Q G nL sh v N pc lv (.int (nI b) :: .int (nI a) :: st) := r_icmp_gt C hdg ht (fun q => kt ((nI_ltI hb ha).mp q)) (fun q => kf (Nat.not_lt.mp (fun z => q ((nI_ltI hb ha).mpr z))))
theorem n_icmp_le (C : zC p s m args meth c own nm cc nL ret G) {a b : Nat} {off : Int} {tgt : Nat} (ha : a < 2 ^ 31) (hb : b < 2 ^ 31) (hdg : decode cc pc = .ok (.if_icmp .le off, 3)) (ht : (pc : Int) + off = (tgt : Int)) (kt : a ≤ b → VV p l e R s m args below meth c cells slots Q G nL sh v N tgt lv st) (kf : b < a → VV p l e R s m args below meth c cells slots Q G nL sh v N (pc + 3) lv st) : VV p l e R s m args below meth c cells slots Q G nL sh v N pc lv (.int (nI b) :: .int (nI a) :: st) := r_icmp_le C hdg ht (fun q => kt ((nI_leI ha hb).mp q)) (fun q => kf (Nat.not_le.mp (fun z => q ((nI_leI ha hb).mpr z))))
theorem r_ifnull (C : zC p s m args meth c own nm cc nL ret G) {x : Nat} {off : Int} (hdg : decode cc pc = .ok (.ifnull off, 3)) (kk : VV p l e R s m args below meth c cells slots Q G nL sh v N (pc + 3) lv st) : VV p l e R s m args below meth c cells slots Q G nL sh v N pc lv (.ref x :: st) := fun H locs ls h1 h2 h3 => lv_ifnull C.1 C.2.1 hdg (kk H locs ls h1 h2 h3)
theorem r_ifnullN (C : zC p s m args meth c own nm cc nL ret G) {off : Int} {tgt : Nat} (hdg : decode cc pc = .ok (.ifnull off, 3)) (ht : (pc : Int) + off = (tgt : Int)) (kk : VV p l e R s m args below meth c cells slots Q G nL sh v N tgt lv st) : VV p l e R s m args below meth c cells slots Q G nL sh v N pc lv (.null :: st) := fun H locs ls h1 h2 h3 => lv_ifnullN C.1 C.2.1 hdg ht (kk H locs ls h1 h2 h3)
theorem r_ifnonnull (C : zC p s m args meth c own nm cc nL ret G) {x : Nat} {off : Int} {tgt : Nat} (hdg : decode cc pc = .ok (.ifnonnull off, 3)) (ht : (pc : Int) + off = (tgt : Int)) (kk : VV p l e R s m args below meth c cells slots Q G nL sh v N tgt lv st) : VV p l e R s m args below meth c cells slots Q G nL sh v N pc lv (.ref x :: st) := fun H locs ls h1 h2 h3 => lv_ifnonnull C.1 C.2.1 hdg ht (kk H locs ls h1 h2 h3)
theorem r_ifnonnullN (C : zC p s m args meth c own nm cc nL ret G) {off : Int} (hdg : decode cc pc = .ok (.ifnonnull off, 3)) (kk : VV p l e R s m args below meth c cells slots Q G nL sh v N (pc + 3) lv st) : VV p l e R s m args below meth c cells slots Q G nL sh v N pc lv (.null :: st) := fun H locs ls h1 h2 h3 => lv_ifnonnullN C.1 C.2.1 hdg (kk H locs ls h1 h2 h3)
theorem r_tableOut (C : zC p s m args meth c own nm cc nL ret G) {dflt lo hi : Int} {offs : Array Int} {len : Nat} {x : Int32} {tgt : Nat} (hdg : decode cc pc = .ok (.tableswitch dflt lo hi offs, len)) (h : x.toInt < lo ∨ hi < x.toInt) (ht : (pc : Int) + dflt = (tgt : Int)) (kk : VV p l e R s m args below meth c cells slots Q G nL sh v N tgt lv st) : VV p l e R s m args below meth c cells slots Q G nL sh v N pc lv (.int x :: st) := fun H locs ls h1 h2 h3 => lv_tableOut C.1 C.2.1 hdg h ht (kk H locs ls h1 h2 h3)
theorem r_tableIn (C : zC p s m args meth c own nm cc nL ret G) {dflt lo hi : Int} {offs : Array Int} {len : Nat} {x : Int32} {off : Int} {tgt : Nat} (hdg : decode cc pc = .ok (.tableswitch dflt lo hi offs, len)) (g1 : ¬ x.toInt < lo) (g2 : ¬ hi < x.toInt) (ho : offs[(x.toInt - lo).toNat]? = some off) (ht : (pc : Int) + off = (tgt : Int)) (kk : VV p l e R s m args below meth c cells slots Q G nL sh v N tgt lv st) : VV p l e R s m args below meth c cells slots Q G nL sh v N pc lv (.int x :: st) := fun H locs ls h1 h2 h3 => lv_tableIn C.1 C.2.1 hdg g1 g2 ho ht (kk H locs ls h1 h2 h3)
theorem r_lookup (C : zC p s m args meth c own nm cc nL ret G) {dflt : Int} {ps : Array (Int × Int)} {len : Nat} {x : Int32} {off : Int} {tgt : Nat} (hdg : decode cc pc = .ok (.lookupswitch dflt ps, len)) (hp : (ps.toList.zip (ps.toList.drop 1)).all (fun (a, next) => a.1 < next.1) = true) (ho : Op.lookupswitch.offset ps.toList dflt x.toInt = off) (ht : (pc : Int) + off = (tgt : Int)) (kk : VV p l e R s m args below meth c cells slots Q G nL sh v N tgt lv st) : VV p l e R s m args below meth c cells slots Q G nL sh v N pc lv (.int x :: st) := fun H locs ls h1 h2 h3 => lv_lookup C.1 C.2.1 hdg hp ho ht (kk H locs ls h1 h2 h3)
theorem VV.gn (k : ∀ w : zV, w = v → VV p l e R s m args below meth c cells slots Q G nL sh w N pc lv st) : VV p l e R s m args below meth c cells slots Q G nL sh v N pc lv st := k v rfl
theorem zl_ref (q : Nat) (x : Int32) : zl (q + 2) x = .ref q := rfl
theorem zl_int (x : Int32) : zl 0 x = .int x := rfl
theorem zl_i {x y : Int32} (h : x = y) : zl 0 x = .int y := by rw [h]; rfl
def pts (l : List Nat) (j : Nat) : Nat := l.getD j 0
def zb (b : Bool) : Int32 := if b then 1 else 0
theorem zb_nar (b : Bool) : narrow .boolean (.int (zb b)) = .int (zb b) := by cases b <;> rfl
theorem zb_eq (b : Bool) : zb b = 0 ↔ b = false := by cases b <;> decide
theorem nI_inc (j k : Nat) : nI j + Int32.ofInt (k : Int) = nI (j + k) := by
  have h : Int32.ofInt (k : Int) = nI k := rfl
  rw [h, nI_add]
theorem nI_dec (j : Nat) : nI (j + 1) + Int32.ofInt (-1) = nI j := pk_m1 j
theorem nI_ub {n : Nat} (h : n < 2 ^ 31) : nI n = 0 ↔ n = 0 := by
  have := nI_eq (a := n) (b := 0) h (by decide)
  exact this
theorem n_if_eq (C : zC p s m args meth c own nm cc nL ret G) {a : Nat} {off : Int} {tgt : Nat} (ha : a < 2 ^ 31) (hdg : decode cc pc = .ok (.ifCond .eq off, 3)) (ht : (pc : Int) + off = (tgt : Int)) (kt : a = 0 → VV p l e R s m args below meth c cells slots Q G nL sh v N tgt lv st) (kf : 0 < a → VV p l e R s m args below meth c cells slots Q G nL sh v N (pc + 3) lv st) : VV p l e R s m args below meth c cells slots Q G nL sh v N pc lv (.int (nI a) :: st) := r_if_eq C hdg ht (fun q => kt ((nI_ub ha).mp q)) (fun q => kf (Nat.pos_of_ne_zero (fun z => q ((nI_ub ha).mpr z))))
theorem n_if_ne (C : zC p s m args meth c own nm cc nL ret G) {a : Nat} {off : Int} {tgt : Nat} (ha : a < 2 ^ 31) (hdg : decode cc pc = .ok (.ifCond .ne off, 3)) (ht : (pc : Int) + off = (tgt : Int)) (kt : 0 < a → VV p l e R s m args below meth c cells slots Q G nL sh v N tgt lv st) (kf : a = 0 → VV p l e R s m args below meth c cells slots Q G nL sh v N (pc + 3) lv st) : VV p l e R s m args below meth c cells slots Q G nL sh v N pc lv (.int (nI a) :: st) := r_if_ne C hdg ht (fun q => kt (Nat.pos_of_ne_zero (fun z => q ((nI_ub ha).mpr z)))) (fun q => kf ((nI_ub ha).mp q))
theorem n_if_lt (C : zC p s m args meth c own nm cc nL ret G) {a : Nat} {off : Int} (ha : a < 2 ^ 31) (hdg : decode cc pc = .ok (.ifCond .lt off, 3)) (kf : VV p l e R s m args below meth c cells slots Q G nL sh v N (pc + 3) lv st) : VV p l e R s m args below meth c cells slots Q G nL sh v N pc lv (.int (nI a) :: st) := fun H locs ls h1 h2 h3 => W.eq rfl (by
  intro T hT X
  have h0 : ¬ nI a < 0 := nI_pos ha
  obtain ⟨t, a1, b1⟩ := kf H locs ls h1 h2 h3 T hT X
  refine ⟨t, ?_, b1⟩
  jvm_step X.here [X.here.top, C.1, C.2.1, hdg, Op.ifCond.holds, h0]
  exact a1)
theorem n_if_ge (C : zC p s m args meth c own nm cc nL ret G) {a : Nat} {off : Int} {tgt : Nat} (ha : a < 2 ^ 31) (hdg : decode cc pc = .ok (.ifCond .ge off, 3)) (ht : (pc : Int) + off = (tgt : Int)) (kt : VV p l e R s m args below meth c cells slots Q G nL sh v N tgt lv st) : VV p l e R s m args below meth c cells slots Q G nL sh v N pc lv (.int (nI a) :: st) := r_if_ge C hdg ht (fun _ => kt) (fun q => absurd (nI_pos' ha) q)
theorem n_if_gt (C : zC p s m args meth c own nm cc nL ret G) {a : Nat} {off : Int} {tgt : Nat} (ha : a < 2 ^ 31) (hdg : decode cc pc = .ok (.ifCond .gt off, 3)) (ht : (pc : Int) + off = (tgt : Int)) (kt : 0 < a → VV p l e R s m args below meth c cells slots Q G nL sh v N tgt lv st) (kf : a = 0 → VV p l e R s m args below meth c cells slots Q G nL sh v N (pc + 3) lv st) : VV p l e R s m args below meth c cells slots Q G nL sh v N pc lv (.int (nI a) :: st) := r_if_gt C hdg ht (fun q => kt ((nI_ltI (a := 0) (by decide) ha).mp q)) (fun q => kf (Nat.eq_zero_of_not_pos (fun z => q ((nI_ltI (a := 0) (by decide) ha).mpr z))))
theorem n_if_le (C : zC p s m args meth c own nm cc nL ret G) {a : Nat} {off : Int} {tgt : Nat} (ha : a < 2 ^ 31) (hdg : decode cc pc = .ok (.ifCond .le off, 3)) (ht : (pc : Int) + off = (tgt : Int)) (kt : a = 0 → VV p l e R s m args below meth c cells slots Q G nL sh v N tgt lv st) (kf : 0 < a → VV p l e R s m args below meth c cells slots Q G nL sh v N (pc + 3) lv st) : VV p l e R s m args below meth c cells slots Q G nL sh v N pc lv (.int (nI a) :: st) := r_if_le C hdg ht (fun q => kt (Nat.eq_zero_of_not_pos (fun z => nI_nle z ha q))) (fun q => kf (Nat.pos_of_ne_zero (fun z => q (by subst z; decide))))
theorem n_ifb_eq (C : zC p s m args meth c own nm cc nL ret G) {b : Bool} {off : Int} {tgt : Nat} (hdg : decode cc pc = .ok (.ifCond .eq off, 3)) (ht : (pc : Int) + off = (tgt : Int)) (kt : b = false → VV p l e R s m args below meth c cells slots Q G nL sh v N tgt lv st) (kf : b = true → VV p l e R s m args below meth c cells slots Q G nL sh v N (pc + 3) lv st) : VV p l e R s m args below meth c cells slots Q G nL sh v N pc lv (.int (zb b) :: st) := r_if_eq C hdg ht (fun q => kt ((zb_eq b).mp q)) (fun q => kf (by cases b with | false => exact absurd ((zb_eq false).mpr rfl) q | true => rfl))
theorem n_ifb_ne (C : zC p s m args meth c own nm cc nL ret G) {b : Bool} {off : Int} {tgt : Nat} (hdg : decode cc pc = .ok (.ifCond .ne off, 3)) (ht : (pc : Int) + off = (tgt : Int)) (kt : b = true → VV p l e R s m args below meth c cells slots Q G nL sh v N tgt lv st) (kf : b = false → VV p l e R s m args below meth c cells slots Q G nL sh v N (pc + 3) lv st) : VV p l e R s m args below meth c cells slots Q G nL sh v N pc lv (.int (zb b) :: st) := r_if_ne C hdg ht (fun q => kt (by cases b with | false => exact absurd ((zb_eq false).mpr rfl) q | true => rfl)) (fun q => kf ((zb_eq b).mp q))
theorem nI_max {a b : Nat} (ha : a < 2 ^ 31) (hb : b < 2 ^ 31) : (if nI a < nI b then nI b else nI a) = nI (max a b) := by
  by_cases h : a < b
  · rw [if_pos ((nI_ltI ha hb).mpr h), Nat.max_eq_right (Nat.le_of_lt h)]
  · rw [if_neg (fun z => h ((nI_ltI ha hb).mp z)), Nat.max_eq_left (Nat.not_lt.mp h)]
theorem nI_min {a b : Nat} (ha : a < 2 ^ 31) (hb : b < 2 ^ 31) : (if nI b < nI a then nI b else nI a) = nI (min a b) := by
  by_cases h : b < a
  · rw [if_pos ((nI_ltI hb ha).mpr h), Nat.min_eq_right (Nat.le_of_lt h)]
  · rw [if_neg (fun z => h ((nI_ltI hb ha).mp z)), Nat.min_eq_left (Nat.not_lt.mp h)]
theorem pfI : parseFieldDescriptor "I" = some .int := by decide +kernel

theorem r_max (C : zC p s m args meth c own nm cc nL ret G) {x y z : Int32} {idx : Nat} (hlink : Cond.methodLink own idx Lib.Math.max.name ∈ TB) (hv : (if x < y then y else x) = z) (hcat : (st.map fun w => w.category).sum ≤ 8) (hR : 1 ≤ R.frames ∧ 32 ≤ R.locals) (hroom : cells ≤ R.cells ∧ slots ≤ R.slots) (hdg : decode cc pc = .ok (.invokestatic idx, 3)) (kk : VV p l e R s m args below meth c cells slots Q G nL sh v N (pc + 3) lv (.int z :: st)) : VV p l e R s m args below meth c cells slots Q G nL sh v N pc lv (.int y :: .int x :: st) := fun H locs ls h1 h2 h3 =>
  va_mmax C.1 C.2.1 (C.2.2.1.trans h3.1.symm) C.2.2.2.1 (C.2.2.2.2.1 _ hlink) (C.2.2.2.2.1 _ q_mmaxs) (C.2.2.2.2.1 _ q_math) (C.2.2.2.2.1 _ q_mmaxc) hR.1 (by omega) hroom.1 hroom.2 hdg (by rw [hv]; exact kk H locs ls h1 h2 h3)

theorem r_min (C : zC p s m args meth c own nm cc nL ret G) {x y z : Int32} {idx : Nat} (hlink : Cond.methodLink own idx Lib.Math.min.name ∈ TB) (hv : (if y < x then y else x) = z) (hcat : (st.map fun w => w.category).sum ≤ 8) (hR : 1 ≤ R.frames ∧ 32 ≤ R.locals) (hroom : cells ≤ R.cells ∧ slots ≤ R.slots) (hdg : decode cc pc = .ok (.invokestatic idx, 3)) (kk : VV p l e R s m args below meth c cells slots Q G nL sh v N (pc + 3) lv (.int z :: st)) : VV p l e R s m args below meth c cells slots Q G nL sh v N pc lv (.int y :: .int x :: st) := fun H locs ls h1 h2 h3 =>
  va_mmin C.1 C.2.1 (C.2.2.1.trans h3.1.symm) C.2.2.2.1 (C.2.2.2.2.1 _ hlink) (C.2.2.2.2.1 _ q_mmins) (C.2.2.2.2.1 _ q_math) (C.2.2.2.2.1 _ q_mminc) hR.1 (by omega) hroom.1 hroom.2 hdg (by rw [hv]; exact kk H locs ls h1 h2 h3)

theorem zok.obj {G : zG} {a ci NF : Nat} {pt : Nat → Nat} {k : Nat × Nat × (Nat → Nat)} {f : Nat → Int32} {H : Heap} (h : zok G a k f H) (hs : k = (ci, NF, pt)) (hci : ci < 8) : t_OB a (G.1.1 ci) NF (G.1.2 ci) H (fun j => zl (pt j) (f j)) := by
  subst hs
  exact h.1 hci
theorem zok.arr {G : zG} {a ci n : Nat} {pt : Nat → Nat} {k : Nat × Nat × (Nat → Nat)} {f : Nat → Int32} {H : Heap} (h : zok G a k f H) (hs : k = (ci, n, pt)) (hci : 8 ≤ ci) : H[a]? = some (arrV (G.2.1 ci) n (fun j => zl (pt j) (f j))) := by
  subst hs
  exact h.2 hci
theorem r_get (C : zC p s m args meth c own nm cc nL ret G) {ci NF a k index : Nat} {pt : Nat → Nat} {Cn : String} {Tn : u_T} {w : Value} (hc : zcl[ci]? = some (Cn, Tn, NF)) (hci : ci < 8) (hin : ∀ w ∈ u_ws Cn Tn NF, w ∈ TB) (hk : k < NF) (hlink : Cond.fieldLink own index (Tn k).1 (Tn k).2.1 (Tn k).2.2.1 ∈ TB) (hd : zdm G N a) (hsh : sh a = (ci, NF, pt)) (hw : zl (pt k) (v a k) = w) (hdg : decode cc pc = .ok (.getfield index, 3)) (kk : VV p l e R s m args below meth c cells slots Q G nL sh v N (pc + 3) lv (w :: st)) : VV p l e R s m args below meth c cells slots Q G nL sh v N pc lv (.ref a :: st) := fun H locs ls h1 h2 h3 => by
  obtain ⟨cell, q1, q2, q3, q4⟩ := (h1.2.2.2 a hd).obj hsh hci
  obtain ⟨hS, hfc, kC, hkC, hkind⟩ := C.k.1 ci _ hc
  obtain ⟨cf, kf, fi, f, hi, hsl⟩ := hS k hk
  refine W.getf C.1 C.2.1 C.2.2.2.1 (C.2.2.2.2.1 _ hlink) hi (u_facts hfc hkC (u_lays C.2.2.2.2.1 hin hk) hi).1 q1 (by rw [q3]; exact fun h => by cases h) (v := w) ?_ rfl rfl hdg (kk H locs ls h1 h2 h3)
  rw [hsl, q4 k hk]
  exact congrArg some hw
theorem r_getN (C : zC p s m args meth c own nm cc nL ret G) {ci NF a k index : Nat} {pt : Nat → Nat} {Cn host : String} {Tn : u_T} {w : Value} (hc : zcl[ci]? = some (Cn, Tn, NF)) (hci : ci < 8) (hin : ∀ w ∈ u_ws Cn Tn NF, w ∈ TB) (hk : k < NF) (hlink : Cond.fieldLinkNest own index (Tn k).1 (Tn k).2.1 (Tn k).2.2.1 host ∈ NB) (hd : zdm G N a) (hsh : sh a = (ci, NF, pt)) (hw : zl (pt k) (v a k) = w) (hdg : decode cc pc = .ok (.getfield index, 3)) (kk : VV p l e R s m args below meth c cells slots Q G nL sh v N (pc + 3) lv (w :: st)) : VV p l e R s m args below meth c cells slots Q G nL sh v N pc lv (.ref a :: st) := fun H locs ls h1 h2 h3 => by
  obtain ⟨cell, q1, q2, q3, q4⟩ := (h1.2.2.2 a hd).obj hsh hci
  obtain ⟨hS, hfc, kC, hkC, hkind⟩ := C.k.1 ci _ hc
  obtain ⟨cf, kf, fi, f, hi, hsl⟩ := hS k hk
  refine va_Wgetf C.1 C.2.1 C.2.2.2.1 (C.n hlink) hi (u_facts hfc hkC (u_lays C.2.2.2.2.1 hin hk) hi).1 q1 (by rw [q3]; exact fun h => by cases h) (v := w) ?_ rfl rfl hdg (kk H locs ls h1 h2 h3)
  rw [hsl, q4 k hk]
  exact congrArg some hw
theorem zok_set {G : zG} {a ci NF k : Nat} {pt : Nat → Nat} {f : Nat → Int32} {x : Int32} {cell : Cell} {H1 : Heap} (hci : ci < 8) (hp : pt k = 0) (q2 : cell.cls = G.1.1 ci) (q3 : cell.vm = .none) (q4 : ∀ j, j < NF → cell.slots[G.1.2 ci j]? = some (zl (pt j) (f j))) (hap : ∀ x y, x < NF → y < NF → x ≠ y → (G.1.2 ci) x ≠ (G.1.2 ci) y) (hk : k < NF) (e1 : H1[a]? = some (cell.setSlot (G.1.2 ci k) (.int x))) : zok G a (ci, NF, pt) (upd f k x) H1 := by
  refine ⟨fun _ => ⟨_, e1, q2, q3, fun j hj => ?_⟩, fun h => absurd h (by simpa using hci)⟩
  rw [t_set q4 hap hk (.int x) j hj]
  by_cases hjk : j = k
  · subst hjk
    simp [updV, upd, hp, zl]
  · simp [updV, upd, hjk]
theorem r_put (C : zC p s m args meth c own nm cc nL ret G) {ci NF a k index : Nat} {pt : Nat → Nat} {Cn : String} {Tn : u_T} {x : Int32} {ty0 : Nat → FieldType} (hc : zcl[ci]? = some (Cn, Tn, NF)) (hci : ci < 8) (hin : ∀ w ∈ u_ws Cn Tn NF, w ∈ TB) (hty : ∀ k, k < NF → parseFieldDescriptor (Tn k).2.2.1 = some (ty0 k)) (hnm : ∀ a, a < NF → ∀ b, b < NF → a ≠ b → (Tn a).2.1 ≠ (Tn b).2.1) (hk : k < NF) (hfin : (Tn k).2.2.2 = false) (hint : parseFieldDescriptor (Tn k).2.2.1 = some .int) (hp : pt k = 0) (hlink : Cond.fieldLink own index (Tn k).1 (Tn k).2.1 (Tn k).2.2.1 ∈ TB) (hd : G.2.2.1 ≤ a ∧ a < N) (hsh : sh a = (ci, NF, pt)) (hdg : decode cc pc = .ok (.putfield index, 3)) (kk : VV p l e R s m args below meth c cells slots Q G nL sh (z2 v a k x) N (pc + 3) lv st) : VV p l e R s m args below meth c cells slots Q G nL sh v N pc lv (.int x :: .ref a :: st) := fun H locs ls h1 h2 h3 => by
  have hts := C.2.2.2.2.1
  have hK := C.k
  have hap := va_apart (own := own) hts hin ty0 hty hnm hK hc
  obtain ⟨cell, q1, q2, q3, q4⟩ := (h1.2.2.2 a (Or.inl hd)).obj hsh hci
  obtain ⟨hS, hfc, kC, hkC, hkind⟩ := hK.1 ci _ hc
  obtain ⟨cf, kf, fi, f, hi, hsl⟩ := hS k hk
  have hlay := hts _ (hin _ (u_in_lay hk))
  unfold u_lay at hlay
  rw [if_neg (by rw [hfin]; decide)] at hlay
  have hst := (u_facts hfc hkC (u_lays hts hin hk) hi).1
  have h6 := u_store hfc hkC hkind hlay hi hint (v := .int x) rfl rfl
  refine W.putK C.1 C.2.1 (f := f) ⟨C.2.2.2.1, hts _ hlink, ⟨_, _, _, hi⟩, hst⟩ (by rw [q2]; exact h6) q1 q3 (by rw [hsl]; exact k2_hasslot (q4 k hk)) rfl rfl hdg fun H1 e1 e2 e3 => ?_
  rw [hsl] at e1 ⊢
  refine kk H1 _ ls (h1.put ?_ e2 e3) (h2.put e2 e3 hd.1) h3
  rw [hsh]
  exact zok_set hci hp q2 q3 q4 hap hk e1
theorem r_putN (C : zC p s m args meth c own nm cc nL ret G) {ci NF a k index : Nat} {pt : Nat → Nat} {Cn host : String} {Tn : u_T} {x : Int32} {ty0 : Nat → FieldType} (hc : zcl[ci]? = some (Cn, Tn, NF)) (hci : ci < 8) (hin : ∀ w ∈ u_ws Cn Tn NF, w ∈ TB) (hty : ∀ k, k < NF → parseFieldDescriptor (Tn k).2.2.1 = some (ty0 k)) (hnm : ∀ a, a < NF → ∀ b, b < NF → a ≠ b → (Tn a).2.1 ≠ (Tn b).2.1) (hk : k < NF) (hfin : (Tn k).2.2.2 = false) (hint : parseFieldDescriptor (Tn k).2.2.1 = some .int) (hp : pt k = 0) (hlink : Cond.fieldLinkNest own index (Tn k).1 (Tn k).2.1 (Tn k).2.2.1 host ∈ NB) (hd : G.2.2.1 ≤ a ∧ a < N) (hsh : sh a = (ci, NF, pt)) (hdg : decode cc pc = .ok (.putfield index, 3)) (kk : VV p l e R s m args below meth c cells slots Q G nL sh (z2 v a k x) N (pc + 3) lv st) : VV p l e R s m args below meth c cells slots Q G nL sh v N pc lv (.int x :: .ref a :: st) := fun H locs ls h1 h2 h3 => by
  have hts := C.2.2.2.2.1
  have hK := C.k
  have hap := va_apart (own := own) hts hin ty0 hty hnm hK hc
  obtain ⟨cell, q1, q2, q3, q4⟩ := (h1.2.2.2 a (Or.inl hd)).obj hsh hci
  obtain ⟨hS, hfc, kC, hkC, hkind⟩ := hK.1 ci _ hc
  obtain ⟨cf, kf, fi, f, hi, hsl⟩ := hS k hk
  have hlay := hts _ (hin _ (u_in_lay hk))
  unfold u_lay at hlay
  rw [if_neg (by rw [hfin]; decide)] at hlay
  have hst := (u_facts hfc hkC (u_lays hts hin hk) hi).1
  have h6 := u_store hfc hkC hkind hlay hi hint (v := .int x) rfl rfl
  refine va_WputK C.1 C.2.1 (f := f) C.2.2.2.1 (C.n hlink) hi hst (by rw [q2]; exact h6) q1 q3 (by rw [hsl]; exact k2_hasslot (q4 k hk)) rfl rfl hdg fun H1 e1 e2 e3 => ?_
  rw [hsl] at e1 ⊢
  refine kk H1 _ ls (h1.put ?_ e2 e3) (h2.put e2 e3 hd.1) h3
  rw [hsh]
  exact zok_set hci hp q2 q3 q4 hap hk e1
theorem r_alen (C : zC p s m args meth c own nm cc nL ret G) {a ci n : Nat} {pt : Nat → Nat} {ty : FieldType} {x : Int32} (hd : zdm G N a) (hsh : sh a = (ci, n, pt)) (hci : 8 ≤ ci) (ht : (zty G)[ci - 8]? = some (G.2.1 ci, ty)) (hx : Int32.ofNat n = x) (hdg : decode cc pc = .ok (.arraylength, 1)) (kk : VV p l e R s m args below meth c cells slots Q G nL sh v N (pc + 1) lv (.int x :: st)) : VV p l e R s m args below meth c cells slots Q G nL sh v N pc lv (.ref a :: st) := fun H locs ls h1 h2 h3 => by
  have hq := (h1.2.2.2 a hd).arr hsh hci
  exact W.alen (n := x) C.1 C.2.1 hq ((C.k.2 _ _ ht).1 _ _) (by rw [arrV_size]; exact hx) rfl rfl hdg (kk H locs ls h1 h2 h3)
theorem r_iald (C : zC p s m args meth c own nm cc nL ret G) {a n j : Nat} (hd : zdm G N a) (hsh : sh a = (8, n, fun _ => 0)) (hj : j < n) (hn : j < 2 ^ 31) {x : Int32} (hx : v a j = x) (hdg : decode cc pc = .ok (.iaload, 1)) (kk : VV p l e R s m args below meth c cells slots Q G nL sh v N (pc + 1) lv (.int x :: st)) : VV p l e R s m args below meth c cells slots Q G nL sh v N pc lv (.int (nI j) :: .ref a :: st) := fun H locs ls h1 h2 h3 => by
  have hq := (h1.2.2.2 a hd).arr hsh (by decide)
  subst hx
  refine W.iald (v := .int (v a j)) C.1 C.2.1 hq ((C.k.2 0 _ rfl).1 _ _) (fun q => by cases q) (by rw [arrV_size]; exact fun z => z.elim (fun z => nI_pos hn z) (fun z => by rw [nI_clamp hn] at z; omega)) ?_ rfl rfl hdg (kk H locs ls h1 h2 h3)
  rw [nI_clamp hn, arrV_read _ _ hj]
  rfl
theorem r_iast (C : zC p s m args meth c own nm cc nL ret G) {a n j : Nat} {x : Int32} (hd : G.2.2.1 ≤ a ∧ a < N) (hsh : sh a = (8, n, fun _ => 0)) (hj : j < n) (hn : j < 2 ^ 31) (hdg : decode cc pc = .ok (.iastore, 1)) (kk : VV p l e R s m args below meth c cells slots Q G nL sh (z2 v a j x) N (pc + 1) lv st) : VV p l e R s m args below meth c cells slots Q G nL sh v N pc lv (.int x :: .int (nI j) :: .ref a :: st) := fun H locs ls h1 h2 h3 => by
  have hq := (h1.2.2.2 a (Or.inl hd)).arr hsh (by decide)
  refine W.iast C.1 C.2.1 hq ((C.k.2 0 _ rfl).1 _ _) (fun q => by cases q) (by rw [arrV_size]; exact fun z => z.elim (fun z => nI_pos hn z) (fun z => by rw [nI_clamp hn] at z; omega)) rfl rfl hdg fun H1 e z oq => ?_
  refine kk H1 _ ls (h1.put ?_ z oq) (h2.put z oq hd.1) h3
  rw [hsh]
  refine ⟨fun h => absurd h (Nat.lt_irrefl 8), fun _ => ?_⟩
  show H1[a]? = some (arrV (G.2.1 8) n _)
  rw [e, nI_clamp hn, arrV_store]
  congr 2
  funext q
  by_cases hqj : q = j
  · subst hqj
    simp [updV, upd, zl]
  · simp [updV, upd, hqj]
theorem r_zald (C : zC p s m args meth c own nm cc nL ret G) {a n j : Nat} (hd : zdm G N a) (hsh : sh a = (9, n, fun _ => 0)) (hj : j < n) (hn : j < 2 ^ 31) {x : Int32} (hx : v a j = x) (hdg : decode cc pc = .ok (.baload, 1)) (kk : VV p l e R s m args below meth c cells slots Q G nL sh v N (pc + 1) lv (.int x :: st)) : VV p l e R s m args below meth c cells slots Q G nL sh v N pc lv (.int (nI j) :: .ref a :: st) := fun H locs ls h1 h2 h3 => by
  have hq := (h1.2.2.2 a hd).arr hsh (by decide)
  subst hx
  refine W.zald (v := .int (v a j)) C.1 C.2.1 hq ((C.k.2 1 _ rfl).1 _ _) (fun q => by cases q) (by rw [arrV_size]; exact fun z => z.elim (fun z => nI_pos hn z) (fun z => by rw [nI_clamp hn] at z; omega)) ?_ rfl rfl hdg (kk H locs ls h1 h2 h3)
  rw [nI_clamp hn, arrV_read _ _ hj]
  rfl
theorem r_zast (C : zC p s m args meth c own nm cc nL ret G) {a n j : Nat} {x : Int32} (hd : G.2.2.1 ≤ a ∧ a < N) (hsh : sh a = (9, n, fun _ => 0)) (hj : j < n) (hn : j < 2 ^ 31) (hx : narrow .boolean (.int x) = .int x) (hdg : decode cc pc = .ok (.bastore, 1)) (kk : VV p l e R s m args below meth c cells slots Q G nL sh (z2 v a j x) N (pc + 1) lv st) : VV p l e R s m args below meth c cells slots Q G nL sh v N pc lv (.int x :: .int (nI j) :: .ref a :: st) := fun H locs ls h1 h2 h3 => by
  have hq := (h1.2.2.2 a (Or.inl hd)).arr hsh (by decide)
  refine W.zast C.1 C.2.1 hq ((C.k.2 1 _ rfl).1 _ _) (fun q => by cases q) (by rw [arrV_size]; exact fun z => z.elim (fun z => nI_pos hn z) (fun z => by rw [nI_clamp hn] at z; omega)) rfl rfl hdg fun H1 e z oq => ?_
  refine kk H1 _ ls (h1.put ?_ z oq) (h2.put z oq hd.1) h3
  rw [hsh]
  refine ⟨fun h => absurd h (show ¬ (9 < 8) by decide), fun _ => ?_⟩
  show H1[a]? = some (arrV (G.2.1 9) n _)
  rw [e, nI_clamp hn, arrV_store, hx]
  congr 2
  funext q
  by_cases hqj : q = j
  · subst hqj
    simp [updV, upd, zl]
  · simp [updV, upd, hqj]
theorem r_aald (C : zC p s m args meth c own nm cc nL ret G) {a ci n j : Nat} {pt : Nat → Nat} {Cn : String} {w : Value} (hd : zdm G N a) (hsh : sh a = (ci, n, pt)) (hci : 8 ≤ ci) (ht : (zty G)[ci - 8]? = some (G.2.1 ci, .object Cn)) (hj : j < n) (hn : j < 2 ^ 31) (hw : zl (pt j) (v a j) = w) (hdg : decode cc pc = .ok (.aaload, 1)) (kk : VV p l e R s m args below meth c cells slots Q G nL sh v N (pc + 1) lv (w :: st)) : VV p l e R s m args below meth c cells slots Q G nL sh v N pc lv (.int (nI j) :: .ref a :: st) := fun H locs ls h1 h2 h3 => by
  have hq := (h1.2.2.2 a hd).arr hsh hci
  refine W.aald (v := w) C.1 C.2.1 hq ((C.k.2 _ _ ht).1 _ _) rfl (fun q => by cases q) (by rw [arrV_size]; exact fun z => z.elim (fun z => nI_pos hn z) (fun z => by rw [nI_clamp hn] at z; omega)) ?_ rfl rfl hdg (kk H locs ls h1 h2 h3)
  rw [nI_clamp hn, arrV_read _ _ hj, hw]

variable {Post : Option Value → zH → zV → Nat → Prop}
theorem r_iret (C : zC p s m args meth c own nm cc nL ret G) {x : Int32} {ty : FieldType} (hret : ret = some ty) (hn : narrow ty (.int x) = .int x) (hdg : decode cc pc = .ok (.ireturn, 1)) (hp : Post (some (.int x)) sh v N) : VV p l e R s m args below meth c cells slots (zQ below Post G args s cells slots) G nL sh v N pc lv [.int x] := fun H locs ls h1 h2 h3 =>
  W.zret (ty := ty) C.1 C.2.1 (C.2.2.2.2.2.1.trans hret) hn (fun t ht hW => ⟨⟨_, _, _, _, rfl, hp, by rw [ht]; exact h1⟩, h2.F ht⟩) h2.2.2 hdg C.2.2.2.2.2.2.1
theorem r_vret (C : zC p s m args meth c own nm cc nL ret G) (hret : ret = none) (hdg : decode cc pc = .ok (.return_, 1)) (hp : Post none sh v N) : VV p l e R s m args below meth c cells slots (zQ below Post G args s cells slots) G nL sh v N pc lv [] := fun H locs ls h1 h2 h3 =>
  W.vret C.1 C.2.1 (C.2.2.2.2.2.1.trans hret) (fun t ht hW => ⟨⟨_, _, _, _, rfl, hp, by rw [ht]; exact h1⟩, h2.F ht⟩) h2.2.2 hdg C.2.2.2.2.2.2.1
theorem r_aret (C : zC p s m args meth c own nm cc nL ret G) {w : Value} {cn : String} (hret : ret = some (.object cn)) (hw : w = .null ∨ ∃ a, w = .ref a) (hdg : decode cc pc = .ok (.areturn, 1)) (hp : Post (some w) sh v N) : VV p l e R s m args below meth c cells slots (zQ below Post G args s cells slots) G nL sh v N pc lv [w] := fun H locs ls h1 h2 h3 =>
  W.aret C.1 C.2.1 (C.2.2.2.2.2.1.trans hret) (Or.inl ⟨_, rfl⟩) hw (fun t ht hW => ⟨⟨_, _, _, _, rfl, hp, by rw [ht]; exact h1⟩, h2.F ht⟩) h2.2.2 hdg C.2.2.2.2.2.2.1

theorem zGood {y : MethodName} {b : ByteArray} {mL : Nat} {rt : Option FieldType} (h : Cond.code y b mL rt ∈ TB) : GoodIn TB (Cond.code y b mL rt :: TB) := fun w hw => by
  have hw2 : w ∈ TB := by
    rcases List.mem_cons.mp hw with h1 | h1
    · rw [h1]; exact h
    · exact h1
  exact ⟨hw2, good_of_word (TB_good hw2)⟩
theorem zPar {y : MethodName} {n : Nat} (h : (parseMethodDescriptor y.desc).map (fun d => d.parameters.length) = some n) : ∀ sig, parseMethodDescriptor y.desc = some sig → n = sig.parameters.length := fun sig hs => by
  rw [hs] at h
  exact (Option.some.inj h).symm
theorem zBlind {G : zG} {as : List Value} {sh : zH} {v : zV} {N : Nat} : FrameBlind (va_Pc as (fun U => zR G sh v N U.heap ∧ zK G U)) := fun a U g mk q => ⟨q.1, q.2.1, zK.same (u := U) (U := U.calling g mk a) rfl q.2.2⟩
theorem zS_after {A : Nat → Prop} {H0 H : Heap} {locs L : List Loc} {st t T : State} (h2 : va_S A H0 H locs) (e0 : st.heap = H) (hF : va_F A st t) (e1 : T.heap = t.heap) (hL : ∀ q ∈ L, A q.base) : va_S A H0 T.heap (locs ++ L) := by
  obtain ⟨z, k⟩ := hF
  rw [e0] at z k
  refine ⟨Nat.le_trans h2.1 (by rw [e1]; exact z), fun q g1 g2 => ?_, fun q hq => ?_⟩
  · rw [e1, k q (Nat.lt_of_lt_of_le g1 h2.1) g2]
    exact h2.2.1 q g1 g2
  · rcases List.mem_append.mp hq with h | h
    · exact h2.2.2 q h
    · exact hL q h

theorem r_callVM (C : zC p s m args meth c own nm cc nL ret G) {y : MethodName} {b2 : ByteArray} {mL idx n dp mc ms : Nat} {rt : Option FieldType} {a ci NF : Nat} {pt : Nat → Nat} {qc : vw_C} {As : List Value} {stk : List Value} {Post : Option Value → zH → zV → Nat → Prop} (hM : zM l G y b2 mL rt dp mc ms (.ref a :: As) sh v N Post) (hy : zYV y b2 mL rt n) (hlink : Cond.methodLink own idx y ∈ TB) (hn : As.length = n) (hd : zdm G N a) (hsh : sh a = (ci, NF, pt)) (hci : ci < 8) (hc : zcl[ci]? = some qc) (hq : qc.1 = y.cls) (hstk : stk = As.reverse ++ .ref a :: st) (hcat : (st.map fun w => w.category).sum ≤ 8) (hR : dp + 1 ≤ R.frames ∧ 8 + (mL + 11) + 32 * dp ≤ R.locals) (hroom : cells + mc ≤ R.cells ∧ slots + ms ≤ R.slots) (hdg : decode cc pc = .ok (.invokevirtual idx, 3))
    (kk : ∀ (r : Option Value) (sh1 : zH) (v1 : zV) (N1 : Nat), Post r sh1 v1 N1 → VV p l e R s m args below meth c (cells + mc) (slots + ms) Q G nL sh1 v1 N1 (pc + 3) lv (r.toList ++ st)) : VV p l e R s m args below meth c cells slots Q G nL sh v N pc lv stk := by
  subst hstk
  intro H locs ls h1 h2 h3
  have hts := C.2.2.2.2.1
  have hrec : ∃ cellB : Cell, H[a]? = some cellB ∧ cellB.vm.isStatics = false ∧ s.vm.findClass y.cls = some cellB.cls := by
    obtain ⟨cell, q1, q2, q3, -⟩ := (h1.2.2.2 a hd).obj hsh hci
    obtain ⟨-, hfc, -⟩ := C.k.1 ci _ hc
    exact ⟨cell, q1, by rw [q3]; rfl, by rw [q2, ← hq]; exact hfc⟩
  have run := va_runV (meth := meth) (below := below) (e := e) (cells := cells) (slots := slots) (locs := locs) (g := F0 m pc ls (As.reverse ++ .ref a :: st)) (rest := st) ⟨C.1, C.2.1, C.2.2.1, C.2.2.2.1, hts⟩ hM (⟨callB_of (ws' := TB) n hts (zGood hy.1) rfl rfl rfl (hts _ hy.2.1) (hts _ hlink) hy.2.2.2.2 hR, hts _ hy.2.2.1, hts _ hy.2.2.2.1⟩) ⟨zBlind, hrec, fun U hU hW => ⟨rfl, by rw [hU]; exact h1, zK.moved hW C.2.2.2.2.2.2.2.2⟩⟩ rfl hn h3.1 rfl (by simpa [JFrame.monitorRoom] using hcat) hdg hroom
  intro T hT X
  obtain ⟨v0, st0, t, T1, L, e0, X1, hL, e1, e2, ⟨⟨r, sh1, v1, N1, ho, hp, hz⟩, hF⟩, go⟩ := run T hT X
  cases ho
  obtain ⟨t2, a1, b1⟩ := kk v0 sh1 v1 N1 hp T1.heap (locs ++ L) ls (by rw [e1]; exact hz) (zS_after h2 e0 hF e1 hL) h3 T1 rfl X1
  exact ⟨t2, go t2 a1, b1⟩
theorem r_callV (C : zC p s m args meth c own nm cc nL ret G) {y : MethodName} {b2 : ByteArray} {mL idx n dp : Nat} {rt : Option FieldType} {a ci NF : Nat} {pt : Nat → Nat} {qc : vw_C} {As : List Value} {stk : List Value} {Post : Option Value → zV → Prop} (hM : zm l G y b2 mL rt dp (.ref a :: As) sh v N Post) (hy : zYV y b2 mL rt n) (hlink : Cond.methodLink own idx y ∈ TB) (hn : As.length = n) (hd : zdm G N a) (hsh : sh a = (ci, NF, pt)) (hci : ci < 8) (hc : zcl[ci]? = some qc) (hq : qc.1 = y.cls) (hstk : stk = As.reverse ++ .ref a :: st) (hcat : (st.map fun w => w.category).sum ≤ 8) (hR : dp + 1 ≤ R.frames ∧ 8 + (mL + 11) + 32 * dp ≤ R.locals) (hroom : cells ≤ R.cells ∧ slots ≤ R.slots) (hdg : decode cc pc = .ok (.invokevirtual idx, 3))
    (kk : ∀ (r : Option Value) (v1 : zV), Post r v1 → VV p l e R s m args below meth c cells slots Q G nL sh v1 N (pc + 3) lv (r.toList ++ st)) : VV p l e R s m args below meth c cells slots Q G nL sh v N pc lv stk :=
  r_callVM C hM hy hlink hn hd hsh hci hc hq hstk hcat hR hroom hdg (fun r sh1 v1 N1 hp => by obtain ⟨rfl, rfl, hp⟩ := hp; exact kk r v1 hp)

theorem r_callSM (C : zC p s m args meth c own nm cc nL ret G) {y : MethodName} {b2 : ByteArray} {mL idx n dp mc ms : Nat} {rt : Option FieldType} {As : List Value} {stk : List Value} {Post : Option Value → zH → zV → Nat → Prop} (hM : zM l G y b2 mL rt dp mc ms As sh v N Post) (hy : zYS y b2 mL rt n) (hlink : Cond.methodLink own idx y ∈ TB) (hn : As.length = n) (hstk : stk = As.reverse ++ st) (hcat : (st.map fun w => w.category).sum ≤ 8) (hR : dp + 1 ≤ R.frames ∧ 8 + (mL + 11) + 32 * dp ≤ R.locals) (hroom : cells + mc ≤ R.cells ∧ slots + ms ≤ R.slots) (hdg : decode cc pc = .ok (.invokestatic idx, 3))
    (kk : ∀ (r : Option Value) (sh1 : zH) (v1 : zV) (N1 : Nat), Post r sh1 v1 N1 → VV p l e R s m args below meth c (cells + mc) (slots + ms) Q G nL sh1 v1 N1 (pc + 3) lv (r.toList ++ st)) : VV p l e R s m args below meth c cells slots Q G nL sh v N pc lv stk := by
  subst hstk
  intro H locs ls h1 h2 h3
  have hts := C.2.2.2.2.1
  have run := va_runS (meth := meth) (below := below) (e := e) (cells := cells) (slots := slots) (locs := locs) (g := F0 m pc ls (As.reverse ++ st)) (rest := st) ⟨C.1, C.2.1, C.2.2.1, C.2.2.2.1, hts⟩ hM (⟨callB_of (ws' := TB) n hts (zGood hy.1) rfl rfl rfl (hts _ hy.2.1) (hts _ hlink) hy.2.2.2 hR, hts _ hy.2.2.1⟩) ⟨zBlind, fun U hU hW => ⟨rfl, by rw [hU]; exact h1, zK.moved hW C.2.2.2.2.2.2.2.2⟩⟩ rfl hn h3.1 rfl (by simpa [JFrame.monitorRoom] using hcat) hdg hroom
  intro T hT X
  obtain ⟨v0, st0, t, T1, L, e0, X1, hL, e1, e2, ⟨⟨r, sh1, v1, N1, ho, hp, hz⟩, hF⟩, go⟩ := run T hT X
  cases ho
  obtain ⟨t2, a1, b1⟩ := kk v0 sh1 v1 N1 hp T1.heap (locs ++ L) ls (by rw [e1]; exact hz) (zS_after h2 e0 hF e1 hL) h3 T1 rfl X1
  exact ⟨t2, go t2 a1, b1⟩
theorem r_callS (C : zC p s m args meth c own nm cc nL ret G) {y : MethodName} {b2 : ByteArray} {mL idx n dp : Nat} {rt : Option FieldType} {As : List Value} {stk : List Value} {Post : Option Value → zV → Prop} (hM : zm l G y b2 mL rt dp As sh v N Post) (hy : zYS y b2 mL rt n) (hlink : Cond.methodLink own idx y ∈ TB) (hn : As.length = n) (hstk : stk = As.reverse ++ st) (hcat : (st.map fun w => w.category).sum ≤ 8) (hR : dp + 1 ≤ R.frames ∧ 8 + (mL + 11) + 32 * dp ≤ R.locals) (hroom : cells ≤ R.cells ∧ slots ≤ R.slots) (hdg : decode cc pc = .ok (.invokestatic idx, 3))
    (kk : ∀ (r : Option Value) (v1 : zV), Post r v1 → VV p l e R s m args below meth c cells slots Q G nL sh v1 N (pc + 3) lv (r.toList ++ st)) : VV p l e R s m args below meth c cells slots Q G nL sh v N pc lv stk :=
  r_callSM C hM hy hlink hn hstk hcat hR hroom hdg (fun r sh1 v1 N1 hp => by obtain ⟨rfl, rfl, hp⟩ := hp; exact kk r v1 hp)

theorem r_callIM (C : zC p s m args meth c own nm cc nL ret G) {y : MethodName} {b2 : ByteArray} {mL idx n dp mc ms : Nat} {a : Nat} {As : List Value} {stk : List Value} {Post : Option Value → zH → zV → Nat → Prop} (hM : zM l G y b2 mL none dp mc ms (.ref a :: As) sh v N Post) (hy : zYI y b2 mL n) (hlink : Cond.methodLink own idx y ∈ TB) (hn : As.length = n) (hstk : stk = As.reverse ++ .ref a :: st) (hcat : (st.map fun w => w.category).sum ≤ 8) (hR : dp + 1 ≤ R.frames ∧ 8 + (mL + 11) + 32 * dp ≤ R.locals) (hroom : cells + mc ≤ R.cells ∧ slots + ms ≤ R.slots) (hdg : decode cc pc = .ok (.invokespecial idx, 3))
    (kk : ∀ (r : Option Value) (sh1 : zH) (v1 : zV) (N1 : Nat), Post r sh1 v1 N1 → VV p l e R s m args below meth c (cells + mc) (slots + ms) Q G nL sh1 v1 N1 (pc + 3) lv (r.toList ++ st)) : VV p l e R s m args below meth c cells slots Q G nL sh v N pc lv stk := by
  subst hstk
  intro H locs ls h1 h2 h3
  have hts := C.2.2.2.2.1
  have run := va_runI (meth := meth) (below := below) (e := e) (cells := cells) (slots := slots) (locs := locs) (g := F0 m pc ls (As.reverse ++ .ref a :: st)) (rest := st) ⟨C.1, C.2.1, C.2.2.1, C.2.2.2.1, hts⟩ hM (⟨callB_of (ws' := TB) n hts (zGood hy.1) rfl rfl rfl (hts _ hy.2.1) (hts _ hlink) hy.2.2.2.2 hR, hy.2.2.2.1, hts _ hy.2.2.1⟩) ⟨zBlind, fun U hU hW => ⟨rfl, by rw [hU]; exact h1, zK.moved hW C.2.2.2.2.2.2.2.2⟩⟩ rfl hn h3.1 rfl (by simpa [JFrame.monitorRoom] using hcat) hdg hroom
  intro T hT X
  obtain ⟨v0, st0, t, T1, L, e0, X1, hL, e1, e2, ⟨⟨r, sh1, v1, N1, ho, hp, hz⟩, hF⟩, go⟩ := run T hT X
  cases ho
  obtain ⟨t2, a1, b1⟩ := kk v0 sh1 v1 N1 hp T1.heap (locs ++ L) ls (by rw [e1]; exact hz) (zS_after h2 e0 hF e1 hL) h3 T1 rfl X1
  exact ⟨t2, go t2 a1, b1⟩
theorem r_callI (C : zC p s m args meth c own nm cc nL ret G) {y : MethodName} {b2 : ByteArray} {mL idx n dp : Nat} {a : Nat} {As : List Value} {stk : List Value} {Post : Option Value → zV → Prop} (hM : zm l G y b2 mL none dp (.ref a :: As) sh v N Post) (hy : zYI y b2 mL n) (hlink : Cond.methodLink own idx y ∈ TB) (hn : As.length = n) (hstk : stk = As.reverse ++ .ref a :: st) (hcat : (st.map fun w => w.category).sum ≤ 8) (hR : dp + 1 ≤ R.frames ∧ 8 + (mL + 11) + 32 * dp ≤ R.locals) (hroom : cells ≤ R.cells ∧ slots ≤ R.slots) (hdg : decode cc pc = .ok (.invokespecial idx, 3))
    (kk : ∀ (r : Option Value) (v1 : zV), Post r v1 → VV p l e R s m args below meth c cells slots Q G nL sh v1 N (pc + 3) lv (r.toList ++ st)) : VV p l e R s m args below meth c cells slots Q G nL sh v N pc lv stk :=
  r_callIM C hM hy hlink hn hstk hcat hR hroom hdg (fun r sh1 v1 N1 hp => by obtain ⟨rfl, rfl, hp⟩ := hp; exact kk r v1 hp)

theorem r_callVNM (C : zC p s m args meth c own nm cc nL ret G) {y : MethodName} {b2 : ByteArray} {mL idx n dp mc ms : Nat} {rt : Option FieldType} {host : String} {a ci NF : Nat} {pt : Nat → Nat} {qc : vw_C} {As : List Value} {stk : List Value} {Post : Option Value → zH → zV → Nat → Prop} (hM : zM l G y b2 mL rt dp mc ms (.ref a :: As) sh v N Post) (hy : zYV y b2 mL rt n) (hlink : Cond.methodLinkNest own idx y host ∈ NB) (hn : As.length = n) (hd : zdm G N a) (hsh : sh a = (ci, NF, pt)) (hci : ci < 8) (hc : zcl[ci]? = some qc) (hq : qc.1 = y.cls) (hstk : stk = As.reverse ++ .ref a :: st) (hcat : (st.map fun w => w.category).sum ≤ 8) (hR : dp + 1 ≤ R.frames ∧ 8 + (mL + 11) + 32 * dp ≤ R.locals) (hroom : cells + mc ≤ R.cells ∧ slots + ms ≤ R.slots) (hdg : decode cc pc = .ok (.invokevirtual idx, 3))
    (kk : ∀ (r : Option Value) (sh1 : zH) (v1 : zV) (N1 : Nat), Post r sh1 v1 N1 → VV p l e R s m args below meth c (cells + mc) (slots + ms) Q G nL sh1 v1 N1 (pc + 3) lv (r.toList ++ st)) : VV p l e R s m args below meth c cells slots Q G nL sh v N pc lv stk := by
  subst hstk
  intro H locs ls h1 h2 h3
  have hts := C.2.2.2.2.1
  have hrec : ∃ cellB : Cell, H[a]? = some cellB ∧ cellB.vm.isStatics = false ∧ s.vm.findClass y.cls = some cellB.cls := by
    obtain ⟨cell, q1, q2, q3, -⟩ := (h1.2.2.2 a hd).obj hsh hci
    obtain ⟨-, hfc, -⟩ := C.k.1 ci _ hc
    exact ⟨cell, q1, by rw [q3]; rfl, by rw [q2, ← hq]; exact hfc⟩
  have run := va_runVN (meth := meth) (below := below) (e := e) (cells := cells) (slots := slots) (locs := locs) (g := F0 m pc ls (As.reverse ++ .ref a :: st)) (rest := st) ⟨C.1, C.2.1, C.2.2.1, C.2.2.2.1, hts⟩ hM (⟨⟨⟨rfl, rfl, hR.1, hR.2, pay_in hts (zGood hy.1), List.mem_cons_self⟩, hts _ hy.1, hts _ hy.2.1, ⟨hy.2.2.2.2.1, hy.2.2.2.2.2.1⟩, zPar hy.2.2.2.2.2.2, C.n hlink⟩, hts _ hy.2.2.1, hts _ hy.2.2.2.1⟩) ⟨zBlind, hrec, fun U hU hW => ⟨rfl, by rw [hU]; exact h1, zK.moved hW C.2.2.2.2.2.2.2.2⟩⟩ rfl hn h3.1 rfl (by simpa [JFrame.monitorRoom] using hcat) hdg hroom
  intro T hT X
  obtain ⟨v0, st0, t, T1, L, e0, X1, hL, e1, e2, ⟨⟨r, sh1, v1, N1, ho, hp, hz⟩, hF⟩, go⟩ := run T hT X
  cases ho
  obtain ⟨t2, a1, b1⟩ := kk v0 sh1 v1 N1 hp T1.heap (locs ++ L) ls (by rw [e1]; exact hz) (zS_after h2 e0 hF e1 hL) h3 T1 rfl X1
  exact ⟨t2, go t2 a1, b1⟩
theorem r_callVN (C : zC p s m args meth c own nm cc nL ret G) {y : MethodName} {b2 : ByteArray} {mL idx n dp : Nat} {rt : Option FieldType} {host : String} {a ci NF : Nat} {pt : Nat → Nat} {qc : vw_C} {As : List Value} {stk : List Value} {Post : Option Value → zV → Prop} (hM : zm l G y b2 mL rt dp (.ref a :: As) sh v N Post) (hy : zYV y b2 mL rt n) (hlink : Cond.methodLinkNest own idx y host ∈ NB) (hn : As.length = n) (hd : zdm G N a) (hsh : sh a = (ci, NF, pt)) (hci : ci < 8) (hc : zcl[ci]? = some qc) (hq : qc.1 = y.cls) (hstk : stk = As.reverse ++ .ref a :: st) (hcat : (st.map fun w => w.category).sum ≤ 8) (hR : dp + 1 ≤ R.frames ∧ 8 + (mL + 11) + 32 * dp ≤ R.locals) (hroom : cells ≤ R.cells ∧ slots ≤ R.slots) (hdg : decode cc pc = .ok (.invokevirtual idx, 3))
    (kk : ∀ (r : Option Value) (v1 : zV), Post r v1 → VV p l e R s m args below meth c cells slots Q G nL sh v1 N (pc + 3) lv (r.toList ++ st)) : VV p l e R s m args below meth c cells slots Q G nL sh v N pc lv stk :=
  r_callVNM C hM hy hlink hn hd hsh hci hc hq hstk hcat hR hroom hdg (fun r sh1 v1 N1 hp => by obtain ⟨rfl, rfl, hp⟩ := hp; exact kk r v1 hp)

theorem r_callSNM (C : zC p s m args meth c own nm cc nL ret G) {y : MethodName} {b2 : ByteArray} {mL idx n dp mc ms : Nat} {rt : Option FieldType} {host : String} {As : List Value} {stk : List Value} {Post : Option Value → zH → zV → Nat → Prop} (hM : zM l G y b2 mL rt dp mc ms As sh v N Post) (hy : zYS y b2 mL rt n) (hlink : Cond.methodLinkNest own idx y host ∈ NB) (hn : As.length = n) (hstk : stk = As.reverse ++ st) (hcat : (st.map fun w => w.category).sum ≤ 8) (hR : dp + 1 ≤ R.frames ∧ 8 + (mL + 11) + 32 * dp ≤ R.locals) (hroom : cells + mc ≤ R.cells ∧ slots + ms ≤ R.slots) (hdg : decode cc pc = .ok (.invokestatic idx, 3))
    (kk : ∀ (r : Option Value) (sh1 : zH) (v1 : zV) (N1 : Nat), Post r sh1 v1 N1 → VV p l e R s m args below meth c (cells + mc) (slots + ms) Q G nL sh1 v1 N1 (pc + 3) lv (r.toList ++ st)) : VV p l e R s m args below meth c cells slots Q G nL sh v N pc lv stk := by
  subst hstk
  intro H locs ls h1 h2 h3
  have hts := C.2.2.2.2.1
  have run := va_runSN (meth := meth) (below := below) (e := e) (cells := cells) (slots := slots) (locs := locs) (g := F0 m pc ls (As.reverse ++ st)) (rest := st) ⟨C.1, C.2.1, C.2.2.1, C.2.2.2.1, hts⟩ hM (⟨⟨⟨rfl, rfl, hR.1, hR.2, pay_in hts (zGood hy.1), List.mem_cons_self⟩, hts _ hy.1, hts _ hy.2.1, ⟨hy.2.2.2.1, hy.2.2.2.2.1⟩, zPar hy.2.2.2.2.2, C.n hlink⟩, hts _ hy.2.2.1, trivial⟩) ⟨zBlind, fun U hU hW => ⟨rfl, by rw [hU]; exact h1, zK.moved hW C.2.2.2.2.2.2.2.2⟩⟩ rfl hn h3.1 rfl (by simpa [JFrame.monitorRoom] using hcat) hdg hroom
  intro T hT X
  obtain ⟨v0, st0, t, T1, L, e0, X1, hL, e1, e2, ⟨⟨r, sh1, v1, N1, ho, hp, hz⟩, hF⟩, go⟩ := run T hT X
  cases ho
  obtain ⟨t2, a1, b1⟩ := kk v0 sh1 v1 N1 hp T1.heap (locs ++ L) ls (by rw [e1]; exact hz) (zS_after h2 e0 hF e1 hL) h3 T1 rfl X1
  exact ⟨t2, go t2 a1, b1⟩
theorem r_callSN (C : zC p s m args meth c own nm cc nL ret G) {y : MethodName} {b2 : ByteArray} {mL idx n dp : Nat} {rt : Option FieldType} {host : String} {As : List Value} {stk : List Value} {Post : Option Value → zV → Prop} (hM : zm l G y b2 mL rt dp As sh v N Post) (hy : zYS y b2 mL rt n) (hlink : Cond.methodLinkNest own idx y host ∈ NB) (hn : As.length = n) (hstk : stk = As.reverse ++ st) (hcat : (st.map fun w => w.category).sum ≤ 8) (hR : dp + 1 ≤ R.frames ∧ 8 + (mL + 11) + 32 * dp ≤ R.locals) (hroom : cells ≤ R.cells ∧ slots ≤ R.slots) (hdg : decode cc pc = .ok (.invokestatic idx, 3))
    (kk : ∀ (r : Option Value) (v1 : zV), Post r v1 → VV p l e R s m args below meth c cells slots Q G nL sh v1 N (pc + 3) lv (r.toList ++ st)) : VV p l e R s m args below meth c cells slots Q G nL sh v N pc lv stk :=
  r_callSNM C hM hy hlink hn hstk hcat hR hroom hdg (fun r sh1 v1 N1 hp => by obtain ⟨rfl, rfl, hp⟩ := hp; exact kk r v1 hp)

theorem r_callINM (C : zC p s m args meth c own nm cc nL ret G) {y : MethodName} {b2 : ByteArray} {mL idx n dp mc ms : Nat} {host : String} {a : Nat} {As : List Value} {stk : List Value} {Post : Option Value → zH → zV → Nat → Prop} (hM : zM l G y b2 mL none dp mc ms (.ref a :: As) sh v N Post) (hy : zYI y b2 mL n) (hlink : Cond.methodLinkNest own idx y host ∈ NB) (hn : As.length = n) (hstk : stk = As.reverse ++ .ref a :: st) (hcat : (st.map fun w => w.category).sum ≤ 8) (hR : dp + 1 ≤ R.frames ∧ 8 + (mL + 11) + 32 * dp ≤ R.locals) (hroom : cells + mc ≤ R.cells ∧ slots + ms ≤ R.slots) (hdg : decode cc pc = .ok (.invokespecial idx, 3))
    (kk : ∀ (r : Option Value) (sh1 : zH) (v1 : zV) (N1 : Nat), Post r sh1 v1 N1 → VV p l e R s m args below meth c (cells + mc) (slots + ms) Q G nL sh1 v1 N1 (pc + 3) lv (r.toList ++ st)) : VV p l e R s m args below meth c cells slots Q G nL sh v N pc lv stk := by
  subst hstk
  intro H locs ls h1 h2 h3
  have hts := C.2.2.2.2.1
  have run := va_runIN (meth := meth) (below := below) (e := e) (cells := cells) (slots := slots) (locs := locs) (g := F0 m pc ls (As.reverse ++ .ref a :: st)) (rest := st) ⟨C.1, C.2.1, C.2.2.1, C.2.2.2.1, hts⟩ hM (⟨⟨⟨rfl, rfl, hR.1, hR.2, pay_in hts (zGood hy.1), List.mem_cons_self⟩, hts _ hy.1, hts _ hy.2.1, ⟨hy.2.2.2.2.1, hy.2.2.2.2.2.1⟩, zPar hy.2.2.2.2.2.2, C.n hlink⟩, hy.2.2.2.1, hts _ hy.2.2.1⟩) ⟨zBlind, fun U hU hW => ⟨rfl, by rw [hU]; exact h1, zK.moved hW C.2.2.2.2.2.2.2.2⟩⟩ rfl hn h3.1 rfl (by simpa [JFrame.monitorRoom] using hcat) hdg hroom
  intro T hT X
  obtain ⟨v0, st0, t, T1, L, e0, X1, hL, e1, e2, ⟨⟨r, sh1, v1, N1, ho, hp, hz⟩, hF⟩, go⟩ := run T hT X
  cases ho
  obtain ⟨t2, a1, b1⟩ := kk v0 sh1 v1 N1 hp T1.heap (locs ++ L) ls (by rw [e1]; exact hz) (zS_after h2 e0 hF e1 hL) h3 T1 rfl X1
  exact ⟨t2, go t2 a1, b1⟩
theorem r_callIN (C : zC p s m args meth c own nm cc nL ret G) {y : MethodName} {b2 : ByteArray} {mL idx n dp : Nat} {host : String} {a : Nat} {As : List Value} {stk : List Value} {Post : Option Value → zV → Prop} (hM : zm l G y b2 mL none dp (.ref a :: As) sh v N Post) (hy : zYI y b2 mL n) (hlink : Cond.methodLinkNest own idx y host ∈ NB) (hn : As.length = n) (hstk : stk = As.reverse ++ .ref a :: st) (hcat : (st.map fun w => w.category).sum ≤ 8) (hR : dp + 1 ≤ R.frames ∧ 8 + (mL + 11) + 32 * dp ≤ R.locals) (hroom : cells ≤ R.cells ∧ slots ≤ R.slots) (hdg : decode cc pc = .ok (.invokespecial idx, 3))
    (kk : ∀ (r : Option Value) (v1 : zV), Post r v1 → VV p l e R s m args below meth c cells slots Q G nL sh v1 N (pc + 3) lv (r.toList ++ st)) : VV p l e R s m args below meth c cells slots Q G nL sh v N pc lv stk :=
  r_callINM C hM hy hlink hn hstk hcat hR hroom hdg (fun r sh1 v1 N1 hp => by obtain ⟨rfl, rfl, hp⟩ := hp; exact kk r v1 hp)

theorem r_objInit (C : zC p s m args meth c own nm cc nL ret G) {a idx : Nat} (hlink : Cond.methodLink own idx objectInit ∈ TB) (hinst : Cond.instanceMethod objectInit ∈ TB) (hcode : Cond.code objectInit ⟨#[0xb1]⟩ 1 none ∈ TB) (hcat : (st.map fun w => w.category).sum ≤ 8) (hR : 1 ≤ R.frames ∧ 32 ≤ R.locals) (hdg : decode cc pc = .ok (.invokespecial idx, 3)) (kk : VV p l e R s m args below meth c cells slots Q G nL sh v N (pc + 3) lv st) : VV p l e R s m args below meth c cells slots Q G nL sh v N pc lv (.ref a :: st) := fun H locs ls h1 h2 h3 =>
  W.objInit C.1 C.2.1 C.2.2.2.1 (C.2.2.2.2.1 _ hlink) (C.2.2.2.2.1 _ hinst) (C.2.2.2.2.1 _ hcode) rfl (h3.1.trans C.2.2.1.symm) rfl hdg hR.1 (by have : (F0 m pc ls (Value.ref a :: st)).monitorRoom = 0 := rfl
                                                                                                                                                 omega) (kk H locs ls h1 h2 h3)

end ZROWS
end
section
/-! pure rows: lists of packets as numbers, counts of bits -/
theorem gd_ge {ps : List Nat} {j : Nat} (h : ps.length ≤ j) : ps.getD j 0 = 0 := by simp [List.getD, h]
theorem gd_app {ps : List Nat} {p j : Nat} : (ps ++ [p]).getD j 0 = if j < ps.length then ps.getD j 0 else if j = ps.length then p else 0 := by
  rcases Nat.lt_trichotomy j ps.length with h | h | h
  · simp [List.getD, h, List.getElem?_append_left h]
  · subst h; simp [List.getD]
  · rw [if_neg (by omega), if_neg (by omega)]
    exact gd_ge (by simp; omega)
theorem gd_erase {ps : List Nat} {k j : Nat} : (ps.eraseIdx k).getD j 0 = if j < k then ps.getD j 0 else ps.getD (j + 1) 0 := by
  simp only [List.getD, List.getElem?_eraseIdx]
  by_cases h : j < k <;> simp [h]
theorem gd_drop {ps : List Nat} {d j : Nat} : (ps.drop d).getD j 0 = ps.getD (d + j) 0 := by simp [List.getD]
def pops (k : Nat) : Nat → Nat
  | 0 => 0
  | b + 1 => pops k b + k / 2 ^ b % 2
abbrev pop (k : Nat) : Nat := pops k 12
def zpl (v : zV) (a cap : Nat) (ps : List Nat) : Prop := v a 1 = nI ps.length ∧ ps.length ≤ cap ∧ ∀ k, k < ps.length → v (a + 1) k = nI (ps.getD k 0)
def zPL (G : zG) (sh : zH) (N a cap : Nat) : Prop := G.2.2.1 ≤ a ∧ a + 1 < N ∧ cap ≤ 20 ∧ sh a = (1, 2, pts [a + 1 + 2, 0]) ∧ sh (a + 1) = (8, cap, fun _ => 0)
def zfr (v v1 : zV) (a n : Nat) : Prop := ∀ b, (b < a ∨ a + n ≤ b) → v1 b = v b
theorem zfr.rf {v : zV} {a n : Nat} : zfr v v a n := fun _ _ => rfl
theorem zfr.z2 {v v1 : zV} {a n b k : Nat} {x : Int32} (h : zfr v v1 a n) (h1 : a ≤ b) (h2 : b < a + n) : zfr v (z2 v1 b k x) a n := fun q hq => by rw [z2_addr (by omega)]; exact h q hq
theorem zfr.tr {v v1 v2 : zV} {a n : Nat} (h : zfr v v1 a n) (h1 : zfr v1 v2 a n) : zfr v v2 a n := fun q hq => (h1 q hq).trans (h q hq)
theorem zfr.wide {v v1 : zV} {a n b m : Nat} (h : zfr v v1 a n) (h1 : b ≤ a) (h2 : a + n ≤ b + m) : zfr v v1 b m := fun q hq => h q (by omega)
theorem zpl.kept {v v1 : zV} {a cap : Nat} {ps : List Nat} (h : zpl v a cap ps) (h0 : v1 a = v a) (h1 : v1 (a + 1) = v (a + 1)) : zpl v1 a cap ps := ⟨by rw [h0]; exact h.1, h.2.1, fun k hk => by rw [h1]; exact h.2.2 k hk⟩
theorem pl_app {v : zV} {a cap p : Nat} {ps : List Nat} (h : zpl v a cap ps) (hl : ps.length < cap) : zpl (z2 (z2 v (a + 1) ps.length (nI p)) a 1 (nI (ps.length + 1))) a cap (ps ++ [p]) := by
  obtain ⟨h1, h2, h3⟩ := h
  refine ⟨by rw [z2_self, List.length_append]; rfl, by simp; omega, fun k hk => ?_⟩
  have hk' : k < ps.length + 1 := by simpa using hk
  rw [z2_addr (by omega), gd_app]
  by_cases hk2 : k < ps.length
  · rw [z2_ne (by omega), if_pos hk2]; exact h3 k hk2
  · have : k = ps.length := by omega
    subst this
    rw [z2_self, if_neg (by omega), if_pos rfl]
end
section
section ZLATE
variable {p : Program} {l : Launch} {e : Env} {R : Room} {s : State} {m : MethodId} {args : Array Value} {below : List Frame} {meth : Method} {c : Code} {cells slots : Nat} {Q : State → Prop} {G : zG} {nL : Nat} {sh : zH} {v : zV} {N pc : Nat} {lv : List (Option Value)} {st : List Value} {own nm : String} {cc : ByteArray} {ret : Option FieldType}
theorem VV.fg (k : Nat) {lv2 : List (Option Value)} (h : lv.set k none = lv2) (kk : VV p l e R s m args below meth c cells slots Q G nL sh v N pc lv2 st) : VV p l e R s m args below meth c cells slots Q G nL sh v N pc lv st := VV.weak (lv2 := lv2) (fun i w hi => by
  rw [← h, List.getElem?_set] at hi
  split at hi
  · split at hi <;> cases hi
  · exact hi) kk
def zcp (v : zV) (a0 a n : Nat) : zV := fun b j => if b = a ∧ j < n then v a0 j else v b j
theorem zcp_at {v : zV} {a0 a n j : Nat} (h : j < n) : zcp v a0 a n a j = v a0 j := by simp [zcp, h]
theorem zcp_ne {v : zV} {a0 a n b : Nat} (h : b ≠ a) : zcp v a0 a n b = v b := by funext j; simp [zcp, h]
theorem r_copy (C : zC p s m args meth c own nm cc nL ret G) {a0 a n idx : Nat} (hne : a0 ≠ a) (hlink : Cond.methodLink own idx arraycopyName ∈ TB) (hn : n < 2 ^ 20) (hd0 : zdm G N a0) (hs0 : sh a0 = (8, n, fun _ => 0)) (hd : G.2.2.1 ≤ a ∧ a < N) (hs : sh a = (8, n, fun _ => 0)) (hR : 1 ≤ R.frames ∧ (st.map fun w => w.category).sum + (nativeFrameWords "java/lang/System" "arraycopy" 5 + 11) ≤ R.locals) (hdg : decode cc pc = .ok (.invokestatic idx, 3)) (kk : VV p l e R s m args below meth c cells slots Q G nL sh (zcp v a0 a n) N (pc + 3) lv st) : VV p l e R s m args below meth c cells slots Q G nL sh v N pc lv (.int (nI n) :: .int (nI 0) :: .ref a :: .int (nI 0) :: .ref a0 :: st) := fun H locs ls h1 h2 h3 => by
  have hq0 := (h1.2.2.2 a0 hd0).arr hs0 (by decide)
  have hq1 := (h1.2.2.2 a (Or.inl hd)).arr hs (by decide)
  have hA := (C.k.2 0 _ rfl).1
  obtain ⟨-, k0, hk0, cm0, hkk0⟩ := hA n (fun j => .int (v a0 j))
  have hz : ¬ nI n < 0 := nI_pos (by omega)
  have hcl : (nI n).toNatClampNeg = n := nI_clamp (by omega)
  have hti : (nI n).toInt = (n : Int) := nI_toInt (by omega)
  intro T hT X
  obtain ⟨vm1, X1, step⟩ := X.arraycopy C.1 C.2.2.2.1 (C.2.2.2.2.1 _ hlink) (C.2.2.2.2.1 _ q_acn) (C.2.2.2.2.1 _ q_acs) (C.2.2.2.2.1 _ q_sys) (src := a0) (dst := a) (cs := arrV (G.2.1 8) n (fun j => .int (v a0 j))) (cd := arrV (G.2.1 8) n (fun j => .int (v a j))) (srcPos := nI 0) (destPos := nI 0) (n := nI n) (by rw [hT]; exact hq0) (by rw [hT]; exact hq1)
    (fun _ h => by cases h) (fun _ h => by cases h) (fun h => by cases h) (fun h => by cases h) hk0 hk0 hkk0 hkk0 (by simp [refKind]) (by decide) (by decide) hz
    (by rw [hti]; show ¬ (0 : Int) + _ > ((arrV _ n _).slots.size : Int); rw [arrV_size]; omega)
    (by rw [hti]; show ¬ (0 : Int) + _ > ((arrV _ n _).slots.size : Int); rw [arrV_size]; omega)
    (fun vm1 _ i hi => by
      have e : (arrV (G.2.1 8) n (fun j => .int (v a0 j))).slots.getD ((nI 0).toNatClampNeg + i) .null = .int (v a0 ((nI 0).toNatClampNeg + i)) := by
        rw [hcl] at hi
        rw [Array.getD_eq_getD_getElem?, arrV_read _ _ (by show 0 + i < n; omega)]
        rfl
      exact ⟨by rw [e]; rfl, by rw [e]; exact trivial⟩)
    (g := F0 m pc ls (.int (nI n) :: .int (nI 0) :: .ref a :: .int (nI 0) :: .ref a0 :: st)) rfl (h3.1.trans C.2.2.1.symm) (rest := st) rfl (by rw [C.2.1]; exact hdg) hR.1 (by show 2 * 0 + _ + _ ≤ _; omega)
  have e1 : copied (arrV (G.2.1 8) n (fun j => .int (v a0 j))) (arrV (G.2.1 8) n (fun j => .int (v a j))) (nI 0) (nI 0) (nI n) = vp_cell (G.2.1 8) (n, .inl (va_cpy (v a0) (v a) (nI 0).toNatClampNeg (nI 0).toNatClampNeg (nI n).toNatClampNeg)) := va_copied (fun z => .int z) (G.2.1 8) (G.2.1 8) (v a0) (v a) (by rw [hcl]; show 0 + n ≤ n; omega)
  rw [e1] at X1 step
  have hl : a < H.size := (Array.getElem?_eq_some_iff.mp hq1).1
  have hheap : ((T.setVm vm1).setCell a (vp_cell (G.2.1 8) (n, .inl (va_cpy (v a0) (v a) (nI 0).toNatClampNeg (nI 0).toNatClampNeg (nI n).toNatClampNeg)))).heap = H.setIfInBounds a (vp_cell (G.2.1 8) (n, .inl (va_cpy (v a0) (v a) (nI 0).toNatClampNeg (nI 0).toNatClampNeg (nI n).toNatClampNeg))) := by rw [← hT]; rfl
  have oq : ∀ q : Nat, q ≠ a → (H.setIfInBounds a (vp_cell (G.2.1 8) (n, .inl (va_cpy (v a0) (v a) (nI 0).toNatClampNeg (nI 0).toNatClampNeg (nI n).toNatClampNeg))))[q]? = H[q]? := fun q hq => by simp [Array.getElem?_setIfInBounds, Ne.symm hq]
  have hR2 : zR G sh (zcp v a0 a n) N (H.setIfInBounds a (vp_cell (G.2.1 8) (n, .inl (va_cpy (v a0) (v a) (nI 0).toNatClampNeg (nI 0).toNatClampNeg (nI n).toNatClampNeg)))) := by
    refine ⟨by simp; exact h1.1, h1.2.1, h1.2.2.1, fun b hb => ?_⟩
    by_cases hba : b = a
    · subst hba
      rw [hs]
      refine ⟨fun h => absurd h (Nat.lt_irrefl 8), fun _ => ?_⟩
      show _ = some (arrV (G.2.1 8) n _)
      rw [Array.getElem?_setIfInBounds_self_of_lt hl, vp_cell_i, hcl]
      congr 2
      funext j
      simp [zl, zcp, va_cpy, nI_0]
    · rw [zcp_ne hba]
      exact (h1.2.2.2 b hb).kept (oq b hba)
  obtain ⟨t, a1, b1⟩ := kk _ _ ls hR2 ⟨by simp; exact h2.1, fun q g1 g2 => by
      rw [oq q (fun e => g2 (by rw [e]; exact hd.1))]
      exact h2.2.1 q g1 g2, fun q hq => by
      rcases List.mem_append.mp hq with h | h
      · exact h2.2.2 q h
      · obtain ⟨z, -, hz⟩ := List.mem_map.mp h
        rw [← hz]
        exact hd.1⟩ h3 _ hheap X1
  exact ⟨t, step t a1, b1⟩
end ZLATE
end
section
theorem nx_and (a b : Nat) : nI a &&& nI b = nI (a &&& b) := by
  apply Int32.toBitVec_inj.1
  show BitVec.ofNat 32 a &&& BitVec.ofNat 32 b = BitVec.ofNat 32 (a &&& b)
  apply BitVec.eq_of_getLsbD_eq
  intro i hi
  simp [hi]
theorem nx_xor (a b : Nat) : nI a ^^^ nI b = nI (a ^^^ b) := by
  apply Int32.toBitVec_inj.1
  show BitVec.ofNat 32 a ^^^ BitVec.ofNat 32 b = BitVec.ofNat 32 (a ^^^ b)
  apply BitVec.eq_of_getLsbD_eq
  intro i hi
  simp [hi]
theorem nx_or (a b : Nat) : nI a ||| nI b = nI (a ||| b) := by
  apply Int32.toBitVec_inj.1
  show BitVec.ofNat 32 a ||| BitVec.ofNat 32 b = BitVec.ofNat 32 (a ||| b)
  apply BitVec.eq_of_getLsbD_eq
  intro i hi
  simp [hi]
theorem nI_s31 : ∀ n, n < 32 → ((nI n &&& 31).toBitVec.smod 32).toNat = n := by decide +kernel
theorem nI_shl1 {k : Nat} (h : k < 31) : nI 1 <<< (nI k &&& 31) = nI (2 ^ k) := by
  have h2 : 2 ^ k < 2 ^ 31 := Nat.pow_lt_pow_right (by decide) h
  have := pk_shlN (n := 1) (nI k &&& 31) k (nI_s31 k (by omega)) (by omega)
  rw [this, Nat.one_mul]
theorem nI_shr {n k : Nat} (hn : n < 2 ^ 31) (hk : k < 32) : nI n >>> (nI k &&& 31) = nI (n / 2 ^ k) := pk_shrN hn _ k (nI_s31 k hk)
theorem and_lt {x y : Nat} (h : x < 2 ^ 31) : x &&& y < 2 ^ 31 := Nat.lt_of_le_of_lt Nat.and_le_left h
theorem tb_bit {x i : Nat} : (x / 2 ^ i) &&& 1 = if x.testBit i then 1 else 0 := by
  rw [Nat.and_one_is_mod, Nat.testBit_eq_decide_div_mod_eq]
  rcases Nat.mod_two_eq_zero_or_one (x / 2 ^ i) with h | h <;> simp [h]
theorem tb_and {x i : Nat} : x &&& 2 ^ i = if x.testBit i then 2 ^ i else 0 := by
  apply Nat.eq_of_testBit_eq
  intro j
  rw [Nat.testBit_and, Nat.testBit_two_pow]
  by_cases h : i = j
  · subst h
    by_cases hx : x.testBit i <;> simp [hx, Nat.testBit_two_pow_self]
  · by_cases hx : x.testBit i <;> simp [hx, h, Nat.testBit_two_pow]
theorem tb_pos {x i : Nat} : 0 < x &&& 2 ^ i ↔ x.testBit i = true := by
  rw [tb_and]
  by_cases h : x.testBit i <;> simp [h, Nat.two_pow_pos]
theorem tb_zero {x i : Nat} : x &&& 2 ^ i = 0 ↔ x.testBit i = false := by
  rw [tb_and]
  by_cases h : x.testBit i <;> simp [h]
def bc1 (x : Int32) : Int32 := x - ((x.toUInt32 >>> ((nI 1).toUInt32 &&& Int32.toUInt32 31)).toInt32 &&& nI 1431655765)
def bc2 (x : Int32) : Int32 := (x &&& nI 858993459) + ((x.toUInt32 >>> ((nI 2).toUInt32 &&& Int32.toUInt32 31)).toInt32 &&& nI 858993459)
def bc3 (x : Int32) : Int32 := (x + (x.toUInt32 >>> ((nI 4).toUInt32 &&& Int32.toUInt32 31)).toInt32) &&& nI 252645135
def bc4 (x : Int32) : Int32 := x + (x.toUInt32 >>> ((nI 8).toUInt32 &&& Int32.toUInt32 31)).toInt32
def bc5 (x : Int32) : Int32 := x + (x.toUInt32 >>> ((nI 16).toUInt32 &&& Int32.toUInt32 31)).toInt32
theorem bc_all0 : ∀ i, i < 64 → ∀ j, j < 64 → bc5 (bc4 (bc3 (bc2 (bc1 (nI (64 * i + j)))))) &&& nI 63 = nI (pop (64 * i + j)) := by decide +kernel
theorem bc_all {k : Nat} (h : k < 4096) : bc5 (bc4 (bc3 (bc2 (bc1 (nI k))))) &&& nI 63 = nI (pop k) := by
  have := bc_all0 (k / 64) (by omega) (k % 64) (by omega)
  rwa [Nat.div_add_mod] at this
theorem pops_le (k : Nat) : ∀ n, pops k n ≤ n
  | 0 => Nat.le_refl 0
  | n + 1 => by
    have := pops_le k n
    have h2 : k / 2 ^ n % 2 < 2 := Nat.mod_lt _ (by decide)
    show pops k n + k / 2 ^ n % 2 ≤ n + 1
    omega
theorem pop_le (k : Nat) : pop k ≤ 12 := pops_le k 12
set_option maxRecDepth 100000 in
set_option maxHeartbeats 4000000 in
theorem m_J6_bitCount_0f7a4 (l : Launch) (G : zG) (sh : zH) (v : zV) (N : Nat) {k : Nat} (hk : k < 4096) : zm l G yJ6_bitCount_0f7a4 cJ6_bitCount_0f7a4 1 (some .int) 0 [.int (nI k)] sh v N (fun r v1 => r = some (.int (nI (pop k))) ∧ v1 = v) := by
  refine zM.of (by decide) rfl (Nat.le_of_ble_eq_true rfl) ?_
  intro p e s m args below meth c C
  refine r_iload_n C (pc := 0) rfl rfl dJ6_bitCount_0f7a4_0 ?_
  refine r_iload_n C (pc := 1) rfl rfl dJ6_bitCount_0f7a4_1 ?_
  refine r_iconst C (pc := 2) (x := (nI 1)) (by decide) dJ6_bitCount_0f7a4_2 ?_
  refine r_iushr C (pc := 3) (z := (((nI k).toUInt32 >>> ((nI 1).toUInt32 &&& Int32.toUInt32 31)).toInt32)) (rfl) dJ6_bitCount_0f7a4_3 ?_
  refine r_ldcw C (pc := 4) (x := nI 1431655765) q_497 dJ6_bitCount_0f7a4_4 ?_
  refine r_iand C (pc := 7) (z := ((((nI k).toUInt32 >>> ((nI 1).toUInt32 &&& Int32.toUInt32 31)).toInt32) &&& (nI 1431655765))) (rfl) dJ6_bitCount_0f7a4_7 ?_
  refine r_isub C (pc := 8) (z := (bc1 (nI k))) (rfl) dJ6_bitCount_0f7a4_8 ?_
  refine r_istore_n C (pc := 9) (lv2 := [some (.int (bc1 (nI k)))]) rfl (Nat.le_of_ble_eq_true rfl) rfl rfl dJ6_bitCount_0f7a4_9 ?_
  refine r_iload_n C (pc := 10) rfl rfl dJ6_bitCount_0f7a4_10 ?_
  refine r_ldcw C (pc := 11) (x := nI 858993459) q_498 dJ6_bitCount_0f7a4_11 ?_
  refine r_iand C (pc := 14) (z := ((bc1 (nI k)) &&& (nI 858993459))) (rfl) dJ6_bitCount_0f7a4_14 ?_
  refine r_iload_n C (pc := 15) rfl rfl dJ6_bitCount_0f7a4_15 ?_
  refine r_iconst C (pc := 16) (x := (nI 2)) (by decide) dJ6_bitCount_0f7a4_16 ?_
  refine r_iushr C (pc := 17) (z := (((bc1 (nI k)).toUInt32 >>> ((nI 2).toUInt32 &&& Int32.toUInt32 31)).toInt32)) (rfl) dJ6_bitCount_0f7a4_17 ?_
  refine r_ldcw C (pc := 18) (x := nI 858993459) q_498 dJ6_bitCount_0f7a4_18 ?_
  refine r_iand C (pc := 21) (z := ((((bc1 (nI k)).toUInt32 >>> ((nI 2).toUInt32 &&& Int32.toUInt32 31)).toInt32) &&& (nI 858993459))) (rfl) dJ6_bitCount_0f7a4_21 ?_
  refine r_iadd C (pc := 22) (z := (bc2 (bc1 (nI k)))) (rfl) dJ6_bitCount_0f7a4_22 ?_
  refine r_istore_n C (pc := 23) (lv2 := [some (.int (bc2 (bc1 (nI k))))]) rfl (Nat.le_of_ble_eq_true rfl) rfl rfl dJ6_bitCount_0f7a4_23 ?_
  refine r_iload_n C (pc := 24) rfl rfl dJ6_bitCount_0f7a4_24 ?_
  refine r_iload_n C (pc := 25) rfl rfl dJ6_bitCount_0f7a4_25 ?_
  refine r_iconst C (pc := 26) (x := (nI 4)) (by decide) dJ6_bitCount_0f7a4_26 ?_
  refine r_iushr C (pc := 27) (z := (((bc2 (bc1 (nI k))).toUInt32 >>> ((nI 4).toUInt32 &&& Int32.toUInt32 31)).toInt32)) (rfl) dJ6_bitCount_0f7a4_27 ?_
  refine r_iadd C (pc := 28) (z := ((bc2 (bc1 (nI k))) + (((bc2 (bc1 (nI k))).toUInt32 >>> ((nI 4).toUInt32 &&& Int32.toUInt32 31)).toInt32))) (rfl) dJ6_bitCount_0f7a4_28 ?_
  refine r_ldcw C (pc := 29) (x := nI 252645135) q_499 dJ6_bitCount_0f7a4_29 ?_
  refine r_iand C (pc := 32) (z := (bc3 (bc2 (bc1 (nI k))))) (rfl) dJ6_bitCount_0f7a4_32 ?_
  refine r_istore_n C (pc := 33) (lv2 := [some (.int (bc3 (bc2 (bc1 (nI k)))))]) rfl (Nat.le_of_ble_eq_true rfl) rfl rfl dJ6_bitCount_0f7a4_33 ?_
  refine r_iload_n C (pc := 34) rfl rfl dJ6_bitCount_0f7a4_34 ?_
  refine r_iload_n C (pc := 35) rfl rfl dJ6_bitCount_0f7a4_35 ?_
  refine r_bipush C (pc := 36) (x := (nI 8)) (by decide) dJ6_bitCount_0f7a4_36 ?_
  refine r_iushr C (pc := 38) (z := (((bc3 (bc2 (bc1 (nI k)))).toUInt32 >>> ((nI 8).toUInt32 &&& Int32.toUInt32 31)).toInt32)) (rfl) dJ6_bitCount_0f7a4_38 ?_
  refine r_iadd C (pc := 39) (z := (bc4 (bc3 (bc2 (bc1 (nI k)))))) (rfl) dJ6_bitCount_0f7a4_39 ?_
  refine r_istore_n C (pc := 40) (lv2 := [some (.int (bc4 (bc3 (bc2 (bc1 (nI k))))))]) rfl (Nat.le_of_ble_eq_true rfl) rfl rfl dJ6_bitCount_0f7a4_40 ?_
  refine r_iload_n C (pc := 41) rfl rfl dJ6_bitCount_0f7a4_41 ?_
  refine r_iload_n C (pc := 42) rfl rfl dJ6_bitCount_0f7a4_42 ?_
  refine r_bipush C (pc := 43) (x := (nI 16)) (by decide) dJ6_bitCount_0f7a4_43 ?_
  refine r_iushr C (pc := 45) (z := (((bc4 (bc3 (bc2 (bc1 (nI k))))).toUInt32 >>> ((nI 16).toUInt32 &&& Int32.toUInt32 31)).toInt32)) (rfl) dJ6_bitCount_0f7a4_45 ?_
  refine r_iadd C (pc := 46) (z := (bc5 (bc4 (bc3 (bc2 (bc1 (nI k))))))) (rfl) dJ6_bitCount_0f7a4_46 ?_
  refine r_istore_n C (pc := 47) (lv2 := [some (.int (bc5 (bc4 (bc3 (bc2 (bc1 (nI k)))))))]) rfl (Nat.le_of_ble_eq_true rfl) rfl rfl dJ6_bitCount_0f7a4_47 ?_
  refine r_iload_n C (pc := 48) rfl rfl dJ6_bitCount_0f7a4_48 ?_
  refine r_bipush C (pc := 49) (x := (nI 63)) (by decide) dJ6_bitCount_0f7a4_49 ?_
  refine r_iand C (pc := 51) (z := (nI (pop k))) (bc_all hk) dJ6_bitCount_0f7a4_51 ?_
  exact r_iret C (pc := 52) rfl (rfl) dJ6_bitCount_0f7a4_52 ⟨rfl, rfl, rfl, rfl⟩
set_option maxRecDepth 100000 in
set_option maxHeartbeats 4000000 in
theorem m_X6_setIn (l : Launch) (G : zG) (sh : zH) (v : zV) (N : Nat) {q : Nat} (hq : q < 2 ^ 31) : zm l G yX6_setIn cX6_setIn 1 (some .int) 0 [.int (nI q)] sh v N (fun r v1 => r = some (.int (nI (q / 256))) ∧ v1 = v) := by
  refine zM.of (by decide) rfl (Nat.le_of_ble_eq_true rfl) ?_
  intro p e s m args below meth c C
  refine r_iload_n C (pc := 0) rfl rfl dX6_setIn_0 ?_
  refine r_bipush C (pc := 1) (x := (nI 8)) (by decide) dX6_setIn_1 ?_
  refine r_ishr C (pc := 3) (z := (nI (q / 256))) (nI_shr hq (by decide)) dX6_setIn_3 ?_
  exact r_iret C (pc := 4) rfl (rfl) dX6_setIn_4 ⟨rfl, rfl, rfl, rfl⟩
set_option maxRecDepth 100000 in
set_option maxHeartbeats 4000000 in
theorem m_X6_valueIn (l : Launch) (G : zG) (sh : zH) (v : zV) (N : Nat) {q : Nat}  : zm l G yX6_valueIn cX6_valueIn 1 (some .int) 0 [.int (nI q)] sh v N (fun r v1 => r = some (.int (nI (q % 256))) ∧ v1 = v) := by
  refine zM.of (by decide) rfl (Nat.le_of_ble_eq_true rfl) ?_
  intro p e s m args below meth c C
  refine r_iload_n C (pc := 0) rfl rfl dX6_valueIn_0 ?_
  refine r_sipush C (pc := 1) (x := (nI 255)) (by decide) dX6_valueIn_1 ?_
  refine r_iand C (pc := 4) (z := (nI (q % 256))) (by rw [nx_and]; exact congrArg nI (Nat.and_two_pow_sub_one_eq_mod q 8)) dX6_valueIn_4 ?_
  exact r_iret C (pc := 5) rfl (rfl) dX6_valueIn_5 ⟨rfl, rfl, rfl, rfl⟩
set_option maxRecDepth 100000 in
set_option maxHeartbeats 4000000 in
theorem m_X6_degreeOf (l : Launch) (G : zG) (sh : zH) (v : zV) (N : Nat) {q : Nat} (hq : q < 2 ^ 20) : zm l G yX6_degreeOf cX6_degreeOf 1 (some .int) 1 [.int (nI q)] sh v N (fun r v1 => r = some (.int (nI (pop (q / 256)))) ∧ v1 = v) := by
  refine zM.of (by decide) rfl (Nat.le_of_ble_eq_true rfl) ?_
  intro p e s m args below meth c C
  refine r_iload_n C (pc := 0) rfl rfl dX6_degreeOf_0 ?_
  refine r_bipush C (pc := 1) (x := (nI 8)) (by decide) dX6_degreeOf_1 ?_
  refine r_ishr C (pc := 3) (z := (nI (q / 256))) (nI_shr (by omega) (by decide)) dX6_degreeOf_3 ?_
  refine r_callS C (pc := 4) (st := []) (m_J6_bitCount_0f7a4 l G sh v N (k := q / 256) (by omega)) kyJ6_bitCount_0f7a4 q_494 rfl rfl (Nat.le_of_ble_eq_true rfl) ⟨Nat.le_of_ble_eq_true rfl, Nat.le_of_ble_eq_true rfl⟩ ⟨Nat.le_of_ble_eq_true rfl, Nat.le_of_ble_eq_true rfl⟩ dX6_degreeOf_4 (fun r4 v4 hp4 => ?_)
  obtain ⟨rfl, ehp4⟩ := hp4
  refine VV.vq ehp4 ?_
  refine VV.eq (st2 := [.int (nI (pop (q / 256)))]) rfl ?_
  exact r_iret C (pc := 7) rfl (rfl) dX6_degreeOf_7 ⟨rfl, rfl, rfl, rfl⟩
set_option maxRecDepth 100000 in
set_option maxHeartbeats 4000000 in
theorem m_X6_hasBlock (l : Launch) (G : zG) (sh : zH) (v : zV) (N : Nat) {q b : Nat} (hq : q < 2 ^ 31) (hb : b < 12) : zm l G yX6_hasBlock cX6_hasBlock 2 (some .boolean) 0 [.int (nI q), .int (nI b)] sh v N (fun r v1 => r = some (.int (zb (q.testBit (8 + b)))) ∧ v1 = v) := by
  refine zM.of (by decide) rfl (Nat.le_of_ble_eq_true rfl) ?_
  intro p e s m args below meth c C
  refine r_iload_n C (pc := 0) rfl rfl dX6_hasBlock_0 ?_
  refine r_bipush C (pc := 1) (x := (nI 8)) (by decide) dX6_hasBlock_1 ?_
  refine r_iload_n C (pc := 3) rfl rfl dX6_hasBlock_3 ?_
  refine r_iadd C (pc := 4) (z := (nI (8 + b))) (nI_add _ _) dX6_hasBlock_4 ?_
  refine r_ishr C (pc := 5) (z := (nI (q / 2 ^ (8 + b)))) (nI_shr hq (by omega)) dX6_hasBlock_5 ?_
  refine r_iconst C (pc := 6) (x := (nI 1)) (by decide) dX6_hasBlock_6 ?_
  refine r_iand C (pc := 7) (z := (nI (if q.testBit (8 + b) then 1 else 0))) (by rw [nx_and, tb_bit]) dX6_hasBlock_7 ?_
  refine n_if_eq C (pc := 8) (tgt := 15) (by split <;> decide) dX6_hasBlock_8 (by decide) (fun c_8 => ?_) (fun c_8 => ?_)
  · refine r_iconst C (pc := 15) (x := (nI 0)) (by decide) dX6_hasBlock_15 ?_
    exact r_iret C (pc := 16) rfl (rfl) dX6_hasBlock_16 ⟨rfl, rfl, by
    by_cases h : q.testBit (8 + b) = true
    · rw [if_pos h] at c_8; omega
    · have h2 : q.testBit (8 + b) = false := by simpa using h
      rw [h2]; rfl, rfl⟩
  · refine r_iconst C (pc := 11) (x := (nI 1)) (by decide) dX6_hasBlock_11 ?_
    refine r_goto C (pc := 12) (tgt := 16) dX6_hasBlock_12 (by decide) ?_
    exact r_iret C (pc := 16) rfl (rfl) dX6_hasBlock_16 ⟨rfl, rfl, by
    by_cases h : q.testBit (8 + b) = true
    · rw [h]; rfl
    · rw [if_neg h] at c_8; omega, rfl⟩
set_option maxRecDepth 100000 in
set_option maxHeartbeats 4000000 in
theorem m_X6_packetWith (l : Launch) (G : zG) (sh : zH) (v : zV) (N : Nat) {b x : Nat} (hb : b < 12) (hx : x < 256) : zm l G yX6_packetWith cX6_packetWith 2 (some .int) 0 [.int (nI b), .int (nI x)] sh v N (fun r v1 => r = some (.int (nI (2 ^ (8 + b) + x))) ∧ v1 = v) := by
  refine zM.of (by decide) rfl (Nat.le_of_ble_eq_true rfl) ?_
  intro p e s m args below meth c C
  refine r_iconst C (pc := 0) (x := (nI 1)) (by decide) dX6_packetWith_0 ?_
  refine r_bipush C (pc := 1) (x := (nI 8)) (by decide) dX6_packetWith_1 ?_
  refine r_iload_n C (pc := 3) rfl rfl dX6_packetWith_3 ?_
  refine r_iadd C (pc := 4) (z := (nI (8 + b))) (nI_add _ _) dX6_packetWith_4 ?_
  refine r_ishl C (pc := 5) (z := (nI (2 ^ (8 + b)))) (nI_shl1 (by omega)) dX6_packetWith_5 ?_
  refine r_iload_n C (pc := 6) rfl rfl dX6_packetWith_6 ?_
  refine r_ior C (pc := 7) (z := (nI (2 ^ (8 + b) + x))) (by rw [nx_or, Nat.pow_add, Nat.two_pow_add_eq_or_of_lt (show x < 2 ^ 8 from hx) (2 ^ b)]) dX6_packetWith_7 ?_
  exact r_iret C (pc := 8) rfl (rfl) dX6_packetWith_8 ⟨rfl, rfl, rfl, rfl⟩
set_option maxRecDepth 100000 in
set_option maxHeartbeats 4000000 in
theorem m_X6_isWithin (l : Launch) (G : zG) (sh : zH) (v : zV) (N : Nat) {x lo hi : Int32}  : zm l G yX6_isWithin cX6_isWithin 3 (some .boolean) 0 [.int x, .int lo, .int hi] sh v N (fun r v1 => r = some (.int (zb (decide (lo ≤ x ∧ x ≤ hi)))) ∧ v1 = v) := by
  refine zM.of (by decide) rfl (Nat.le_of_ble_eq_true rfl) ?_
  intro p e s m args below meth c C
  refine r_iload_n C (pc := 0) rfl rfl dX6_isWithin_0 ?_
  refine r_iload_n C (pc := 1) rfl rfl dX6_isWithin_1 ?_
  refine r_icmp_lt C (pc := 2) (tgt := 14) dX6_isWithin_2 (by decide) (fun c_2 => ?_) (fun c_2 => ?_)
  · refine r_iconst C (pc := 14) (x := (nI 0)) (by decide) dX6_isWithin_14 ?_
    exact r_iret C (pc := 15) rfl (rfl) dX6_isWithin_15 ⟨rfl, rfl, by
    have h : ¬ (lo ≤ x ∧ x ≤ hi) := fun z => absurd z.1 (by have := c_2; exact Int32.not_le.mpr this)
    rw [decide_eq_false h]; rfl, rfl⟩
  · refine r_iload_n C (pc := 5) rfl rfl dX6_isWithin_5 ?_
    refine r_iload_n C (pc := 6) rfl rfl dX6_isWithin_6 ?_
    refine r_icmp_gt C (pc := 7) (tgt := 14) dX6_isWithin_7 (by decide) (fun c_7 => ?_) (fun c_7 => ?_)
    · refine r_iconst C (pc := 14) (x := (nI 0)) (by decide) dX6_isWithin_14 ?_
      exact r_iret C (pc := 15) rfl (rfl) dX6_isWithin_15 ⟨rfl, rfl, by
    have h : ¬ (lo ≤ x ∧ x ≤ hi) := fun z => absurd z.2 (by have := c_7; exact Int32.not_le.mpr this)
    rw [decide_eq_false h]; rfl, rfl⟩
    · refine r_iconst C (pc := 10) (x := (nI 1)) (by decide) dX6_isWithin_10 ?_
      refine r_goto C (pc := 11) (tgt := 15) dX6_isWithin_11 (by decide) ?_
      exact r_iret C (pc := 15) rfl (rfl) dX6_isWithin_15 ⟨rfl, rfl, by
    have h : lo ≤ x ∧ x ≤ hi := ⟨Int32.not_lt.mp c_2, Int32.not_lt.mp c_7⟩
    rw [decide_eq_true h]; rfl, rfl⟩
set_option maxRecDepth 100000 in
set_option maxHeartbeats 4000000 in
theorem m_X7_isIn (l : Launch) (G : zG) (sh : zH) (v : zV) (N : Nat) {x lo hi : Int32}  : zm l G yX7_isIn cX7_isIn 3 (some .boolean) 0 [.int x, .int lo, .int hi] sh v N (fun r v1 => r = some (.int (zb (decide (lo ≤ x ∧ x ≤ hi)))) ∧ v1 = v) := by
  refine zM.of (by decide) rfl (Nat.le_of_ble_eq_true rfl) ?_
  intro p e s m args below meth c C
  refine r_iload_n C (pc := 0) rfl rfl dX7_isIn_0 ?_
  refine r_iload_n C (pc := 1) rfl rfl dX7_isIn_1 ?_
  refine r_icmp_lt C (pc := 2) (tgt := 14) dX7_isIn_2 (by decide) (fun c_2 => ?_) (fun c_2 => ?_)
  · refine r_iconst C (pc := 14) (x := (nI 0)) (by decide) dX7_isIn_14 ?_
    exact r_iret C (pc := 15) rfl (rfl) dX7_isIn_15 ⟨rfl, rfl, by
    have h : ¬ (lo ≤ x ∧ x ≤ hi) := fun z => absurd z.1 (by have := c_2; exact Int32.not_le.mpr this)
    rw [decide_eq_false h]; rfl, rfl⟩
  · refine r_iload_n C (pc := 5) rfl rfl dX7_isIn_5 ?_
    refine r_iload_n C (pc := 6) rfl rfl dX7_isIn_6 ?_
    refine r_icmp_gt C (pc := 7) (tgt := 14) dX7_isIn_7 (by decide) (fun c_7 => ?_) (fun c_7 => ?_)
    · refine r_iconst C (pc := 14) (x := (nI 0)) (by decide) dX7_isIn_14 ?_
      exact r_iret C (pc := 15) rfl (rfl) dX7_isIn_15 ⟨rfl, rfl, by
    have h : ¬ (lo ≤ x ∧ x ≤ hi) := fun z => absurd z.2 (by have := c_7; exact Int32.not_le.mpr this)
    rw [decide_eq_false h]; rfl, rfl⟩
    · refine r_iconst C (pc := 10) (x := (nI 1)) (by decide) dX7_isIn_10 ?_
      refine r_goto C (pc := 11) (tgt := 15) dX7_isIn_11 (by decide) ?_
      exact r_iret C (pc := 15) rfl (rfl) dX7_isIn_15 ⟨rfl, rfl, by
    have h : lo ≤ x ∧ x ≤ hi := ⟨Int32.not_lt.mp c_2, Int32.not_lt.mp c_7⟩
    rw [decide_eq_true h]; rfl, rfl⟩
end
section
set_option maxRecDepth 100000 in
set_option maxHeartbeats 4000000 in
theorem m_X1_at (l : Launch) (G : zG) (sh : zH) (v : zV) (N : Nat) {a cap : Nat} {ps : List Nat} {j : Nat} (hp : zPL G sh N a cap) (hv : zpl v a cap ps) (hj : j < 2 ^ 31) : zm l G yX1_at cX1_at 2 (some .int) 0 [.ref a, .int (nI j)] sh v N (fun r v1 => r = some (.int (nI (ps.getD j 0))) ∧ v1 = v) := by
  refine zM.of (by decide) rfl (Nat.le_of_ble_eq_true rfl) ?_
  intro p e s m args below meth c C
  obtain ⟨hB, hN, hcap, hs0, hs1⟩ := hp
  obtain ⟨h1, h2, h3⟩ := id hv
  have hd0 : G.2.2.1 ≤ a ∧ a < N := ⟨hB, by omega⟩
  have hd1 : G.2.2.1 ≤ a + 1 ∧ a + 1 < N := ⟨by omega, hN⟩
  refine r_iload_n C (pc := 0) rfl rfl dX1_at_0 ?_
  refine n_if_lt C (pc := 1) (by omega) dX1_at_1 ?_
  refine r_iload_n C (pc := 4) rfl rfl dX1_at_4 ?_
  refine r_aload_n C (pc := 5) rfl rfl dX1_at_5 ?_
  refine r_get C (pc := 6) (ci := 1) (k := 1) (w := .int (nI ps.length)) rfl (by decide) inX1 (by decide) q_155 (Or.inl hd0) hs0 (zl_i (h1)) dX1_at_6 ?_
  refine n_icmp_ge C (pc := 9) (tgt := 30) (by omega) (by omega) dX1_at_9 (by decide) (fun c_9 => ?_) (fun c_9 => ?_)
  · refine r_iconst C (pc := 30) (x := (nI 0)) (by decide) dX1_at_30 ?_
    exact r_iret C (pc := 31) rfl (rfl) dX1_at_31 ⟨rfl, rfl, by rw [gd_ge c_9], rfl⟩
  · refine r_iload_n C (pc := 12) rfl rfl dX1_at_12 ?_
    refine r_aload_n C (pc := 13) rfl rfl dX1_at_13 ?_
    refine r_get C (pc := 14) (ci := 1) (k := 0) (w := .ref (a + 1)) rfl (by decide) inX1 (by decide) q_154 (Or.inl hd0) hs0 (zl_ref _ _) dX1_at_14 ?_
    refine r_alen C (pc := 17) (x := nI cap) (Or.inl hd1) hs1 (by decide) rfl rfl dX1_at_17 ?_
    refine n_icmp_ge C (pc := 18) (tgt := 30) (by omega) (by omega) dX1_at_18 (by decide) (fun c_18 => by exfalso; omega) (fun c_18 => ?_)
    refine r_aload_n C (pc := 21) rfl rfl dX1_at_21 ?_
    refine r_get C (pc := 22) (ci := 1) (k := 0) (w := .ref (a + 1)) rfl (by decide) inX1 (by decide) q_154 (Or.inl hd0) hs0 (zl_ref _ _) dX1_at_22 ?_
    refine r_iload_n C (pc := 25) rfl rfl dX1_at_25 ?_
    refine r_iald C (pc := 26) (x := (nI (ps.getD j 0))) (Or.inl hd1) hs1 (by omega) (by omega) (h3 j c_9) dX1_at_26 ?_
    refine r_goto C (pc := 27) (tgt := 31) dX1_at_27 (by decide) ?_
    exact r_iret C (pc := 31) rfl (rfl) dX1_at_31 ⟨rfl, rfl, rfl, rfl⟩
set_option maxRecDepth 100000 in
set_option maxHeartbeats 4000000 in
theorem m_X1_append (l : Launch) (G : zG) (sh : zH) (v : zV) (N : Nat) {a cap : Nat} {ps : List Nat} {q : Nat} (hp : zPL G sh N a cap) (hv : zpl v a cap ps) (hl : ps.length < cap) : zm l G yX1_append cX1_append 2 none 0 [.ref a, .int (nI q)] sh v N (fun r v1 => r = none ∧ zpl v1 a cap (ps ++ [q]) ∧ zfr v v1 a 2) := by
  refine zM.of (by decide) rfl (Nat.le_of_ble_eq_true rfl) ?_
  intro p e s m args below meth c C
  obtain ⟨hB, hN, hcap, hs0, hs1⟩ := hp
  obtain ⟨h1, h2, h3⟩ := id hv
  have hd0 : G.2.2.1 ≤ a ∧ a < N := ⟨hB, by omega⟩
  have hd1 : G.2.2.1 ≤ a + 1 ∧ a + 1 < N := ⟨by omega, hN⟩
  refine r_aload_n C (pc := 0) rfl rfl dX1_append_0 ?_
  refine r_get C (pc := 1) (ci := 1) (k := 1) (w := .int (nI ps.length)) rfl (by decide) inX1 (by decide) q_155 (Or.inl hd0) hs0 (zl_i (h1)) dX1_append_1 ?_
  refine n_if_lt C (pc := 4) (by omega) dX1_append_4 ?_
  refine r_aload_n C (pc := 7) rfl rfl dX1_append_7 ?_
  refine r_get C (pc := 8) (ci := 1) (k := 1) (w := .int (nI ps.length)) rfl (by decide) inX1 (by decide) q_155 (Or.inl hd0) hs0 (zl_i (h1)) dX1_append_8 ?_
  refine r_aload_n C (pc := 11) rfl rfl dX1_append_11 ?_
  refine r_get C (pc := 12) (ci := 1) (k := 0) (w := .ref (a + 1)) rfl (by decide) inX1 (by decide) q_154 (Or.inl hd0) hs0 (zl_ref _ _) dX1_append_12 ?_
  refine r_alen C (pc := 15) (x := nI cap) (Or.inl hd1) hs1 (by decide) rfl rfl dX1_append_15 ?_
  refine n_icmp_ge C (pc := 16) (tgt := 39) (by omega) (by omega) dX1_append_16 (by decide) (fun c_16 => by exfalso; omega) (fun c_16 => ?_)
  refine r_aload_n C (pc := 19) rfl rfl dX1_append_19 ?_
  refine r_get C (pc := 20) (ci := 1) (k := 0) (w := .ref (a + 1)) rfl (by decide) inX1 (by decide) q_154 (Or.inl hd0) hs0 (zl_ref _ _) dX1_append_20 ?_
  refine r_aload_n C (pc := 23) rfl rfl dX1_append_23 ?_
  refine r_get C (pc := 24) (ci := 1) (k := 1) (w := .int (nI ps.length)) rfl (by decide) inX1 (by decide) q_155 (Or.inl hd0) hs0 (zl_i (h1)) dX1_append_24 ?_
  refine r_iload_n C (pc := 27) rfl rfl dX1_append_27 ?_
  refine r_iast C (pc := 28) hd1 hs1 (by omega) (by omega) dX1_append_28 ?_
  refine VV.gn (fun w28 ew28 => ?_)
  refine r_aload_n C (pc := 29) rfl rfl dX1_append_29 ?_
  refine r_dup C (pc := 30) rfl dX1_append_30 ?_
  refine r_get C (pc := 31) (ci := 1) (k := 1) (w := .int (nI ps.length)) rfl (by decide) inX1 (by decide) q_155 (Or.inl hd0) hs0 (zl_i (by rw [ew28, z2_ne (by omega)]; exact h1)) dX1_append_31 ?_
  refine r_iconst C (pc := 34) (x := (nI 1)) (by decide) dX1_append_34 ?_
  refine r_iadd C (pc := 35) (z := (nI (ps.length + 1))) (nI_add _ _) dX1_append_35 ?_
  refine r_put C (pc := 36) (ci := 1) (k := 1) rfl (by decide) inX1 tyX1_ok nmX1 (by decide) rfl pfI rfl q_155 hd0 hs0 dX1_append_36 ?_
  refine VV.gn (fun w36 ew36 => ?_)
  exact r_vret C (pc := 39) rfl dX1_append_39 ⟨rfl, rfl, rfl, by subst ew36; subst ew28; exact pl_app hv hl, by subst ew36; subst ew28; exact (zfr.rf.z2 (by omega) (by omega)).z2 (by omega) (by omega)⟩
set_option maxRecDepth 100000 in
set_option maxHeartbeats 4000000 in
theorem m_X1_removeAt (l : Launch) (G : zG) (sh : zH) (v : zV) (N : Nat) {a cap : Nat} {ps : List Nat} {k : Nat} (hp : zPL G sh N a cap) (hv : zpl v a cap ps) (hk : k < ps.length) : zm l G yX1_removeAt cX1_removeAt 4 (some .int) 0 [.ref a, .int (nI k)] sh v N (fun r v1 => r = some (.int (nI (ps.getD k 0))) ∧ zpl v1 a cap (ps.eraseIdx k) ∧ zfr v v1 a 2) := by
  refine zM.of (by decide) rfl (Nat.le_of_ble_eq_true rfl) ?_
  intro p e s m args below meth c C
  obtain ⟨hB, hN, hcap, hs0, hs1⟩ := hp
  obtain ⟨h1, h2, h3⟩ := id hv
  have hd0 : G.2.2.1 ≤ a ∧ a < N := ⟨hB, by omega⟩
  have hd1 : G.2.2.1 ≤ a + 1 ∧ a + 1 < N := ⟨by omega, hN⟩
  have loop : ∀ (n i : Nat) (v' : zV), ps.length - i < n → k < i → i ≤ ps.length → v' a 1 = nI ps.length → (∀ j, j < ps.length → v' (a + 1) j = nI (if k ≤ j ∧ j + 1 < i then ps.getD (j + 1) 0 else ps.getD j 0)) → zfr v v' a 2 → VV p l e ({ frames := 0, cells := 0, slots := 0, locals := 32 * 0 }) s m args below meth c 0 0 (zQ below (fun r sh1 v1 N1 => sh1 = sh ∧ N1 = N ∧ (r = some (.int (nI (ps.getD k 0))) ∧ zpl v1 a cap (ps.eraseIdx k) ∧ zfr v v1 a 2)) G args s 0 0) G 4 sh v' N 34 [some (.ref a), some (.int (nI k)), some (.int (nI (ps.getD k 0))), some (.int (nI i))] [] := by
    intro n
    induction n with
    | zero => intro i v' hm; omega
    | succ n ih =>
      intro i v' hm hki hil e1 e2 e3
      refine r_iload_n C (pc := 34) rfl rfl dX1_removeAt_34 ?_
      refine r_aload_n C (pc := 35) rfl rfl dX1_removeAt_35 ?_
      refine r_get C (pc := 36) (ci := 1) (k := 1) (w := .int (nI ps.length)) rfl (by decide) inX1 (by decide) q_155 (Or.inl hd0) hs0 (zl_i (e1)) dX1_removeAt_36 ?_
      refine n_icmp_ge C (pc := 39) (tgt := 71) (by omega) (by omega) dX1_removeAt_39 (by decide) (fun c_39 => ?_) (fun c_39 => ?_)
      · refine r_aload_n C (pc := 71) rfl rfl dX1_removeAt_71 ?_
        refine r_dup C (pc := 72) rfl dX1_removeAt_72 ?_
        refine r_get C (pc := 73) (ci := 1) (k := 1) (w := .int (nI ps.length)) rfl (by decide) inX1 (by decide) q_155 (Or.inl hd0) hs0 (zl_i (e1)) dX1_removeAt_73 ?_
        refine r_iconst C (pc := 76) (x := (nI 1)) (by decide) dX1_removeAt_76 ?_
        refine r_isub C (pc := 77) (z := (nI (ps.length - 1))) (pk_sub (by omega)) dX1_removeAt_77 ?_
        refine r_put C (pc := 78) (ci := 1) (k := 1) rfl (by decide) inX1 tyX1_ok nmX1 (by decide) rfl pfI rfl q_155 hd0 hs0 dX1_removeAt_78 ?_
        refine VV.gn (fun w78 ew78 => ?_)
        refine r_iload_n C (pc := 81) rfl rfl dX1_removeAt_81 ?_
        exact r_iret C (pc := 82) rfl (rfl) dX1_removeAt_82 ⟨rfl, rfl, rfl, ⟨by rw [ew78, z2_self, List.length_eraseIdx_of_lt hk], by rw [List.length_eraseIdx_of_lt hk]; omega, fun j hj => by
      rw [List.length_eraseIdx_of_lt hk] at hj
      rw [ew78, z2_addr (by omega), e2 j (by omega), gd_erase]
      by_cases hjk : j < k
      · rw [if_pos hjk, if_neg (by omega)]
      · rw [if_neg hjk, if_pos ⟨by omega, by omega⟩]⟩, by rw [ew78]; exact e3.z2 (by omega) (by omega)⟩
      · refine r_iload_n C (pc := 42) rfl rfl dX1_removeAt_42 ?_
        refine r_aload_n C (pc := 43) rfl rfl dX1_removeAt_43 ?_
        refine r_get C (pc := 44) (ci := 1) (k := 0) (w := .ref (a + 1)) rfl (by decide) inX1 (by decide) q_154 (Or.inl hd0) hs0 (zl_ref _ _) dX1_removeAt_44 ?_
        refine r_alen C (pc := 47) (x := nI cap) (Or.inl hd1) hs1 (by decide) rfl rfl dX1_removeAt_47 ?_
        refine n_icmp_ge C (pc := 48) (tgt := 71) (by omega) (by omega) dX1_removeAt_48 (by decide) (fun c_48 => by exfalso; omega) (fun c_48 => ?_)
        refine r_aload_n C (pc := 51) rfl rfl dX1_removeAt_51 ?_
        refine r_get C (pc := 52) (ci := 1) (k := 0) (w := .ref (a + 1)) rfl (by decide) inX1 (by decide) q_154 (Or.inl hd0) hs0 (zl_ref _ _) dX1_removeAt_52 ?_
        refine r_iload_n C (pc := 55) rfl rfl dX1_removeAt_55 ?_
        refine r_iconst C (pc := 56) (x := (nI 1)) (by decide) dX1_removeAt_56 ?_
        refine r_isub C (pc := 57) (z := (nI (i - 1))) (pk_sub (by omega)) dX1_removeAt_57 ?_
        refine r_aload_n C (pc := 58) rfl rfl dX1_removeAt_58 ?_
        refine r_get C (pc := 59) (ci := 1) (k := 0) (w := .ref (a + 1)) rfl (by decide) inX1 (by decide) q_154 (Or.inl hd0) hs0 (zl_ref _ _) dX1_removeAt_59 ?_
        refine r_iload_n C (pc := 62) rfl rfl dX1_removeAt_62 ?_
        refine r_iald C (pc := 63) (x := (nI (ps.getD i 0))) (Or.inl hd1) hs1 (by omega) (by omega) (by rw [e2 i c_39, if_neg (by omega)]) dX1_removeAt_63 ?_
        refine r_iast C (pc := 64) hd1 hs1 (by omega) (by omega) dX1_removeAt_64 ?_
        refine VV.gn (fun w64 ew64 => ?_)
        refine r_iinc C (pc := 65) (lv2 := [some (.ref a), some (.int (nI k)), some (.int (nI (ps.getD k 0))), some (.int (nI (i + 1)))]) (y := (nI (i + 1))) rfl (nI_inc _ _) (Nat.le_of_ble_eq_true rfl) rfl rfl dX1_removeAt_65 ?_
        refine r_goto C (pc := 68) (tgt := 34) dX1_removeAt_68 (by decide) ?_
        exact ih (i + 1) w64 (by omega) (by omega) (by omega) (by rw [ew64, z2_ne (by omega)]; exact e1) (fun j hj => by
          rw [ew64]
          by_cases hji : j = i - 1
          · subst hji
            rw [z2_self, if_pos ⟨by omega, by omega⟩, show i - 1 + 1 = i by omega]
          · rw [z2_ne (by omega), e2 j hj]
            by_cases hc : k ≤ j ∧ j + 1 < i
            · rw [if_pos hc, if_pos ⟨hc.1, by omega⟩]
            · rw [if_neg hc, if_neg (by omega)]) (by rw [ew64]; exact e3.z2 (by omega) (by omega))
  refine r_iload_n C (pc := 0) rfl rfl dX1_removeAt_0 ?_
  refine n_if_lt C (pc := 1) (by omega) dX1_removeAt_1 ?_
  refine r_iload_n C (pc := 4) rfl rfl dX1_removeAt_4 ?_
  refine r_aload_n C (pc := 5) rfl rfl dX1_removeAt_5 ?_
  refine r_get C (pc := 6) (ci := 1) (k := 1) (w := .int (nI ps.length)) rfl (by decide) inX1 (by decide) q_155 (Or.inl hd0) hs0 (zl_i (h1)) dX1_removeAt_6 ?_
  refine n_icmp_ge C (pc := 9) (tgt := 21) (by omega) (by omega) dX1_removeAt_9 (by decide) (fun c_9 => by exfalso; omega) (fun c_9 => ?_)
  refine r_iload_n C (pc := 12) rfl rfl dX1_removeAt_12 ?_
  refine r_aload_n C (pc := 13) rfl rfl dX1_removeAt_13 ?_
  refine r_get C (pc := 14) (ci := 1) (k := 0) (w := .ref (a + 1)) rfl (by decide) inX1 (by decide) q_154 (Or.inl hd0) hs0 (zl_ref _ _) dX1_removeAt_14 ?_
  refine r_alen C (pc := 17) (x := nI cap) (Or.inl hd1) hs1 (by decide) rfl rfl dX1_removeAt_17 ?_
  refine n_icmp_lt C (pc := 18) (tgt := 23) (by omega) (by omega) dX1_removeAt_18 (by decide) (fun c_18 => ?_) (fun c_18 => by exfalso; omega)
  refine r_aload_n C (pc := 23) rfl rfl dX1_removeAt_23 ?_
  refine r_get C (pc := 24) (ci := 1) (k := 0) (w := .ref (a + 1)) rfl (by decide) inX1 (by decide) q_154 (Or.inl hd0) hs0 (zl_ref _ _) dX1_removeAt_24 ?_
  refine r_iload_n C (pc := 27) rfl rfl dX1_removeAt_27 ?_
  refine r_iald C (pc := 28) (x := (nI (ps.getD k 0))) (Or.inl hd1) hs1 (by omega) (by omega) (h3 k hk) dX1_removeAt_28 ?_
  refine r_istore_n C (pc := 29) (lv2 := [some (.ref a), some (.int (nI k)), some (.int (nI (ps.getD k 0))), none]) rfl (Nat.le_of_ble_eq_true rfl) rfl rfl dX1_removeAt_29 ?_
  refine r_iload_n C (pc := 30) rfl rfl dX1_removeAt_30 ?_
  refine r_iconst C (pc := 31) (x := (nI 1)) (by decide) dX1_removeAt_31 ?_
  refine r_iadd C (pc := 32) (z := (nI (k + 1))) (nI_add _ _) dX1_removeAt_32 ?_
  refine r_istore_n C (pc := 33) (lv2 := [some (.ref a), some (.int (nI k)), some (.int (nI (ps.getD k 0))), some (.int (nI (k + 1)))]) rfl (Nat.le_of_ble_eq_true rfl) rfl rfl dX1_removeAt_33 ?_
  exact loop (ps.length + 1) (k + 1) v (by omega) (by omega) (by omega) h1 (fun j hj => by rw [if_neg (by omega)]; exact h3 j hj) zfr.rf
end
section
theorem nI_decp {e : Nat} (h : 0 < e) : nI e + Int32.ofInt (-1) = nI (e - 1) := by
  obtain ⟨f, rfl⟩ : ∃ f, e = f + 1 := ⟨e - 1, by omega⟩
  exact nI_dec f
theorem sub_le0 {x y : Nat} (h : x ≤ y) (hy : y < 2 ^ 30) : nI x - nI y ≤ 0 := by
  rw [Int32.le_iff_toInt_le, pk_sub_toInt (by omega) hy]
  show (x : Int) - y ≤ 0
  omega
theorem m1_lt {n : Nat} (h : n < 2 ^ 31) : ¬ nI n ≤ (-1) := by
  rw [Int32.le_iff_toInt_le, nI_toInt h]
  show ¬ ((n : Int) ≤ -1)
  omega
theorem xor20 {x y : Nat} (hx : x < 2 ^ 20) (hy : y < 2 ^ 20) : x ^^^ y < 2 ^ 20 := Nat.xor_lt_two_pow hx hy
theorem drop_tail (ps : List Nat) (d : Nat) : (ps.drop d).eraseIdx 0 = ps.drop (d + 1) := by simp
theorem take_s {ps : List Nat} {i : Nat} (h : i < ps.length) : ps.take (i + 1) = ps.take i ++ [ps.getD i 0] := by
  rw [List.take_add_one]
  simp [List.getD, List.getElem?_eq_getElem h]
def tk1 (s q : Nat) : Nat := if (q / 256) &&& (s / 256) = 0 then q else q ^^^ s
def tko (s : Nat) (ps : List Nat) : List Nat := (ps.map (tk1 s)).filter (fun q => decide (q / 256 ≠ 0))
theorem tko_s {s : Nat} {ps : List Nat} {i : Nat} (h : i < ps.length) : tko s (ps.take (i + 1)) = tko s (ps.take i) ++ (if tk1 s (ps.getD i 0) / 256 = 0 then [] else [tk1 s (ps.getD i 0)]) := by
  rw [take_s h]
  simp only [tko, List.map_append, List.filter_append, List.map_cons, List.map_nil]
  by_cases h0 : tk1 s (ps.getD i 0) / 256 = 0
  · rw [if_pos h0, List.filter_cons_of_neg (by rw [h0]; decide), List.filter_nil]
  · rw [if_neg h0, List.filter_cons_of_pos (by exact decide_eq_true h0), List.filter_nil]
theorem tko_skip {s : Nat} {ps out : List Nat} {i q1 : Nat} (h : i < ps.length) (ho : tko s (ps.take i) = out) (hq : tk1 s (ps.getD i 0) = q1) (h0 : q1 / 256 = 0) : tko s (ps.take (i + 1)) = out := by
  rw [tko_s h, hq, if_pos h0, List.append_nil]; exact ho
theorem tko_put {s : Nat} {ps out : List Nat} {i q1 : Nat} (h : i < ps.length) (ho : tko s (ps.take i) = out) (hq : tk1 s (ps.getD i 0) = q1) (h0 : 0 < q1 / 256) : tko s (ps.take (i + 1)) = out ++ [q1] := by
  rw [tko_s h, hq, if_neg (by omega), ho]
theorem tk1_0 {s q : Nat} (h : (q / 256) &&& (s / 256) = 0) : tk1 s q = q := if_pos h
theorem tk1_1 {s q : Nat} (h : 0 < (q / 256) &&& (s / 256)) : tk1 s q = q ^^^ s := if_neg (by omega)
def rfs : List Nat → Nat
  | [] => 0
  | q :: t => if pop (q / 256) = 1 then 0 else rfs t + 1
theorem rfs_at : ∀ (ps : List Nat) (i : Nat), (∀ j, j < i → pop (ps.getD j 0 / 256) ≠ 1) → i < ps.length → pop (ps.getD i 0 / 256) = 1 → rfs ps = i
  | [], i, _, h, _ => by simp at h
  | q :: t, 0, _, _, h => if_pos h
  | q :: t, i + 1, h1, h2, h3 => by
    have h0 : ¬ pop (q / 256) = 1 := h1 0 (by omega)
    show (if _ then 0 else _) = _
    rw [if_neg h0, rfs_at t i (fun j hj => h1 (j + 1) (by omega)) (by simpa using h2) h3]
theorem rfs_end : ∀ (ps : List Nat), (∀ j, j < ps.length → pop (ps.getD j 0 / 256) ≠ 1) → rfs ps = ps.length
  | [], _ => rfl
  | q :: t, h1 => by
    have h0 : ¬ pop (q / 256) = 1 := h1 0 (by simp)
    show (if _ then 0 else _) = _
    rw [if_neg h0, rfs_end t (fun j hj => h1 (j + 1) (by simpa using hj))]
    rfl
def mcb (c : Nat → Nat) : Nat → Nat
  | 0 => 0
  | n + 1 => if c (mcb c n) < c n then n else mcb c n
def mcc (q : Nat) (ps : List Nat) (i : Nat) : Nat := pop ((q / 256) &&& (ps.getD i 0 / 256))
theorem mcc_le (q : Nat) (ps : List Nat) (i : Nat) : mcc q ps i ≤ 12 := pop_le _
theorem mcb_lt (c : Nat → Nat) : ∀ n, 0 < n → mcb c n < n
  | 1, _ => by
    show (if _ then 0 else 0) < 1
    split <;> decide
  | n + 2, _ => by
    have := mcb_lt c (n + 1) (by omega)
    show (if _ then n + 1 else _) < n + 2
    split
    · exact Nat.lt_succ_self _
    · omega
theorem gd_mem {ps : List Nat} {P : Nat → Prop} {i : Nat} (h : ∀ q ∈ ps, P q) (hi : i < ps.length) : P (ps.getD i 0) := by
  rw [show ps.getD i 0 = ps[i] by simp [List.getD, hi]]
  exact h _ (List.getElem_mem hi)
theorem gd_lt20 {ps : List Nat} {i : Nat} (h : ∀ q ∈ ps, q < 2 ^ 20) : ps.getD i 0 < 2 ^ 20 := by
  rcases Nat.lt_or_ge i ps.length with hi | hi
  · exact gd_mem h hi
  · rw [gd_ge hi]; decide
set_option maxRecDepth 100000 in
set_option maxHeartbeats 4000000 in
theorem m_X1_removeFrontsBeyond (l : Launch) (G : zG) (sh : zH) (v : zV) (N : Nat) {a cap : Nat} {ps : List Nat} {b : Nat} (hp : zPL G sh N a cap) (hv : zpl v a cap ps) (hb : b < 2 ^ 30) : zm l G yX1_removeFrontsBeyond cX1_removeFrontsBeyond 3 none 1 [.ref a, .int (nI b)] sh v N (fun r v1 => r = none ∧ zpl v1 a cap (ps.drop (ps.length - b)) ∧ zfr v v1 a 2) := by
  refine zM.of (by decide) rfl (Nat.le_of_ble_eq_true rfl) ?_
  intro p e s m args below meth c C
  obtain ⟨hB, hN, hcap, hs0, hs1⟩ := id hp
  obtain ⟨h1, h2, h3⟩ := id hv
  have hd0 : G.2.2.1 ≤ a ∧ a < N := ⟨hB, by omega⟩
  have hd1 : G.2.2.1 ≤ a + 1 ∧ a + 1 < N := ⟨by omega, hN⟩
  have loop : ∀ (n e_ : Nat) (v' : zV), e_ < n → e_ ≤ ps.length - b → zpl v' a cap (ps.drop (ps.length - b - e_)) → zfr v v' a 2 → VV p l e ({ frames := 1, cells := 0, slots := 0, locals := 32 * 1 }) s m args below meth c 0 0 (zQ below (fun r sh1 v1 N1 => sh1 = sh ∧ N1 = N ∧ (r = none ∧ zpl v1 a cap (ps.drop (ps.length - b)) ∧ zfr v v1 a 2)) G args s 0 0) G 3 sh v' N 7 [some (.ref a), some (.int (nI b)), some (.int (nI e_))] [] := by
    intro n
    induction n with
    | zero => intro e_ v' hm; omega
    | succ n ih =>
      intro e v' hm he e1 e3
      refine r_iload_n C (pc := 7) rfl rfl dX1_removeFrontsBeyond_7 ?_
      refine n_if_le C (pc := 8) (tgt := 23) (by omega) dX1_removeFrontsBeyond_8 (by decide) (fun c_8 => ?_) (fun c_8 => ?_)
      · exact r_vret C (pc := 23) rfl dX1_removeFrontsBeyond_23 ⟨rfl, rfl, rfl, by rw [c_8, Nat.sub_zero] at e1; exact e1, e3⟩
      · refine r_aload_n C (pc := 11) rfl rfl dX1_removeFrontsBeyond_11 ?_
        refine r_iconst C (pc := 12) (x := (nI 0)) (by decide) dX1_removeFrontsBeyond_12 ?_
        refine r_callV C (pc := 13) (st := []) (m_X1_removeAt l G sh v' N (ps := (ps.drop (ps.length - b - e))) (k := 0) hp e1 (by simp; omega)) kyX1_removeAt q_394 rfl (Or.inl hd0) hs0 (by decide) rfl rfl rfl (Nat.le_of_ble_eq_true rfl) ⟨Nat.le_of_ble_eq_true rfl, Nat.le_of_ble_eq_true rfl⟩ ⟨Nat.le_of_ble_eq_true rfl, Nat.le_of_ble_eq_true rfl⟩ dX1_removeFrontsBeyond_13 (fun r13 v13 hp13 => ?_)
        obtain ⟨rfl, g1, g2⟩ := hp13
        refine VV.eq (st2 := [.int (nI ((ps.drop (ps.length - b - e)).getD 0 0))]) rfl ?_
        refine r_pop C (pc := 16) rfl dX1_removeFrontsBeyond_16 ?_
        refine r_iinc C (pc := 17) (lv2 := [some (.ref a), some (.int (nI b)), some (.int (nI (e - 1)))]) (y := (nI (e - 1))) rfl (nI_decp c_8) (Nat.le_of_ble_eq_true rfl) rfl rfl dX1_removeFrontsBeyond_17 ?_
        refine r_goto C (pc := 20) (tgt := 7) dX1_removeFrontsBeyond_20 (by decide) ?_
        exact ih (e - 1) v13 (by omega) (by omega) (by rw [show ps.length - b - (e - 1) = ps.length - b - e + 1 by omega, ← drop_tail]; exact g1) (e3.tr g2)
  rcases Nat.lt_or_ge b ps.length with hb2 | hb2
  · refine r_aload_n C (pc := 0) rfl rfl dX1_removeFrontsBeyond_0 ?_
    refine r_get C (pc := 1) (ci := 1) (k := 1) (w := .int (nI ps.length)) rfl (by decide) inX1 (by decide) q_155 (Or.inl hd0) hs0 (zl_i (h1)) dX1_removeFrontsBeyond_1 ?_
    refine r_iload_n C (pc := 4) rfl rfl dX1_removeFrontsBeyond_4 ?_
    refine r_isub C (pc := 5) (z := (nI (ps.length - b))) (pk_sub (by omega)) dX1_removeFrontsBeyond_5 ?_
    refine r_istore_n C (pc := 6) (lv2 := [some (.ref a), some (.int (nI b)), some (.int (nI (ps.length - b)))]) rfl (Nat.le_of_ble_eq_true rfl) rfl rfl dX1_removeFrontsBeyond_6 ?_
    exact loop (ps.length - b + 1) (ps.length - b) v (by omega) (by omega) (by rw [show ps.length - b - (ps.length - b) = 0 by omega, List.drop_zero]; exact hv) zfr.rf
  · refine r_aload_n C (pc := 0) rfl rfl dX1_removeFrontsBeyond_0 ?_
    refine r_get C (pc := 1) (ci := 1) (k := 1) (w := .int (nI ps.length)) rfl (by decide) inX1 (by decide) q_155 (Or.inl hd0) hs0 (zl_i (h1)) dX1_removeFrontsBeyond_1 ?_
    refine r_iload_n C (pc := 4) rfl rfl dX1_removeFrontsBeyond_4 ?_
    refine r_isub C (pc := 5) (z := (nI ps.length - nI b)) (rfl) dX1_removeFrontsBeyond_5 ?_
    refine r_istore_n C (pc := 6) (lv2 := [some (.ref a), some (.int (nI b)), some (.int (nI ps.length - nI b))]) rfl (Nat.le_of_ble_eq_true rfl) rfl rfl dX1_removeFrontsBeyond_6 ?_
    refine r_iload_n C (pc := 7) rfl rfl dX1_removeFrontsBeyond_7 ?_
    refine r_if_le C (pc := 8) (tgt := 23) dX1_removeFrontsBeyond_8 (by decide) (fun c_8 => ?_) (fun c_8 => by exfalso; exact c_8 (sub_le0 hb2 hb))
    exact r_vret C (pc := 23) rfl dX1_removeFrontsBeyond_23 ⟨rfl, rfl, rfl, by rw [show ps.length - b = 0 by omega, List.drop_zero]; exact hv, zfr.rf⟩
set_option maxRecDepth 100000 in
set_option maxHeartbeats 4000000 in
theorem m_X1_takeOut (l : Launch) (G : zG) (sh : zH) (v : zV) (N : Nat) {a cap : Nat} {ps : List Nat} {q0 : Nat} (hp : zPL G sh N a cap) (hv : zpl v a cap ps) (hq0 : q0 < 2 ^ 20) (hps : ∀ q ∈ ps, q < 2 ^ 20) : zm l G yX1_takeOut cX1_takeOut 5 none 1 [.ref a, .int (nI q0)] sh v N (fun r v1 => r = none ∧ zpl v1 a cap (tko q0 ps) ∧ zfr v v1 a 2) := by
  refine zM.of (by decide) rfl (Nat.le_of_ble_eq_true rfl) ?_
  intro p e s m args below meth c C
  obtain ⟨hB, hN, hcap, hs0, hs1⟩ := id hp
  obtain ⟨h1, h2, h3⟩ := id hv
  have hd0 : G.2.2.1 ≤ a ∧ a < N := ⟨hB, by omega⟩
  have hd1 : G.2.2.1 ≤ a + 1 ∧ a + 1 < N := ⟨by omega, hN⟩
  have loop : ∀ (n i : Nat) (out : List Nat) (v' : zV), ps.length - i < n → tko q0 (ps.take i) = out → out.length ≤ i → i ≤ ps.length → v' a 1 = nI ps.length → (∀ j, j < out.length → v' (a + 1) j = nI (out.getD j 0)) → (∀ j, i ≤ j → j < ps.length → v' (a + 1) j = nI (ps.getD j 0)) → zfr v v' a 2 → VV p l e ({ frames := 1, cells := 0, slots := 0, locals := 32 * 1 }) s m args below meth c 0 0 (zQ below (fun r sh1 v1 N1 => sh1 = sh ∧ N1 = N ∧ (r = none ∧ zpl v1 a cap (tko q0 ps) ∧ zfr v v1 a 2)) G args s 0 0) G 5 sh v' N 4 [some (.ref a), some (.int (nI q0)), some (.int (nI out.length)), some (.int (nI i)), none] [] := by
    intro n
    induction n with
    | zero => intro i out v' hm; omega
    | succ n ih =>
      intro i out v' hm ho hoi hil e1 e2 e3 e4
      refine r_iload_n C (pc := 4) rfl rfl dX1_takeOut_4 ?_
      refine r_aload_n C (pc := 5) rfl rfl dX1_takeOut_5 ?_
      refine r_get C (pc := 6) (ci := 1) (k := 1) (w := .int (nI ps.length)) rfl (by decide) inX1 (by decide) q_155 (Or.inl hd0) hs0 (zl_i (e1)) dX1_takeOut_6 ?_
      refine n_icmp_ge C (pc := 9) (tgt := 73) (by omega) (by omega) dX1_takeOut_9 (by decide) (fun c_9 => ?_) (fun c_9 => ?_)
      · refine r_aload_n C (pc := 73) rfl rfl dX1_takeOut_73 ?_
        refine r_iload_n C (pc := 74) rfl rfl dX1_takeOut_74 ?_
        refine r_put C (pc := 75) (ci := 1) (k := 1) rfl (by decide) inX1 tyX1_ok nmX1 (by decide) rfl pfI rfl q_155 hd0 hs0 dX1_takeOut_75 ?_
        refine VV.gn (fun w75 ew75 => ?_)
        exact r_vret C (pc := 78) rfl dX1_takeOut_78 ⟨rfl, rfl, rfl, ⟨by rw [ew75, z2_self, show tko q0 ps = out by rw [← ho, List.take_of_length_le c_9]], by rw [show tko q0 ps = out by rw [← ho, List.take_of_length_le c_9]]; omega, fun j hj => by
          rw [show tko q0 ps = out by rw [← ho, List.take_of_length_le c_9]] at hj ⊢
          rw [ew75, z2_addr (by omega)]; exact e2 j hj⟩, by rw [ew75]; exact e4.z2 (by omega) (by omega)⟩
      · refine r_iload_n C (pc := 12) rfl rfl dX1_takeOut_12 ?_
        refine r_aload_n C (pc := 13) rfl rfl dX1_takeOut_13 ?_
        refine r_get C (pc := 14) (ci := 1) (k := 0) (w := .ref (a + 1)) rfl (by decide) inX1 (by decide) q_154 (Or.inl hd0) hs0 (zl_ref _ _) dX1_takeOut_14 ?_
        refine r_alen C (pc := 17) (x := nI cap) (Or.inl hd1) hs1 (by decide) rfl rfl dX1_takeOut_17 ?_
        refine n_icmp_ge C (pc := 18) (tgt := 73) (by omega) (by omega) dX1_takeOut_18 (by decide) (fun c_18 => by exfalso; omega) (fun c_18 => ?_)
        have hqi : ps.getD i 0 < 2 ^ 20 := gd_lt20 hps
        refine r_aload_n C (pc := 21) rfl rfl dX1_takeOut_21 ?_
        refine r_get C (pc := 22) (ci := 1) (k := 0) (w := .ref (a + 1)) rfl (by decide) inX1 (by decide) q_154 (Or.inl hd0) hs0 (zl_ref _ _) dX1_takeOut_22 ?_
        refine r_iload_n C (pc := 25) rfl rfl dX1_takeOut_25 ?_
        refine r_iald C (pc := 26) (x := (nI (ps.getD i 0))) (Or.inl hd1) hs1 (by omega) (by omega) (e3 i (Nat.le_refl i) c_9) dX1_takeOut_26 ?_
        refine r_istore C (pc := 27) (lv2 := [some (.ref a), some (.int (nI q0)), some (.int (nI out.length)), some (.int (nI i)), some (.int (nI (ps.getD i 0)))]) (Nat.le_of_ble_eq_true rfl) rfl rfl dX1_takeOut_27 ?_
        refine r_iload C (pc := 29) rfl dX1_takeOut_29 ?_
        refine r_callSN C (pc := 31) (st := []) (m_X6_setIn l G sh v' N (q := (ps.getD i 0)) (by omega)) kyX6_setIn q_511 rfl rfl (Nat.le_of_ble_eq_true rfl) ⟨Nat.le_of_ble_eq_true rfl, Nat.le_of_ble_eq_true rfl⟩ ⟨Nat.le_of_ble_eq_true rfl, Nat.le_of_ble_eq_true rfl⟩ dX1_takeOut_31 (fun r31 v31 hp31 => ?_)
        obtain ⟨rfl, ehp31⟩ := hp31
        refine VV.vq ehp31 ?_
        refine VV.eq (st2 := [.int (nI ((ps.getD i 0) / 256))]) rfl ?_
        refine r_iload_n C (pc := 34) rfl rfl dX1_takeOut_34 ?_
        refine r_callSN C (pc := 35) (st := [.int (nI ((ps.getD i 0) / 256))]) (m_X6_setIn l G sh v' N (q := q0) (by omega)) kyX6_setIn q_511 rfl rfl (Nat.le_of_ble_eq_true rfl) ⟨Nat.le_of_ble_eq_true rfl, Nat.le_of_ble_eq_true rfl⟩ ⟨Nat.le_of_ble_eq_true rfl, Nat.le_of_ble_eq_true rfl⟩ dX1_takeOut_35 (fun r35 v35 hp35 => ?_)
        obtain ⟨rfl, ehp35⟩ := hp35
        refine VV.vq ehp35 ?_
        refine VV.eq (st2 := [.int (nI (q0 / 256)), .int (nI ((ps.getD i 0) / 256))]) rfl ?_
        refine r_iand C (pc := 38) (z := (nI (((ps.getD i 0) / 256) &&& (q0 / 256)))) (nx_and _ _) dX1_takeOut_38 ?_
        refine n_if_eq C (pc := 39) (tgt := 48) (and_lt (by omega)) dX1_takeOut_39 (by decide) (fun c_39 => ?_) (fun c_39 => ?_)
        · refine r_iload C (pc := 48) rfl dX1_takeOut_48 ?_
          refine r_callSN C (pc := 50) (st := []) (m_X6_setIn l G sh v' N (q := (ps.getD i 0)) (by omega)) kyX6_setIn q_511 rfl rfl (Nat.le_of_ble_eq_true rfl) ⟨Nat.le_of_ble_eq_true rfl, Nat.le_of_ble_eq_true rfl⟩ ⟨Nat.le_of_ble_eq_true rfl, Nat.le_of_ble_eq_true rfl⟩ dX1_takeOut_50 (fun r50 v50 hp50 => ?_)
          obtain ⟨rfl, ehp50⟩ := hp50
          refine VV.vq ehp50 ?_
          refine VV.eq (st2 := [.int (nI (((ps.getD i 0)) / 256))]) rfl ?_
          refine n_if_eq C (pc := 53) (tgt := 67) (by have := xor20 hqi hq0; omega) dX1_takeOut_53 (by decide) (fun c_53 => ?_) (fun c_53 => ?_)
          · refine r_iinc C (pc := 67) (lv2 := [some (.ref a), some (.int (nI q0)), some (.int (nI out.length)), some (.int (nI (i + 1))), some (.int (nI (ps.getD i 0)))]) (y := (nI (i + 1))) rfl (nI_inc _ _) (Nat.le_of_ble_eq_true rfl) rfl rfl dX1_takeOut_67 ?_
            refine r_goto C (pc := 70) (tgt := 4) dX1_takeOut_70 (by decide) ?_
            refine VV.fg 4 (lv2 := [some (.ref a), some (.int (nI q0)), some (.int (nI out.length)), some (.int (nI (i + 1))), none]) rfl ?_
            exact ih (i + 1) out v' (by omega) (tko_skip c_9 ho (tk1_0 c_39) c_53) (by omega) (by omega) e1 e2 (fun j g1 g2 => e3 j (by omega) g2) e4
          · refine r_aload_n C (pc := 56) rfl rfl dX1_takeOut_56 ?_
            refine r_get C (pc := 57) (ci := 1) (k := 0) (w := .ref (a + 1)) rfl (by decide) inX1 (by decide) q_154 (Or.inl hd0) hs0 (zl_ref _ _) dX1_takeOut_57 ?_
            refine r_iload_n C (pc := 60) rfl rfl dX1_takeOut_60 ?_
            refine r_iload C (pc := 61) rfl dX1_takeOut_61 ?_
            refine r_iast C (pc := 63) hd1 hs1 (by omega) (by omega) dX1_takeOut_63 ?_
            refine VV.gn (fun w63 ew63 => ?_)
            refine r_iinc C (pc := 64) (lv2 := [some (.ref a), some (.int (nI q0)), some (.int (nI (out.length + 1))), some (.int (nI i)), some (.int (nI (ps.getD i 0)))]) (y := (nI (out.length + 1))) rfl (nI_inc _ _) (Nat.le_of_ble_eq_true rfl) rfl rfl dX1_takeOut_64 ?_
            refine r_iinc C (pc := 67) (lv2 := [some (.ref a), some (.int (nI q0)), some (.int (nI (out.length + 1))), some (.int (nI (i + 1))), some (.int (nI (ps.getD i 0)))]) (y := (nI (i + 1))) rfl (nI_inc _ _) (Nat.le_of_ble_eq_true rfl) rfl rfl dX1_takeOut_67 ?_
            refine r_goto C (pc := 70) (tgt := 4) dX1_takeOut_70 (by decide) ?_
            refine VV.fg 4 (lv2 := [some (.ref a), some (.int (nI q0)), some (.int (nI (out.length + 1))), some (.int (nI (i + 1))), none]) rfl ?_
            have hlen : (out ++ [(ps.getD i 0)]).length = out.length + 1 := by simp
            rw [← hlen]
            exact ih (i + 1) (out ++ [(ps.getD i 0)]) w63 (by omega) (tko_put c_9 ho (tk1_0 c_39) c_53) (by rw [hlen]; omega) (by omega) (by rw [ew63, z2_addr (by omega)]; exact e1) (fun j hj => by
              rw [hlen] at hj
              rw [ew63, gd_app]
              by_cases hjl : j < out.length
              · rw [z2_ne (by omega), if_pos hjl]; exact e2 j hjl
              · rw [show j = out.length by omega, z2_self, if_neg (by omega), if_pos rfl]) (fun j g1 g2 => by rw [ew63, z2_ne (by omega)]; exact e3 j (by omega) g2) (by rw [ew63]; exact e4.z2 (by omega) (by omega))
        · refine r_iload C (pc := 42) rfl dX1_takeOut_42 ?_
          refine r_iload_n C (pc := 44) rfl rfl dX1_takeOut_44 ?_
          refine r_ixor C (pc := 45) (z := (nI ((ps.getD i 0) ^^^ q0))) (nx_xor _ _) dX1_takeOut_45 ?_
          refine r_istore C (pc := 46) (lv2 := [some (.ref a), some (.int (nI q0)), some (.int (nI out.length)), some (.int (nI i)), some (.int (nI ((ps.getD i 0) ^^^ q0)))]) (Nat.le_of_ble_eq_true rfl) rfl rfl dX1_takeOut_46 ?_
          refine r_iload C (pc := 48) rfl dX1_takeOut_48 ?_
          refine r_callSN C (pc := 50) (st := []) (m_X6_setIn l G sh v' N (q := (ps.getD i 0) ^^^ q0) (by have := xor20 hqi hq0; omega)) kyX6_setIn q_511 rfl rfl (Nat.le_of_ble_eq_true rfl) ⟨Nat.le_of_ble_eq_true rfl, Nat.le_of_ble_eq_true rfl⟩ ⟨Nat.le_of_ble_eq_true rfl, Nat.le_of_ble_eq_true rfl⟩ dX1_takeOut_50 (fun r50' v50' hp50' => ?_)
          obtain ⟨rfl, ehp50'⟩ := hp50'
          refine VV.vq ehp50' ?_
          refine VV.eq (st2 := [.int (nI (((ps.getD i 0) ^^^ q0) / 256))]) rfl ?_
          refine n_if_eq C (pc := 53) (tgt := 67) (by have := xor20 hqi hq0; omega) dX1_takeOut_53 (by decide) (fun c_53 => ?_) (fun c_53 => ?_)
          · refine r_iinc C (pc := 67) (lv2 := [some (.ref a), some (.int (nI q0)), some (.int (nI out.length)), some (.int (nI (i + 1))), some (.int (nI ((ps.getD i 0) ^^^ q0)))]) (y := (nI (i + 1))) rfl (nI_inc _ _) (Nat.le_of_ble_eq_true rfl) rfl rfl dX1_takeOut_67 ?_
            refine r_goto C (pc := 70) (tgt := 4) dX1_takeOut_70 (by decide) ?_
            refine VV.fg 4 (lv2 := [some (.ref a), some (.int (nI q0)), some (.int (nI out.length)), some (.int (nI (i + 1))), none]) rfl ?_
            exact ih (i + 1) out v' (by omega) (tko_skip c_9 ho (tk1_1 c_39) c_53) (by omega) (by omega) e1 e2 (fun j g1 g2 => e3 j (by omega) g2) e4
          · refine r_aload_n C (pc := 56) rfl rfl dX1_takeOut_56 ?_
            refine r_get C (pc := 57) (ci := 1) (k := 0) (w := .ref (a + 1)) rfl (by decide) inX1 (by decide) q_154 (Or.inl hd0) hs0 (zl_ref _ _) dX1_takeOut_57 ?_
            refine r_iload_n C (pc := 60) rfl rfl dX1_takeOut_60 ?_
            refine r_iload C (pc := 61) rfl dX1_takeOut_61 ?_
            refine r_iast C (pc := 63) hd1 hs1 (by omega) (by omega) dX1_takeOut_63 ?_
            refine VV.gn (fun w63 ew63 => ?_)
            refine r_iinc C (pc := 64) (lv2 := [some (.ref a), some (.int (nI q0)), some (.int (nI (out.length + 1))), some (.int (nI i)), some (.int (nI ((ps.getD i 0) ^^^ q0)))]) (y := (nI (out.length + 1))) rfl (nI_inc _ _) (Nat.le_of_ble_eq_true rfl) rfl rfl dX1_takeOut_64 ?_
            refine r_iinc C (pc := 67) (lv2 := [some (.ref a), some (.int (nI q0)), some (.int (nI (out.length + 1))), some (.int (nI (i + 1))), some (.int (nI ((ps.getD i 0) ^^^ q0)))]) (y := (nI (i + 1))) rfl (nI_inc _ _) (Nat.le_of_ble_eq_true rfl) rfl rfl dX1_takeOut_67 ?_
            refine r_goto C (pc := 70) (tgt := 4) dX1_takeOut_70 (by decide) ?_
            refine VV.fg 4 (lv2 := [some (.ref a), some (.int (nI q0)), some (.int (nI (out.length + 1))), some (.int (nI (i + 1))), none]) rfl ?_
            have hlen : (out ++ [((ps.getD i 0) ^^^ q0)]).length = out.length + 1 := by simp
            rw [← hlen]
            exact ih (i + 1) (out ++ [((ps.getD i 0) ^^^ q0)]) w63 (by omega) (tko_put c_9 ho (tk1_1 c_39) c_53) (by rw [hlen]; omega) (by omega) (by rw [ew63, z2_addr (by omega)]; exact e1) (fun j hj => by
              rw [hlen] at hj
              rw [ew63, gd_app]
              by_cases hjl : j < out.length
              · rw [z2_ne (by omega), if_pos hjl]; exact e2 j hjl
              · rw [show j = out.length by omega, z2_self, if_neg (by omega), if_pos rfl]) (fun j g1 g2 => by rw [ew63, z2_ne (by omega)]; exact e3 j (by omega) g2) (by rw [ew63]; exact e4.z2 (by omega) (by omega))
  refine r_iconst C (pc := 0) (x := (nI 0)) (by decide) dX1_takeOut_0 ?_
  refine r_istore_n C (pc := 1) (lv2 := [some (.ref a), some (.int (nI q0)), some (.int (nI 0)), none, none]) rfl (Nat.le_of_ble_eq_true rfl) rfl rfl dX1_takeOut_1 ?_
  refine r_iconst C (pc := 2) (x := (nI 0)) (by decide) dX1_takeOut_2 ?_
  refine r_istore_n C (pc := 3) (lv2 := [some (.ref a), some (.int (nI q0)), some (.int (nI 0)), some (.int (nI 0)), none]) rfl (Nat.le_of_ble_eq_true rfl) rfl rfl dX1_takeOut_3 ?_
  exact loop (ps.length + 1) 0 [] v (by omega) rfl (by simp) (by omega) h1 (fun j hj => by simp at hj) (fun j g1 g2 => h3 j g2) zfr.rf
set_option maxRecDepth 100000 in
set_option maxHeartbeats 4000000 in
theorem m_X1_removeFirstSingle (l : Launch) (G : zG) (sh : zH) (v : zV) (N : Nat) {a cap : Nat} {ps : List Nat} (hp : zPL G sh N a cap) (hv : zpl v a cap ps) (hps : ∀ q ∈ ps, q < 2 ^ 20) : zm l G yX1_removeFirstSingle cX1_removeFirstSingle 2 (some .int) 2 [.ref a] sh v N (fun r v1 => r = some (.int (nI (ps.getD (rfs ps) 0))) ∧ zpl v1 a cap (ps.eraseIdx (rfs ps)) ∧ zfr v v1 a 2) := by
  refine zM.of (by decide) rfl (Nat.le_of_ble_eq_true rfl) ?_
  intro p e s m args below meth c C
  obtain ⟨hB, hN, hcap, hs0, hs1⟩ := id hp
  obtain ⟨h1, h2, h3⟩ := id hv
  have hd0 : G.2.2.1 ≤ a ∧ a < N := ⟨hB, by omega⟩
  have hd1 : G.2.2.1 ≤ a + 1 ∧ a + 1 < N := ⟨by omega, hN⟩
  have loop : ∀ (n i : Nat), ps.length - i < n → i ≤ ps.length → (∀ j, j < i → pop (ps.getD j 0 / 256) ≠ 1) → VV p l e ({ frames := 2, cells := 0, slots := 0, locals := 32 * 2 }) s m args below meth c 0 0 (zQ below (fun r sh1 v1 N1 => sh1 = sh ∧ N1 = N ∧ (r = some (.int (nI (ps.getD (rfs ps) 0))) ∧ zpl v1 a cap (ps.eraseIdx (rfs ps)) ∧ zfr v v1 a 2)) G args s 0 0) G 2 sh v N 2 [some (.ref a), some (.int (nI i))] [] := by
    intro n
    induction n with
    | zero => intro i hm; omega
    | succ n ih =>
      intro i hm hil e1
      refine r_iload_n C (pc := 2) rfl rfl dX1_removeFirstSingle_2 ?_
      refine r_aload_n C (pc := 3) rfl rfl dX1_removeFirstSingle_3 ?_
      refine r_get C (pc := 4) (ci := 1) (k := 1) (w := .int (nI ps.length)) rfl (by decide) inX1 (by decide) q_155 (Or.inl hd0) hs0 (zl_i (h1)) dX1_removeFirstSingle_4 ?_
      refine n_icmp_ge C (pc := 7) (tgt := 34) (by omega) (by omega) dX1_removeFirstSingle_7 (by decide) (fun c_7 => ?_) (fun c_7 => ?_)
      · refine r_iconst C (pc := 34) (x := (nI 0)) (by decide) dX1_removeFirstSingle_34 ?_
        exact r_iret C (pc := 35) rfl (rfl) dX1_removeFirstSingle_35 ⟨rfl, rfl, by rw [rfs_end ps (fun j hj => e1 j (by omega)), gd_ge (Nat.le_refl _)], by rw [rfs_end ps (fun j hj => e1 j (by omega)), List.eraseIdx_of_length_le (Nat.le_refl _)]; exact hv, zfr.rf⟩
      · refine r_aload_n C (pc := 10) rfl rfl dX1_removeFirstSingle_10 ?_
        refine r_iload_n C (pc := 11) rfl rfl dX1_removeFirstSingle_11 ?_
        refine r_callV C (pc := 12) (st := []) (m_X1_at l G sh v N (ps := ps) (j := i) hp hv (by omega)) kyX1_at q_516 rfl (Or.inl hd0) hs0 (by decide) rfl rfl rfl (Nat.le_of_ble_eq_true rfl) ⟨Nat.le_of_ble_eq_true rfl, Nat.le_of_ble_eq_true rfl⟩ ⟨Nat.le_of_ble_eq_true rfl, Nat.le_of_ble_eq_true rfl⟩ dX1_removeFirstSingle_12 (fun r12 v12 hp12 => ?_)
        obtain ⟨rfl, ehp12⟩ := hp12
        refine VV.vq ehp12 ?_
        refine VV.eq (st2 := [.int (nI (ps.getD i 0))]) rfl ?_
        refine r_callSN C (pc := 15) (st := []) (m_X6_degreeOf l G sh v N (q := (ps.getD i 0)) (gd_lt20 hps)) kyX6_degreeOf q_517 rfl rfl (Nat.le_of_ble_eq_true rfl) ⟨Nat.le_of_ble_eq_true rfl, Nat.le_of_ble_eq_true rfl⟩ ⟨Nat.le_of_ble_eq_true rfl, Nat.le_of_ble_eq_true rfl⟩ dX1_removeFirstSingle_15 (fun r15 v15 hp15 => ?_)
        obtain ⟨rfl, ehp15⟩ := hp15
        refine VV.vq ehp15 ?_
        refine VV.eq (st2 := [.int (nI (pop ((ps.getD i 0) / 256)))]) rfl ?_
        refine r_iconst C (pc := 18) (x := (nI 1)) (by decide) dX1_removeFirstSingle_18 ?_
        refine n_icmp_ne C (pc := 19) (tgt := 28) (by have := pop_le ((ps.getD i 0) / 256); omega) (by decide) dX1_removeFirstSingle_19 (by decide) (fun c_19 => ?_) (fun c_19 => ?_)
        · refine r_iinc C (pc := 28) (lv2 := [some (.ref a), some (.int (nI (i + 1)))]) (y := (nI (i + 1))) rfl (nI_inc _ _) (Nat.le_of_ble_eq_true rfl) rfl rfl dX1_removeFirstSingle_28 ?_
          refine r_goto C (pc := 31) (tgt := 2) dX1_removeFirstSingle_31 (by decide) ?_
          exact ih (i + 1) (by omega) (by omega) (fun j hj => by
            by_cases hji : j = i
            · subst hji; exact c_19
            · exact e1 j (by omega))
        · refine r_aload_n C (pc := 22) rfl rfl dX1_removeFirstSingle_22 ?_
          refine r_iload_n C (pc := 23) rfl rfl dX1_removeFirstSingle_23 ?_
          refine r_callV C (pc := 24) (st := []) (m_X1_removeAt l G sh v N (ps := ps) (k := i) hp hv c_7) kyX1_removeAt q_394 rfl (Or.inl hd0) hs0 (by decide) rfl rfl rfl (Nat.le_of_ble_eq_true rfl) ⟨Nat.le_of_ble_eq_true rfl, Nat.le_of_ble_eq_true rfl⟩ ⟨Nat.le_of_ble_eq_true rfl, Nat.le_of_ble_eq_true rfl⟩ dX1_removeFirstSingle_24 (fun r24 v24 hp24 => ?_)
          obtain ⟨rfl, g1, g2⟩ := hp24
          refine VV.eq (st2 := [.int (nI (ps.getD i 0))]) rfl ?_
          exact r_iret C (pc := 27) rfl (rfl) dX1_removeFirstSingle_27 ⟨rfl, rfl, by rw [rfs_at ps i e1 c_7 c_19], by rw [rfs_at ps i e1 c_7 c_19]; exact g1, g2⟩
  refine r_iconst C (pc := 0) (x := (nI 0)) (by decide) dX1_removeFirstSingle_0 ?_
  refine r_istore_n C (pc := 1) (lv2 := [some (.ref a), some (.int (nI 0))]) rfl (Nat.le_of_ble_eq_true rfl) rfl rfl dX1_removeFirstSingle_1 ?_
  exact loop (ps.length + 1) 0 (by omega) (by omega) (fun j hj => by omega)
set_option maxRecDepth 100000 in
set_option maxHeartbeats 4000000 in
theorem m_X1_placeOfMostCommon (l : Launch) (G : zG) (sh : zH) (v : zV) (N : Nat) {a cap : Nat} {ps : List Nat} {q : Nat} (hp : zPL G sh N a cap) (hv : zpl v a cap ps) (hq : q < 2 ^ 20) (hps : ∀ q ∈ ps, q < 2 ^ 20) : zm l G yX1_placeOfMostCommon cX1_placeOfMostCommon 6 (some .int) 2 [.ref a, .int (nI q)] sh v N (fun r v1 => r = some (.int (nI (mcb (mcc q ps) ps.length))) ∧ v1 = v) := by
  refine zM.of (by decide) rfl (Nat.le_of_ble_eq_true rfl) ?_
  intro p e s m args below meth c C
  obtain ⟨hB, hN, hcap, hs0, hs1⟩ := id hp
  obtain ⟨h1, h2, h3⟩ := id hv
  have hd0 : G.2.2.1 ≤ a ∧ a < N := ⟨hB, by omega⟩
  have hd1 : G.2.2.1 ≤ a + 1 ∧ a + 1 < N := ⟨by omega, hN⟩
  have loop : ∀ (n i : Nat), ps.length - i < n → 0 < i → i ≤ ps.length → VV p l e ({ frames := 2, cells := 0, slots := 0, locals := 32 * 2 }) s m args below meth c 0 0 (zQ below (fun r sh1 v1 N1 => sh1 = sh ∧ N1 = N ∧ (r = some (.int (nI (mcb (mcc q ps) ps.length))) ∧ v1 = v)) G args s 0 0) G 6 sh v N 7 [some (.ref a), some (.int (nI q)), some (.int (nI (mcb (mcc q ps) i))), some (.int (nI (mcc q ps (mcb (mcc q ps) i)))), some (.int (nI i)), none] [] := by
    intro n
    induction n with
    | zero => intro i hm; omega
    | succ n ih =>
      intro i hm hi0 hil
      refine r_iload C (pc := 7) rfl dX1_placeOfMostCommon_7 ?_
      refine r_aload_n C (pc := 9) rfl rfl dX1_placeOfMostCommon_9 ?_
      refine r_get C (pc := 10) (ci := 1) (k := 1) (w := .int (nI ps.length)) rfl (by decide) inX1 (by decide) q_155 (Or.inl hd0) hs0 (zl_i (h1)) dX1_placeOfMostCommon_10 ?_
      refine n_icmp_ge C (pc := 13) (tgt := 53) (by omega) (by omega) dX1_placeOfMostCommon_13 (by decide) (fun c_13 => ?_) (fun c_13 => ?_)
      · refine r_iload_n C (pc := 53) rfl rfl dX1_placeOfMostCommon_53 ?_
        exact r_iret C (pc := 54) rfl (rfl) dX1_placeOfMostCommon_54 ⟨rfl, rfl, by rw [show i = ps.length by omega], rfl⟩
      · refine r_iload_n C (pc := 16) rfl rfl dX1_placeOfMostCommon_16 ?_
        refine r_callSN C (pc := 17) (st := []) (m_X6_setIn l G sh v N (q := q) (by omega)) kyX6_setIn q_511 rfl rfl (Nat.le_of_ble_eq_true rfl) ⟨Nat.le_of_ble_eq_true rfl, Nat.le_of_ble_eq_true rfl⟩ ⟨Nat.le_of_ble_eq_true rfl, Nat.le_of_ble_eq_true rfl⟩ dX1_placeOfMostCommon_17 (fun r17 v17 hp17 => ?_)
        obtain ⟨rfl, ehp17⟩ := hp17
        refine VV.vq ehp17 ?_
        refine VV.eq (st2 := [.int (nI (q / 256))]) rfl ?_
        refine r_aload_n C (pc := 20) rfl rfl dX1_placeOfMostCommon_20 ?_
        refine r_iload C (pc := 21) rfl dX1_placeOfMostCommon_21 ?_
        refine r_callV C (pc := 23) (st := [.int (nI (q / 256))]) (m_X1_at l G sh v N (ps := ps) (j := i) hp hv (by omega)) kyX1_at q_516 rfl (Or.inl hd0) hs0 (by decide) rfl rfl rfl (Nat.le_of_ble_eq_true rfl) ⟨Nat.le_of_ble_eq_true rfl, Nat.le_of_ble_eq_true rfl⟩ ⟨Nat.le_of_ble_eq_true rfl, Nat.le_of_ble_eq_true rfl⟩ dX1_placeOfMostCommon_23 (fun r23 v23 hp23 => ?_)
        obtain ⟨rfl, ehp23⟩ := hp23
        refine VV.vq ehp23 ?_
        refine VV.eq (st2 := [.int (nI (ps.getD i 0)), .int (nI (q / 256))]) rfl ?_
        have hqi : ps.getD i 0 < 2 ^ 20 := gd_lt20 hps
        refine r_callSN C (pc := 26) (st := [.int (nI (q / 256))]) (m_X6_setIn l G sh v N (q := (ps.getD i 0)) (by omega)) kyX6_setIn q_511 rfl rfl (Nat.le_of_ble_eq_true rfl) ⟨Nat.le_of_ble_eq_true rfl, Nat.le_of_ble_eq_true rfl⟩ ⟨Nat.le_of_ble_eq_true rfl, Nat.le_of_ble_eq_true rfl⟩ dX1_placeOfMostCommon_26 (fun r26 v26 hp26 => ?_)
        obtain ⟨rfl, ehp26⟩ := hp26
        refine VV.vq ehp26 ?_
        refine VV.eq (st2 := [.int (nI ((ps.getD i 0) / 256)), .int (nI (q / 256))]) rfl ?_
        refine r_iand C (pc := 29) (z := (nI ((q / 256) &&& ((ps.getD i 0) / 256)))) (nx_and _ _) dX1_placeOfMostCommon_29 ?_
        refine r_callS C (pc := 30) (st := []) (m_J6_bitCount_0f7a4 l G sh v N (k := (q / 256) &&& ((ps.getD i 0) / 256)) (Nat.lt_of_le_of_lt Nat.and_le_left (by omega))) kyJ6_bitCount_0f7a4 q_554 rfl rfl (Nat.le_of_ble_eq_true rfl) ⟨Nat.le_of_ble_eq_true rfl, Nat.le_of_ble_eq_true rfl⟩ ⟨Nat.le_of_ble_eq_true rfl, Nat.le_of_ble_eq_true rfl⟩ dX1_placeOfMostCommon_30 (fun r30 v30 hp30 => ?_)
        obtain ⟨rfl, ehp30⟩ := hp30
        refine VV.vq ehp30 ?_
        refine VV.eq (st2 := [.int (nI (mcc q ps i))]) rfl ?_
        refine r_istore C (pc := 33) (lv2 := [some (.ref a), some (.int (nI q)), some (.int (nI (mcb (mcc q ps) i))), some (.int (nI (mcc q ps (mcb (mcc q ps) i)))), some (.int (nI i)), some (.int (nI (mcc q ps i)))]) (Nat.le_of_ble_eq_true rfl) rfl rfl dX1_placeOfMostCommon_33 ?_
        refine r_iload C (pc := 35) rfl dX1_placeOfMostCommon_35 ?_
        refine r_iload_n C (pc := 37) rfl rfl dX1_placeOfMostCommon_37 ?_
        refine n_icmp_le C (pc := 38) (tgt := 47) (by have := mcc_le q ps i; omega) (by have := mcc_le q ps (mcb (mcc q ps) i); omega) dX1_placeOfMostCommon_38 (by decide) (fun c_38 => ?_) (fun c_38 => ?_)
        · refine r_iinc C (pc := 47) (lv2 := [some (.ref a), some (.int (nI q)), some (.int (nI (mcb (mcc q ps) i))), some (.int (nI (mcc q ps (mcb (mcc q ps) i)))), some (.int (nI (i + 1))), some (.int (nI (mcc q ps i)))]) (y := (nI (i + 1))) rfl (nI_inc _ _) (Nat.le_of_ble_eq_true rfl) rfl rfl dX1_placeOfMostCommon_47 ?_
          refine r_goto C (pc := 50) (tgt := 7) dX1_placeOfMostCommon_50 (by decide) ?_
          refine VV.fg 5 (lv2 := [some (.ref a), some (.int (nI q)), some (.int (nI (mcb (mcc q ps) i))), some (.int (nI (mcc q ps (mcb (mcc q ps) i)))), some (.int (nI (i + 1))), none]) rfl ?_
          have hs : mcb (mcc q ps) (i + 1) = mcb (mcc q ps) i := if_neg (by omega)
          have := ih (i + 1) (by omega) (by omega) (by omega)
          rw [hs] at this
          exact this
        · refine r_iload C (pc := 41) rfl dX1_placeOfMostCommon_41 ?_
          refine r_istore_n C (pc := 43) (lv2 := [some (.ref a), some (.int (nI q)), some (.int (nI i)), some (.int (nI (mcc q ps (mcb (mcc q ps) i)))), some (.int (nI i)), some (.int (nI (mcc q ps i)))]) rfl (Nat.le_of_ble_eq_true rfl) rfl rfl dX1_placeOfMostCommon_43 ?_
          refine r_iload C (pc := 44) rfl dX1_placeOfMostCommon_44 ?_
          refine r_istore_n C (pc := 46) (lv2 := [some (.ref a), some (.int (nI q)), some (.int (nI i)), some (.int (nI (mcc q ps i))), some (.int (nI i)), some (.int (nI (mcc q ps i)))]) rfl (Nat.le_of_ble_eq_true rfl) rfl rfl dX1_placeOfMostCommon_46 ?_
          refine r_iinc C (pc := 47) (lv2 := [some (.ref a), some (.int (nI q)), some (.int (nI i)), some (.int (nI (mcc q ps i))), some (.int (nI (i + 1))), some (.int (nI (mcc q ps i)))]) (y := (nI (i + 1))) rfl (nI_inc _ _) (Nat.le_of_ble_eq_true rfl) rfl rfl dX1_placeOfMostCommon_47 ?_
          refine r_goto C (pc := 50) (tgt := 7) dX1_placeOfMostCommon_50 (by decide) ?_
          refine VV.fg 5 (lv2 := [some (.ref a), some (.int (nI q)), some (.int (nI i)), some (.int (nI (mcc q ps i))), some (.int (nI (i + 1))), none]) rfl ?_
          have hs : mcb (mcc q ps) (i + 1) = i := if_pos c_38
          have := ih (i + 1) (by omega) (by omega) (by omega)
          rw [hs] at this
          exact this
  refine r_iconst C (pc := 0) (x := (nI 0)) (by decide) dX1_placeOfMostCommon_0 ?_
  refine r_istore_n C (pc := 1) (lv2 := [some (.ref a), some (.int (nI q)), some (.int (nI 0)), none, none, none]) rfl (Nat.le_of_ble_eq_true rfl) rfl rfl dX1_placeOfMostCommon_1 ?_
  refine r_iconst C (pc := 2) (x := (-1)) (by decide) dX1_placeOfMostCommon_2 ?_
  refine r_istore_n C (pc := 3) (lv2 := [some (.ref a), some (.int (nI q)), some (.int (nI 0)), some (.int (-1)), none, none]) rfl (Nat.le_of_ble_eq_true rfl) rfl rfl dX1_placeOfMostCommon_3 ?_
  refine r_iconst C (pc := 4) (x := (nI 0)) (by decide) dX1_placeOfMostCommon_4 ?_
  refine r_istore C (pc := 5) (lv2 := [some (.ref a), some (.int (nI q)), some (.int (nI 0)), some (.int (-1)), some (.int (nI 0)), none]) (Nat.le_of_ble_eq_true rfl) rfl rfl dX1_placeOfMostCommon_5 ?_
  refine r_iload C (pc := 7) rfl dX1_placeOfMostCommon_7 ?_
  refine r_aload_n C (pc := 9) rfl rfl dX1_placeOfMostCommon_9 ?_
  refine r_get C (pc := 10) (ci := 1) (k := 1) (w := .int (nI ps.length)) rfl (by decide) inX1 (by decide) q_155 (Or.inl hd0) hs0 (zl_i (h1)) dX1_placeOfMostCommon_10 ?_
  refine n_icmp_ge C (pc := 13) (tgt := 53) (by omega) (by omega) dX1_placeOfMostCommon_13 (by decide) (fun c_13 => ?_) (fun c_13 => ?_)
  · refine r_iload_n C (pc := 53) rfl rfl dX1_placeOfMostCommon_53 ?_
    exact r_iret C (pc := 54) rfl (rfl) dX1_placeOfMostCommon_54 ⟨rfl, rfl, by rw [show ps.length = 0 by omega]; rfl, rfl⟩
  · refine r_iload_n C (pc := 16) rfl rfl dX1_placeOfMostCommon_16 ?_
    refine r_callSN C (pc := 17) (st := []) (m_X6_setIn l G sh v N (q := q) (by omega)) kyX6_setIn q_511 rfl rfl (Nat.le_of_ble_eq_true rfl) ⟨Nat.le_of_ble_eq_true rfl, Nat.le_of_ble_eq_true rfl⟩ ⟨Nat.le_of_ble_eq_true rfl, Nat.le_of_ble_eq_true rfl⟩ dX1_placeOfMostCommon_17 (fun r17 v17 hp17 => ?_)
    obtain ⟨rfl, ehp17⟩ := hp17
    refine VV.vq ehp17 ?_
    refine VV.eq (st2 := [.int (nI (q / 256))]) rfl ?_
    refine r_aload_n C (pc := 20) rfl rfl dX1_placeOfMostCommon_20 ?_
    refine r_iload C (pc := 21) rfl dX1_placeOfMostCommon_21 ?_
    refine r_callV C (pc := 23) (st := [.int (nI (q / 256))]) (m_X1_at l G sh v N (ps := ps) (j := 0) hp hv (by omega)) kyX1_at q_516 rfl (Or.inl hd0) hs0 (by decide) rfl rfl rfl (Nat.le_of_ble_eq_true rfl) ⟨Nat.le_of_ble_eq_true rfl, Nat.le_of_ble_eq_true rfl⟩ ⟨Nat.le_of_ble_eq_true rfl, Nat.le_of_ble_eq_true rfl⟩ dX1_placeOfMostCommon_23 (fun r23 v23 hp23 => ?_)
    obtain ⟨rfl, ehp23⟩ := hp23
    refine VV.vq ehp23 ?_
    refine VV.eq (st2 := [.int (nI (ps.getD 0 0)), .int (nI (q / 256))]) rfl ?_
    have hqi : ps.getD 0 0 < 2 ^ 20 := gd_lt20 hps
    refine r_callSN C (pc := 26) (st := [.int (nI (q / 256))]) (m_X6_setIn l G sh v N (q := (ps.getD 0 0)) (by omega)) kyX6_setIn q_511 rfl rfl (Nat.le_of_ble_eq_true rfl) ⟨Nat.le_of_ble_eq_true rfl, Nat.le_of_ble_eq_true rfl⟩ ⟨Nat.le_of_ble_eq_true rfl, Nat.le_of_ble_eq_true rfl⟩ dX1_placeOfMostCommon_26 (fun r26 v26 hp26 => ?_)
    obtain ⟨rfl, ehp26⟩ := hp26
    refine VV.vq ehp26 ?_
    refine VV.eq (st2 := [.int (nI ((ps.getD 0 0) / 256)), .int (nI (q / 256))]) rfl ?_
    refine r_iand C (pc := 29) (z := (nI ((q / 256) &&& ((ps.getD 0 0) / 256)))) (nx_and _ _) dX1_placeOfMostCommon_29 ?_
    refine r_callS C (pc := 30) (st := []) (m_J6_bitCount_0f7a4 l G sh v N (k := (q / 256) &&& ((ps.getD 0 0) / 256)) (Nat.lt_of_le_of_lt Nat.and_le_left (by omega))) kyJ6_bitCount_0f7a4 q_554 rfl rfl (Nat.le_of_ble_eq_true rfl) ⟨Nat.le_of_ble_eq_true rfl, Nat.le_of_ble_eq_true rfl⟩ ⟨Nat.le_of_ble_eq_true rfl, Nat.le_of_ble_eq_true rfl⟩ dX1_placeOfMostCommon_30 (fun r30 v30 hp30 => ?_)
    obtain ⟨rfl, ehp30⟩ := hp30
    refine VV.vq ehp30 ?_
    refine VV.eq (st2 := [.int (nI (mcc q ps 0))]) rfl ?_
    refine r_istore C (pc := 33) (lv2 := [some (.ref a), some (.int (nI q)), some (.int (nI 0)), some (.int (-1)), some (.int (nI 0)), some (.int (nI (mcc q ps 0)))]) (Nat.le_of_ble_eq_true rfl) rfl rfl dX1_placeOfMostCommon_33 ?_
    refine r_iload C (pc := 35) rfl dX1_placeOfMostCommon_35 ?_
    refine r_iload_n C (pc := 37) rfl rfl dX1_placeOfMostCommon_37 ?_
    refine r_icmp_le C (pc := 38) (tgt := 47) dX1_placeOfMostCommon_38 (by decide) (fun c_38 => by exfalso; exact m1_lt (by have := mcc_le q ps 0; omega) c_38) (fun c_38 => ?_)
    refine r_iload C (pc := 41) rfl dX1_placeOfMostCommon_41 ?_
    refine r_istore_n C (pc := 43) (lv2 := [some (.ref a), some (.int (nI q)), some (.int (nI 0)), some (.int (-1)), some (.int (nI 0)), some (.int (nI (mcc q ps 0)))]) rfl (Nat.le_of_ble_eq_true rfl) rfl rfl dX1_placeOfMostCommon_43 ?_
    refine r_iload C (pc := 44) rfl dX1_placeOfMostCommon_44 ?_
    refine r_istore_n C (pc := 46) (lv2 := [some (.ref a), some (.int (nI q)), some (.int (nI 0)), some (.int (nI (mcc q ps 0))), some (.int (nI 0)), some (.int (nI (mcc q ps 0)))]) rfl (Nat.le_of_ble_eq_true rfl) rfl rfl dX1_placeOfMostCommon_46 ?_
    refine r_iinc C (pc := 47) (lv2 := [some (.ref a), some (.int (nI q)), some (.int (nI 0)), some (.int (nI (mcc q ps 0))), some (.int (nI (0 + 1))), some (.int (nI (mcc q ps 0)))]) (y := (nI (0 + 1))) rfl (nI_inc _ _) (Nat.le_of_ble_eq_true rfl) rfl rfl dX1_placeOfMostCommon_47 ?_
    refine r_goto C (pc := 50) (tgt := 7) dX1_placeOfMostCommon_50 (by decide) ?_
    refine VV.fg 5 (lv2 := [some (.ref a), some (.int (nI q)), some (.int (nI 0)), some (.int (nI (mcc q ps 0))), some (.int (nI (0 + 1))), none]) rfl ?_
    have hs : mcb (mcc q ps) 1 = 0 := by
      show (if _ then 0 else 0) = 0
      split <;> rfl
    have := loop (ps.length + 1) 1 (by omega) (by omega) (by omega)
    rw [hs] at this
    exact this
set_option maxRecDepth 100000 in
set_option maxHeartbeats 4000000 in
theorem m_X1_clear (l : Launch) (G : zG) (sh : zH) (v : zV) (N : Nat) {a cap : Nat} {ps : List Nat} (hp : zPL G sh N a cap) (hv : zpl v a cap ps) : zm l G yX1_clear cX1_clear 1 none 0 [.ref a] sh v N (fun r v1 => r = none ∧ zpl v1 a cap [] ∧ zfr v v1 a 2) := by
  refine zM.of (by decide) rfl (Nat.le_of_ble_eq_true rfl) ?_
  intro p e s m args below meth c C
  obtain ⟨hB, hN, hcap, hs0, hs1⟩ := hp
  obtain ⟨h1, h2, h3⟩ := id hv
  have hd0 : G.2.2.1 ≤ a ∧ a < N := ⟨hB, by omega⟩
  have hd1 : G.2.2.1 ≤ a + 1 ∧ a + 1 < N := ⟨by omega, hN⟩
  refine r_aload_n C (pc := 0) rfl rfl dX1_clear_0 ?_
  refine r_iconst C (pc := 1) (x := (nI 0)) (by decide) dX1_clear_1 ?_
  refine r_put C (pc := 2) (ci := 1) (k := 1) rfl (by decide) inX1 tyX1_ok nmX1 (by decide) rfl pfI rfl q_155 hd0 hs0 dX1_clear_2 ?_
  refine VV.gn (fun w2 ew2 => ?_)
  exact r_vret C (pc := 5) rfl dX1_clear_5 ⟨rfl, rfl, rfl, ⟨by rw [ew2, z2_self]; rfl, by simp, fun k hk => by simp at hk⟩, by rw [ew2]; exact zfr.rf.z2 (by omega) (by omega)⟩
set_option maxRecDepth 100000 in
set_option maxHeartbeats 4000000 in
theorem m_X6_copyRow (l : Launch) (G : zG) (sh : zH) (v : zV) (N : Nat) {a0 a n : Nat} (hne : a0 ≠ a) (hn : n < 2 ^ 20) (hd0 : zdm G N a0) (hs0 : sh a0 = (8, n, fun _ => 0)) (hd1 : G.2.2.1 ≤ a ∧ a < N) (hs1 : sh a = (8, n, fun _ => 0)) : zm l G yX6_copyRow cX6_copyRow 2 none 1 [.ref a0, .ref a] sh v N (fun r v1 => r = none ∧ v1 = zcp v a0 a n) := by
  refine zM.of (by decide) rfl (Nat.le_of_ble_eq_true rfl) ?_
  intro p e s m args below meth c C
  refine r_aload_n C (pc := 0) rfl rfl dX6_copyRow_0 ?_
  refine r_iconst C (pc := 1) (x := (nI 0)) (by decide) dX6_copyRow_1 ?_
  refine r_aload_n C (pc := 2) rfl rfl dX6_copyRow_2 ?_
  refine r_iconst C (pc := 3) (x := (nI 0)) (by decide) dX6_copyRow_3 ?_
  refine r_aload_n C (pc := 4) rfl rfl dX6_copyRow_4 ?_
  refine r_alen C (pc := 5) (x := nI n) hd0 hs0 (by decide) rfl rfl dX6_copyRow_5 ?_
  refine r_aload_n C (pc := 6) rfl rfl dX6_copyRow_6 ?_
  refine r_alen C (pc := 7) (x := nI n) (Or.inl hd1) hs1 (by decide) rfl rfl dX6_copyRow_7 ?_
  refine r_min C (pc := 8) (z := (nI n)) q_84 (by rw [nI_min (by omega) (by omega), Nat.min_self]) (Nat.le_of_ble_eq_true rfl) ⟨Nat.le_of_ble_eq_true rfl, Nat.le_of_ble_eq_true rfl⟩ ⟨Nat.le_of_ble_eq_true rfl, Nat.le_of_ble_eq_true rfl⟩ dX6_copyRow_8 ?_
  refine r_copy C (pc := 11) hne q_87 hn hd0 hs0 hd1 hs1 ⟨Nat.le_of_ble_eq_true rfl, Nat.le_of_ble_eq_true rfl⟩ dX6_copyRow_11 ?_
  exact r_vret C (pc := 14) rfl dX6_copyRow_14 ⟨rfl, rfl, rfl, rfl⟩
set_option maxRecDepth 100000 in
set_option maxHeartbeats 4000000 in
theorem m_X1_copyFrom (l : Launch) (G : zG) (sh : zH) (v : zV) (N : Nat) {a o cap : Nat} {ps qs : List Nat} (hp : zPL G sh N a cap) (hv : zpl v a cap ps) (hpo : zPL G sh N o cap) (hvo : zpl v o cap qs) (hno : o + 2 ≤ a ∨ a + 2 ≤ o) : zm l G yX1_copyFrom cX1_copyFrom 2 none 2 [.ref a, .ref o] sh v N (fun r v1 => r = none ∧ zpl v1 a cap qs ∧ zfr v v1 a 2) := by
  refine zM.of (by decide) rfl (Nat.le_of_ble_eq_true rfl) ?_
  intro p e s m args below meth c C
  obtain ⟨hB, hN, hcap, hs0, hs1⟩ := hp
  obtain ⟨h1, h2, h3⟩ := id hv
  have hd0 : G.2.2.1 ≤ a ∧ a < N := ⟨hB, by omega⟩
  have hd1 : G.2.2.1 ≤ a + 1 ∧ a + 1 < N := ⟨by omega, hN⟩
  obtain ⟨gB, gN, gcap, ho0, ho1⟩ := hpo
  obtain ⟨g1, g2, g3⟩ := id hvo
  have gd0 : G.2.2.1 ≤ o ∧ o < N := ⟨gB, by omega⟩
  have gd1 : G.2.2.1 ≤ o + 1 ∧ o + 1 < N := ⟨by omega, gN⟩
  refine r_aload_n C (pc := 0) rfl rfl dX1_copyFrom_0 ?_
  refine r_get C (pc := 1) (ci := 1) (k := 0) (w := .ref (o + 1)) rfl (by decide) inX1 (by decide) q_154 (Or.inl gd0) ho0 (zl_ref _ _) dX1_copyFrom_1 ?_
  refine r_aload_n C (pc := 4) rfl rfl dX1_copyFrom_4 ?_
  refine r_get C (pc := 5) (ci := 1) (k := 0) (w := .ref (a + 1)) rfl (by decide) inX1 (by decide) q_154 (Or.inl hd0) hs0 (zl_ref _ _) dX1_copyFrom_5 ?_
  refine r_callSN C (pc := 8) (st := []) (m_X6_copyRow l G sh v N (a0 := o + 1) (a := a + 1) (n := cap) (by omega) (by omega) (Or.inl gd1) ho1 hd1 hs1) kyX6_copyRow q_313 rfl rfl (Nat.le_of_ble_eq_true rfl) ⟨Nat.le_of_ble_eq_true rfl, Nat.le_of_ble_eq_true rfl⟩ ⟨Nat.le_of_ble_eq_true rfl, Nat.le_of_ble_eq_true rfl⟩ dX1_copyFrom_8 (fun r8 v8 hp8 => ?_)
  obtain ⟨rfl, hz8⟩ := hp8
  refine VV.eq (st2 := []) rfl ?_
  refine r_aload_n C (pc := 11) rfl rfl dX1_copyFrom_11 ?_
  refine r_aload_n C (pc := 12) rfl rfl dX1_copyFrom_12 ?_
  refine r_get C (pc := 13) (ci := 1) (k := 1) (w := .int (nI qs.length)) rfl (by decide) inX1 (by decide) q_155 (Or.inl gd0) ho0 (zl_i (by rw [hz8, zcp_ne (by omega)]; exact g1)) dX1_copyFrom_13 ?_
  refine r_aload_n C (pc := 16) rfl rfl dX1_copyFrom_16 ?_
  refine r_get C (pc := 17) (ci := 1) (k := 0) (w := .ref (a + 1)) rfl (by decide) inX1 (by decide) q_154 (Or.inl hd0) hs0 (zl_ref _ _) dX1_copyFrom_17 ?_
  refine r_alen C (pc := 20) (x := nI cap) (Or.inl hd1) hs1 (by decide) rfl rfl dX1_copyFrom_20 ?_
  refine r_min C (pc := 21) (z := (nI qs.length)) q_314 (by rw [nI_min (by omega) (by omega), Nat.min_eq_left g2]) (Nat.le_of_ble_eq_true rfl) ⟨Nat.le_of_ble_eq_true rfl, Nat.le_of_ble_eq_true rfl⟩ ⟨Nat.le_of_ble_eq_true rfl, Nat.le_of_ble_eq_true rfl⟩ dX1_copyFrom_21 ?_
  refine r_put C (pc := 24) (ci := 1) (k := 1) rfl (by decide) inX1 tyX1_ok nmX1 (by decide) rfl pfI rfl q_155 hd0 hs0 dX1_copyFrom_24 ?_
  refine VV.gn (fun w24 ew24 => ?_)
  exact r_vret C (pc := 27) rfl dX1_copyFrom_27 ⟨rfl, rfl, rfl, ⟨by rw [ew24, z2_self], g2, fun k hk => by rw [ew24, z2_addr (by omega), hz8, zcp_at (by omega)]; exact g3 k hk⟩, fun b hb => by rw [ew24, z2_addr (by omega), hz8, zcp_ne (by omega)]⟩
end
section
/-! the span's rows and the findings, as functions -/
def zSP (G : zG) (sh : zH) (N a : Nat) : Prop := G.2.2.1 ≤ a ∧ a + 1 < N ∧ sh a = (4, 2, pts [a + 1 + 2, 0]) ∧ sh (a + 1) = (8, 12, fun _ => 0)
def zsp (v : zV) (a : Nat) (r : Nat → Nat) (rk : Nat) : Prop := v a 1 = nI rk ∧ ∀ j, j < 12 → v (a + 1) j = nI (r j)
theorem zsp.kept {v v1 : zV} {a : Nat} {r : Nat → Nat} {rk : Nat} (h : zsp v a r rk) (h0 : v1 a = v a) (h1 : v1 (a + 1) = v (a + 1)) : zsp v1 a r rk := ⟨by rw [h0]; exact h.1, fun k hk => by rw [h1]; exact h.2 k hk⟩
def rdp (r : Nat → Nat) : Nat → Nat → Nat
  | 0, x => x
  | n + 1, x => rdp r n (if x.testBit (8 + n) then x ^^^ r n else x)
def tkp (r : Nat → Nat) : Nat → Nat → Option (Nat × Nat)
  | 0, _ => none
  | n + 1, x => if x.testBit (8 + n) then (if r n = 0 then some (n, x) else tkp r n (x ^^^ r n)) else tkp r n x
def ups (r : Nat → Nat) (t x : Nat) : Nat → Nat := fun j => if j = t then x else r j
def tkr (r : Nat → Nat) (q : Nat) : Nat → Nat := match tkp r 12 q with
  | some z => ups r z.1 z.2
  | none => r
def tkb (r : Nat → Nat) (q : Nat) : Bool := (tkp r 12 q).isSome
def tI (n : Nat) : Int32 := nI n + Int32.ofInt (-1)
theorem tI_s (n : Nat) : tI (n + 1) = nI n := nI_dec n
theorem tI_12 : nI 12 - nI 1 = tI 12 := by decide
theorem tI_0 : tI 0 < 0 := by decide
theorem z2_row {v : zV} {a : Nat} {r : Nat → Nat} {n t x : Nat} (h : ∀ j, j < n → v a j = nI (r j)) : ∀ j, j < n → z2 v a t (nI x) a j = nI (ups r t x j) := fun j hj => by
  by_cases hjt : j = t
  · subst hjt; rw [z2_self]; simp [ups]
  · rw [z2_ne (by omega), h j hj]; simp [ups, hjt]
def cntn (tm : Nat → Option Nat) : Nat → Nat
  | 0 => 0
  | n + 1 => cntn tm n + (if (tm n).isSome then 1 else 0)
abbrev cnt (tm : Nat → Option Nat) : Nat := cntn tm 12
theorem cntn_le (tm : Nat → Option Nat) : ∀ n, cntn tm n ≤ n
  | 0 => Nat.le_refl 0
  | n + 1 => by
    have := cntn_le tm n
    show cntn tm n + (if (tm n).isSome then 1 else 0) ≤ n + 1
    split <;> omega
def upo (tm : Nat → Option Nat) (b t : Nat) : Nat → Option Nat := fun j => if j = b then some t else tm j
theorem cntn_upo {tm : Nat → Option Nat} {b t : Nat} (h : (tm b).isSome = false) : ∀ n, cntn (upo tm b t) n = cntn tm n + (if b < n then 1 else 0)
  | 0 => rfl
  | n + 1 => by
    show cntn (upo tm b t) n + (if (upo tm b t n).isSome then 1 else 0) = cntn tm n + (if (tm n).isSome then 1 else 0) + _
    rw [cntn_upo h n]
    by_cases hb : n = b
    · subst hb
      simp [upo, h]
    · have h2 : upo tm b t n = tm n := by simp [upo, hb]
      rw [h2]
      have h3 : (if b < n + 1 then 1 else 0 : Nat) = if b < n then 1 else 0 := by
        by_cases hbn : b < n
        · rw [if_pos hbn, if_pos (show b < n + 1 by omega)]
        · rw [if_neg hbn, if_neg (show ¬ b < n + 1 by omega)]
      rw [h3, Nat.add_right_comm]
def tmI (o : Option Nat) : Int32 := match o with
  | none => -9
  | some t => nI t
def sgl (V : Nat → Nat) (tm : Nat → Option Nat) (b : Nat) : Nat := if (tm b).isSome then 2 ^ (8 + b) + V b else 0
def zFI (G : zG) (sh : zH) (N a : Nat) : Prop := G.2.2.1 ≤ a ∧ a + 2 < N ∧ sh a = (0, 3, pts [a + 1 + 2, a + 2 + 2, 0]) ∧ sh (a + 1) = (8, 12, fun _ => 0) ∧ sh (a + 2) = (8, 12, fun _ => 0)
def zfi (v : zV) (a : Nat) (V : Nat → Nat) (tm : Nat → Option Nat) : Prop := v a 2 = nI (cnt tm) ∧ (∀ b, b < 12 → v (a + 1) b = nI (sgl V tm b)) ∧ ∀ b, b < 12 → v (a + 2) b = tmI (tm b)
theorem zfi.kept {v v1 : zV} {a : Nat} {V : Nat → Nat} {tm : Nat → Option Nat} (h : zfi v a V tm) (h0 : v1 a = v a) (h1 : v1 (a + 1) = v (a + 1)) (h2 : v1 (a + 2) = v (a + 2)) : zfi v1 a V tm := ⟨by rw [h0]; exact h.1, fun k hk => by rw [h1]; exact h.2.1 k hk, fun k hk => by rw [h2]; exact h.2.2 k hk⟩
theorem p20 {b x : Nat} (hb : b < 12) (hx : x < 256) : 2 ^ (8 + b) + x < 2 ^ 20 := by
  have : 2 ^ (8 + b) ≤ 2 ^ 19 := Nat.pow_le_pow_right (by decide) (by omega)
  omega
theorem p20p {b x : Nat} : 0 < 2 ^ (8 + b) + x := by
  have := Nat.two_pow_pos (8 + b)
  omega
theorem sgl_lt {V : Nat → Nat} {tm : Nat → Option Nat} {b : Nat} (hb : b < 12) (hV : ∀ b, b < 12 → V b < 256) : sgl V tm b < 2 ^ 20 := by
  unfold sgl
  split
  · exact p20 hb (hV b hb)
  · decide
theorem sgl_0 {V : Nat → Nat} {tm : Nat → Option Nat} {b : Nat} : sgl V tm b = 0 ↔ (tm b).isSome = false := by
  unfold sgl
  have := @p20p b (V b)
  by_cases h : (tm b).isSome = true
  · rw [if_pos h, h]; simp
  · rw [if_neg h]; simpa using h
theorem sgl_mod {V : Nat → Nat} {tm : Nat → Option Nat} {b : Nat} (hb : b < 12) (hV : ∀ b, b < 12 → V b < 256) (h : (tm b).isSome = true) : sgl V tm b % 256 = V b := by
  unfold sgl
  have hv := hV b hb
  rw [if_pos h, Nat.pow_add, Nat.mul_comm, show (2 : Nat) ^ 8 = 256 from rfl, Nat.add_comm, Nat.add_mul_mod_self_right, Nat.mod_eq_of_lt hv]
theorem bit_one {b j x : Nat} (hb : b < 12) (hx : x < 256) : (2 ^ (8 + b) + x).testBit (8 + j) = decide (j = b) := by
  have h : 2 ^ (8 + b) + x = 2 ^ 8 * 2 ^ b + x := by rw [Nat.pow_add]
  rw [h, Nat.testBit_two_pow_mul_add _ (show x < 2 ^ 8 from hx), if_neg (by omega), show 8 + j - 8 = j by omega, Nat.testBit_two_pow]
  by_cases hjb : b = j <;> simp [hjb, eq_comm]
def tofn (V : Nat → Nat) (tm : Nat → Option Nat) (q : Nat) : Nat → Nat
  | 0 => q
  | n + 1 => if q.testBit (8 + n) then tofn V tm q n ^^^ sgl V tm n else tofn V tm q n
theorem tofn_lt {V : Nat → Nat} {tm : Nat → Option Nat} {q : Nat} (hq : q < 2 ^ 20) (hV : ∀ b, b < 12 → V b < 256) : ∀ n, n ≤ 12 → tofn V tm q n < 2 ^ 20
  | 0, _ => hq
  | n + 1, h => by
    have h1 := tofn_lt (V := V) (tm := tm) hq hV n (by omega)
    show (if _ then _ else _) < _
    split
    · exact xor20 h1 (sgl_lt (by omega) hV)
    · exact h1
set_option maxRecDepth 100000 in
set_option maxHeartbeats 4000000 in
theorem m_X4_reduce (l : Launch) (G : zG) (sh : zH) (v : zV) (N : Nat) {a : Nat} {r : Nat → Nat} {rk q : Nat} (hp : zSP G sh N a) (hv : zsp v a r rk) (hq : q < 2 ^ 20) (hr : ∀ j, j < 12 → r j < 2 ^ 20) : zm l G yX4_reduce cX4_reduce 5 (some .int) 0 [.ref a, .int (nI q)] sh v N (fun rr v1 => rr = some (.int (nI (rdp r 12 q))) ∧ v1 = v) := by
  refine zM.of (by decide) rfl (Nat.le_of_ble_eq_true rfl) ?_
  intro p e s m args below meth c C
  obtain ⟨hB, hN, hs0, hs1⟩ := id hp
  obtain ⟨h1, h2⟩ := id hv
  have hd0 : G.2.2.1 ≤ a ∧ a < N := ⟨hB, by omega⟩
  have hd1 : G.2.2.1 ≤ a + 1 ∧ a + 1 < N := ⟨by omega, hN⟩
  have loop : ∀ (n x : Nat), n ≤ 12 → x < 2 ^ 20 → rdp r n x = rdp r 12 q → VV p l e ({ frames := 0, cells := 0, slots := 0, locals := 32 * 0 }) s m args below meth c 0 0 (zQ below (fun rr sh1 v1 N1 => sh1 = sh ∧ N1 = N ∧ (rr = some (.int (nI (rdp r 12 q))) ∧ v1 = v)) G args s 0 0) G 5 sh v N 10 [some (.ref a), some (.int (nI q)), some (.int (nI x)), some (.int (tI n)), none] [] := by
    intro n
    induction n with
    | zero =>
      intro x hn hx0 hx
      refine r_iload_n C (pc := 10) rfl rfl dX4_reduce_10 ?_
      refine r_if_lt C (pc := 11) (tgt := 44) dX4_reduce_11 (by decide) (fun c_11 => ?_) (fun c_11 => by exfalso; exact c_11 tI_0)
      refine r_iload_n C (pc := 44) rfl rfl dX4_reduce_44 ?_
      exact r_iret C (pc := 45) rfl (rfl) dX4_reduce_45 ⟨rfl, rfl, by rw [← hx]; rfl, rfl⟩
    | succ n ih =>
      intro x hn hx0 hx
      rw [tI_s n]
      refine r_iload_n C (pc := 10) rfl rfl dX4_reduce_10 ?_
      refine n_if_lt C (pc := 11) (by omega) dX4_reduce_11 ?_
      refine r_iconst C (pc := 14) (x := (nI 1)) (by decide) dX4_reduce_14 ?_
      refine r_bipush C (pc := 15) (x := (nI 8)) (by decide) dX4_reduce_15 ?_
      refine r_iload_n C (pc := 17) rfl rfl dX4_reduce_17 ?_
      refine r_iadd C (pc := 18) (z := (nI (8 + n))) (nI_add _ _) dX4_reduce_18 ?_
      refine r_ishl C (pc := 19) (z := (nI (2 ^ (8 + n)))) (nI_shl1 (by omega)) dX4_reduce_19 ?_
      refine r_istore C (pc := 20) (lv2 := [some (.ref a), some (.int (nI q)), some (.int (nI x)), some (.int (nI n)), some (.int (nI (2 ^ (8 + n))))]) (Nat.le_of_ble_eq_true rfl) rfl rfl dX4_reduce_20 ?_
      refine r_iload_n C (pc := 22) rfl rfl dX4_reduce_22 ?_
      refine r_iload C (pc := 23) rfl dX4_reduce_23 ?_
      refine r_iand C (pc := 25) (z := (nI (x &&& 2 ^ (8 + n)))) (nx_and _ _) dX4_reduce_25 ?_
      refine n_if_eq C (pc := 26) (tgt := 38) (and_lt (by omega)) dX4_reduce_26 (by decide) (fun c_26 => ?_) (fun c_26 => ?_)
      · refine r_iinc C (pc := 38) (lv2 := [some (.ref a), some (.int (nI q)), some (.int (nI x)), some (.int (tI n)), some (.int (nI (2 ^ (8 + n))))]) (y := (tI n)) rfl (rfl) (Nat.le_of_ble_eq_true rfl) rfl rfl dX4_reduce_38 ?_
        refine r_goto C (pc := 41) (tgt := 10) dX4_reduce_41 (by decide) ?_
        refine VV.fg 4 (lv2 := [some (.ref a), some (.int (nI q)), some (.int (nI x)), some (.int (tI n)), none]) rfl ?_
        exact ih x (by omega) hx0 (by rw [← hx]; show _ = rdp r n (if _ then _ else _); rw [if_neg (by rw [tb_zero.mp c_26]; decide)])
      · refine r_iload_n C (pc := 29) rfl rfl dX4_reduce_29 ?_
        refine r_aload_n C (pc := 30) rfl rfl dX4_reduce_30 ?_
        refine r_get C (pc := 31) (ci := 4) (k := 0) (w := .ref (a + 1)) rfl (by decide) inX4 (by decide) q_170 (Or.inl hd0) hs0 (zl_ref _ _) dX4_reduce_31 ?_
        refine r_iload_n C (pc := 34) rfl rfl dX4_reduce_34 ?_
        refine r_iald C (pc := 35) (x := (nI (r n))) (Or.inl hd1) hs1 (by omega) (by omega) (h2 n (by omega)) dX4_reduce_35 ?_
        refine r_ixor C (pc := 36) (z := (nI (x ^^^ r n))) (nx_xor _ _) dX4_reduce_36 ?_
        refine r_istore_n C (pc := 37) (lv2 := [some (.ref a), some (.int (nI q)), some (.int (nI (x ^^^ r n))), some (.int (nI n)), some (.int (nI (2 ^ (8 + n))))]) rfl (Nat.le_of_ble_eq_true rfl) rfl rfl dX4_reduce_37 ?_
        refine r_iinc C (pc := 38) (lv2 := [some (.ref a), some (.int (nI q)), some (.int (nI (x ^^^ r n))), some (.int (tI n)), some (.int (nI (2 ^ (8 + n))))]) (y := (tI n)) rfl (rfl) (Nat.le_of_ble_eq_true rfl) rfl rfl dX4_reduce_38 ?_
        refine r_goto C (pc := 41) (tgt := 10) dX4_reduce_41 (by decide) ?_
        refine VV.fg 4 (lv2 := [some (.ref a), some (.int (nI q)), some (.int (nI (x ^^^ r n))), some (.int (tI n)), none]) rfl ?_
        exact ih (x ^^^ r n) (by omega) (xor20 hx0 (hr n (by omega))) (by rw [← hx]; show _ = rdp r n (if _ then _ else _); rw [if_pos (tb_pos.mp c_26)])
  refine r_iload_n C (pc := 0) rfl rfl dX4_reduce_0 ?_
  refine r_istore_n C (pc := 1) (lv2 := [some (.ref a), some (.int (nI q)), some (.int (nI q)), none, none]) rfl (Nat.le_of_ble_eq_true rfl) rfl rfl dX4_reduce_1 ?_
  refine r_aload_n C (pc := 2) rfl rfl dX4_reduce_2 ?_
  refine r_get C (pc := 3) (ci := 4) (k := 0) (w := .ref (a + 1)) rfl (by decide) inX4 (by decide) q_170 (Or.inl hd0) hs0 (zl_ref _ _) dX4_reduce_3 ?_
  refine r_alen C (pc := 6) (x := nI 12) (Or.inl hd1) hs1 (by decide) rfl rfl dX4_reduce_6 ?_
  refine r_iconst C (pc := 7) (x := (nI 1)) (by decide) dX4_reduce_7 ?_
  refine r_isub C (pc := 8) (z := (tI 12)) (tI_12) dX4_reduce_8 ?_
  refine r_istore_n C (pc := 9) (lv2 := [some (.ref a), some (.int (nI q)), some (.int (nI q)), some (.int (tI 12)), none]) rfl (Nat.le_of_ble_eq_true rfl) rfl rfl dX4_reduce_9 ?_
  exact loop 12 q (Nat.le_refl 12) hq rfl
set_option maxRecDepth 100000 in
set_option maxHeartbeats 4000000 in
theorem m_X4_take (l : Launch) (G : zG) (sh : zH) (v : zV) (N : Nat) {a : Nat} {r : Nat → Nat} {rk q : Nat} (hp : zSP G sh N a) (hv : zsp v a r rk) (hq : q < 2 ^ 20) (hr : ∀ j, j < 12 → r j < 2 ^ 20) : zm l G yX4_take cX4_take 5 (some .boolean) 0 [.ref a, .int (nI q)] sh v N (fun rr v1 => rr = some (.int (zb (tkb r q))) ∧ zsp v1 a (tkr r q) (rk + (if tkb r q then 1 else 0)) ∧ zfr v v1 a 2) := by
  refine zM.of (by decide) rfl (Nat.le_of_ble_eq_true rfl) ?_
  intro p e s m args below meth c C
  obtain ⟨hB, hN, hs0, hs1⟩ := id hp
  obtain ⟨h1, h2⟩ := id hv
  have hd0 : G.2.2.1 ≤ a ∧ a < N := ⟨hB, by omega⟩
  have hd1 : G.2.2.1 ≤ a + 1 ∧ a + 1 < N := ⟨by omega, hN⟩
  have loop : ∀ (n x : Nat), n ≤ 12 → x < 2 ^ 20 → tkp r n x = tkp r 12 q → VV p l e ({ frames := 0, cells := 0, slots := 0, locals := 32 * 0 }) s m args below meth c 0 0 (zQ below (fun rr sh1 v1 N1 => sh1 = sh ∧ N1 = N ∧ (rr = some (.int (zb (tkb r q))) ∧ zsp v1 a (tkr r q) (rk + (if tkb r q then 1 else 0)) ∧ zfr v v1 a 2)) G args s 0 0) G 5 sh v N 10 [some (.ref a), some (.int (nI q)), some (.int (nI x)), some (.int (tI n)), none] [] := by
    intro n
    induction n with
    | zero =>
      intro x hn hx0 hx
      refine r_iload_n C (pc := 10) rfl rfl dX4_take_10 ?_
      refine r_if_lt C (pc := 11) (tgt := 75) dX4_take_11 (by decide) (fun c_11 => ?_) (fun c_11 => by exfalso; exact c_11 tI_0)
      refine r_iconst C (pc := 75) (x := (nI 0)) (by decide) dX4_take_75 ?_
      exact r_iret C (pc := 76) rfl (rfl) dX4_take_76 ⟨rfl, rfl, by rw [show tkb r q = false by rw [tkb, ← hx]; rfl]; rfl, by rw [show tkb r q = false by rw [tkb, ← hx]; rfl, show tkr r q = r by rw [tkr, ← hx]; rfl]; exact hv, zfr.rf⟩
    | succ n ih =>
      intro x hn hx0 hx
      rw [tI_s n]
      refine r_iload_n C (pc := 10) rfl rfl dX4_take_10 ?_
      refine n_if_lt C (pc := 11) (by omega) dX4_take_11 ?_
      refine r_iconst C (pc := 14) (x := (nI 1)) (by decide) dX4_take_14 ?_
      refine r_bipush C (pc := 15) (x := (nI 8)) (by decide) dX4_take_15 ?_
      refine r_iload_n C (pc := 17) rfl rfl dX4_take_17 ?_
      refine r_iadd C (pc := 18) (z := (nI (8 + n))) (nI_add _ _) dX4_take_18 ?_
      refine r_ishl C (pc := 19) (z := (nI (2 ^ (8 + n)))) (nI_shl1 (by omega)) dX4_take_19 ?_
      refine r_istore C (pc := 20) (lv2 := [some (.ref a), some (.int (nI q)), some (.int (nI x)), some (.int (nI n)), some (.int (nI (2 ^ (8 + n))))]) (Nat.le_of_ble_eq_true rfl) rfl rfl dX4_take_20 ?_
      refine r_iload_n C (pc := 22) rfl rfl dX4_take_22 ?_
      refine r_iload C (pc := 23) rfl dX4_take_23 ?_
      refine r_iand C (pc := 25) (z := (nI (x &&& 2 ^ (8 + n)))) (nx_and _ _) dX4_take_25 ?_
      refine n_if_ne C (pc := 26) (tgt := 32) (and_lt (by omega)) dX4_take_26 (by decide) (fun c_26 => ?_) (fun c_26 => ?_)
      · refine r_aload_n C (pc := 32) rfl rfl dX4_take_32 ?_
        refine r_get C (pc := 33) (ci := 4) (k := 0) (w := .ref (a + 1)) rfl (by decide) inX4 (by decide) q_170 (Or.inl hd0) hs0 (zl_ref _ _) dX4_take_33 ?_
        refine r_iload_n C (pc := 36) rfl rfl dX4_take_36 ?_
        refine r_iald C (pc := 37) (x := (nI (r n))) (Or.inl hd1) hs1 (by omega) (by omega) (h2 n (by omega)) dX4_take_37 ?_
        refine n_if_ne C (pc := 38) (tgt := 60) (by have := hr n (by omega); omega) dX4_take_38 (by decide) (fun c_38 => ?_) (fun c_38 => ?_)
        · refine r_iload_n C (pc := 60) rfl rfl dX4_take_60 ?_
          refine r_aload_n C (pc := 61) rfl rfl dX4_take_61 ?_
          refine r_get C (pc := 62) (ci := 4) (k := 0) (w := .ref (a + 1)) rfl (by decide) inX4 (by decide) q_170 (Or.inl hd0) hs0 (zl_ref _ _) dX4_take_62 ?_
          refine r_iload_n C (pc := 65) rfl rfl dX4_take_65 ?_
          refine r_iald C (pc := 66) (x := (nI (r n))) (Or.inl hd1) hs1 (by omega) (by omega) (h2 n (by omega)) dX4_take_66 ?_
          refine r_ixor C (pc := 67) (z := (nI (x ^^^ r n))) (nx_xor _ _) dX4_take_67 ?_
          refine r_istore_n C (pc := 68) (lv2 := [some (.ref a), some (.int (nI q)), some (.int (nI (x ^^^ r n))), some (.int (nI n)), some (.int (nI (2 ^ (8 + n))))]) rfl (Nat.le_of_ble_eq_true rfl) rfl rfl dX4_take_68 ?_
          refine r_iinc C (pc := 69) (lv2 := [some (.ref a), some (.int (nI q)), some (.int (nI (x ^^^ r n))), some (.int (tI n)), some (.int (nI (2 ^ (8 + n))))]) (y := (tI n)) rfl (rfl) (Nat.le_of_ble_eq_true rfl) rfl rfl dX4_take_69 ?_
          refine r_goto C (pc := 72) (tgt := 10) dX4_take_72 (by decide) ?_
          refine VV.fg 4 (lv2 := [some (.ref a), some (.int (nI q)), some (.int (nI (x ^^^ r n))), some (.int (tI n)), none]) rfl ?_
          exact ih (x ^^^ r n) (by omega) (xor20 hx0 (hr n (by omega))) (by rw [← hx]; show _ = (if _ then (if _ then _ else _) else _); rw [if_pos (tb_pos.mp c_26), if_neg (by omega)])
        · have hsm : tkp r (n + 1) x = some (n, x) := by
            show (if _ then (if _ then _ else _) else _) = _
            rw [if_pos (tb_pos.mp c_26), if_pos c_38]
          refine r_aload_n C (pc := 41) rfl rfl dX4_take_41 ?_
          refine r_get C (pc := 42) (ci := 4) (k := 0) (w := .ref (a + 1)) rfl (by decide) inX4 (by decide) q_170 (Or.inl hd0) hs0 (zl_ref _ _) dX4_take_42 ?_
          refine r_iload_n C (pc := 45) rfl rfl dX4_take_45 ?_
          refine r_iload_n C (pc := 46) rfl rfl dX4_take_46 ?_
          refine r_iast C (pc := 47) hd1 hs1 (by omega) (by omega) dX4_take_47 ?_
          refine VV.gn (fun w47 ew47 => ?_)
          refine r_aload_n C (pc := 48) rfl rfl dX4_take_48 ?_
          refine r_dup C (pc := 49) rfl dX4_take_49 ?_
          refine r_get C (pc := 50) (ci := 4) (k := 1) (w := .int (nI rk)) rfl (by decide) inX4 (by decide) q_171 (Or.inl hd0) hs0 (zl_i (by rw [ew47, z2_addr (by omega)]; exact h1)) dX4_take_50 ?_
          refine r_iconst C (pc := 53) (x := (nI 1)) (by decide) dX4_take_53 ?_
          refine r_iadd C (pc := 54) (z := (nI (rk + 1))) (nI_add _ _) dX4_take_54 ?_
          refine r_put C (pc := 55) (ci := 4) (k := 1) rfl (by decide) inX4 tyX4_ok nmX4 (by decide) rfl pfI rfl q_171 hd0 hs0 dX4_take_55 ?_
          refine VV.gn (fun w55 ew55 => ?_)
          refine r_iconst C (pc := 58) (x := (nI 1)) (by decide) dX4_take_58 ?_
          exact r_iret C (pc := 59) rfl (rfl) dX4_take_59 ⟨rfl, rfl, by rw [show tkb r q = true by rw [tkb, ← hx, hsm]; rfl]; rfl, by rw [show tkb r q = true by rw [tkb, ← hx, hsm]; rfl, show tkr r q = ups r n x by rw [tkr, ← hx, hsm]]; exact ⟨by rw [ew55, z2_self]; rfl, by rw [ew55, z2_addr (by omega), ew47]; exact z2_row h2⟩, by rw [ew55, ew47]; exact (zfr.rf.z2 (by omega) (by omega)).z2 (by omega) (by omega)⟩
      · refine r_goto C (pc := 29) (tgt := 69) dX4_take_29 (by decide) ?_
        refine r_iinc C (pc := 69) (lv2 := [some (.ref a), some (.int (nI q)), some (.int (nI x)), some (.int (tI n)), some (.int (nI (2 ^ (8 + n))))]) (y := (tI n)) rfl (rfl) (Nat.le_of_ble_eq_true rfl) rfl rfl dX4_take_69 ?_
        refine r_goto C (pc := 72) (tgt := 10) dX4_take_72 (by decide) ?_
        refine VV.fg 4 (lv2 := [some (.ref a), some (.int (nI q)), some (.int (nI x)), some (.int (tI n)), none]) rfl ?_
        exact ih x (by omega) hx0 (by rw [← hx]; show _ = (if _ then _ else _); rw [if_neg (by rw [tb_zero.mp c_26]; decide)])
  refine r_iload_n C (pc := 0) rfl rfl dX4_take_0 ?_
  refine r_istore_n C (pc := 1) (lv2 := [some (.ref a), some (.int (nI q)), some (.int (nI q)), none, none]) rfl (Nat.le_of_ble_eq_true rfl) rfl rfl dX4_take_1 ?_
  refine r_aload_n C (pc := 2) rfl rfl dX4_take_2 ?_
  refine r_get C (pc := 3) (ci := 4) (k := 0) (w := .ref (a + 1)) rfl (by decide) inX4 (by decide) q_170 (Or.inl hd0) hs0 (zl_ref _ _) dX4_take_3 ?_
  refine r_alen C (pc := 6) (x := nI 12) (Or.inl hd1) hs1 (by decide) rfl rfl dX4_take_6 ?_
  refine r_iconst C (pc := 7) (x := (nI 1)) (by decide) dX4_take_7 ?_
  refine r_isub C (pc := 8) (z := (tI 12)) (tI_12) dX4_take_8 ?_
  refine r_istore_n C (pc := 9) (lv2 := [some (.ref a), some (.int (nI q)), some (.int (nI q)), some (.int (tI 12)), none]) rfl (Nat.le_of_ble_eq_true rfl) rfl rfl dX4_take_9 ?_
  exact loop 12 q (Nat.le_refl 12) hq rfl
set_option maxRecDepth 100000 in
set_option maxHeartbeats 4000000 in
theorem m_X4_clear (l : Launch) (G : zG) (sh : zH) (v : zV) (N : Nat) {a : Nat} {r : Nat → Nat} {rk : Nat} (hp : zSP G sh N a) (hv : zsp v a r rk) : zm l G yX4_clear cX4_clear 2 none 0 [.ref a] sh v N (fun rr v1 => rr = none ∧ zsp v1 a (fun _ => 0) 0 ∧ zfr v v1 a 2) := by
  refine zM.of (by decide) rfl (Nat.le_of_ble_eq_true rfl) ?_
  intro p e s m args below meth c C
  obtain ⟨hB, hN, hs0, hs1⟩ := id hp
  obtain ⟨h1, h2⟩ := id hv
  have hd0 : G.2.2.1 ≤ a ∧ a < N := ⟨hB, by omega⟩
  have hd1 : G.2.2.1 ≤ a + 1 ∧ a + 1 < N := ⟨by omega, hN⟩
  have loop : ∀ (n i : Nat) (v' : zV), 12 - i < n → i ≤ 12 → (∀ j, j < i → v' (a + 1) j = nI 0) → zfr v v' a 2 → VV p l e ({ frames := 0, cells := 0, slots := 0, locals := 32 * 0 }) s m args below meth c 0 0 (zQ below (fun rr sh1 v1 N1 => sh1 = sh ∧ N1 = N ∧ (rr = none ∧ zsp v1 a (fun _ => 0) 0 ∧ zfr v v1 a 2)) G args s 0 0) G 2 sh v' N 2 [some (.ref a), some (.int (nI i))] [] := by
    intro n
    induction n with
    | zero => intro i v' hm; omega
    | succ n ih =>
      intro i v' hm hi e1 e2
      refine r_iload_n C (pc := 2) rfl rfl dX4_clear_2 ?_
      refine r_aload_n C (pc := 3) rfl rfl dX4_clear_3 ?_
      refine r_get C (pc := 4) (ci := 4) (k := 0) (w := .ref (a + 1)) rfl (by decide) inX4 (by decide) q_170 (Or.inl hd0) hs0 (zl_ref _ _) dX4_clear_4 ?_
      refine r_alen C (pc := 7) (x := nI 12) (Or.inl hd1) hs1 (by decide) rfl rfl dX4_clear_7 ?_
      refine n_icmp_ge C (pc := 8) (tgt := 24) (by omega) (by omega) dX4_clear_8 (by decide) (fun c_8 => ?_) (fun c_8 => ?_)
      · refine r_aload_n C (pc := 24) rfl rfl dX4_clear_24 ?_
        refine r_iconst C (pc := 25) (x := (nI 0)) (by decide) dX4_clear_25 ?_
        refine r_put C (pc := 26) (ci := 4) (k := 1) rfl (by decide) inX4 tyX4_ok nmX4 (by decide) rfl pfI rfl q_171 hd0 hs0 dX4_clear_26 ?_
        refine VV.gn (fun w26 ew26 => ?_)
        exact r_vret C (pc := 29) rfl dX4_clear_29 ⟨rfl, rfl, rfl, ⟨by rw [ew26, z2_self], by rw [ew26, z2_addr (by omega)]; exact fun j hj => e1 j (by omega)⟩, by rw [ew26]; exact e2.z2 (by omega) (by omega)⟩
      · refine r_aload_n C (pc := 11) rfl rfl dX4_clear_11 ?_
        refine r_get C (pc := 12) (ci := 4) (k := 0) (w := .ref (a + 1)) rfl (by decide) inX4 (by decide) q_170 (Or.inl hd0) hs0 (zl_ref _ _) dX4_clear_12 ?_
        refine r_iload_n C (pc := 15) rfl rfl dX4_clear_15 ?_
        refine r_iconst C (pc := 16) (x := (nI 0)) (by decide) dX4_clear_16 ?_
        refine r_iast C (pc := 17) hd1 hs1 (by omega) (by omega) dX4_clear_17 ?_
        refine VV.gn (fun w17 ew17 => ?_)
        refine r_iinc C (pc := 18) (lv2 := [some (.ref a), some (.int (nI (i + 1)))]) (y := (nI (i + 1))) rfl (nI_inc _ _) (Nat.le_of_ble_eq_true rfl) rfl rfl dX4_clear_18 ?_
        refine r_goto C (pc := 21) (tgt := 2) dX4_clear_21 (by decide) ?_
        exact ih (i + 1) w17 (by omega) (by omega) (fun j hj => by
          rw [ew17]
          by_cases hji : j = i
          · subst hji; rw [z2_self]
          · rw [z2_ne (by omega)]; exact e1 j (by omega)) (by rw [ew17]; exact e2.z2 (by omega) (by omega))
  refine r_iconst C (pc := 0) (x := (nI 0)) (by decide) dX4_clear_0 ?_
  refine r_istore_n C (pc := 1) (lv2 := [some (.ref a), some (.int (nI 0))]) rfl (Nat.le_of_ble_eq_true rfl) rfl rfl dX4_clear_1 ?_
  exact loop 13 0 v (by omega) (by omega) (fun j hj => by omega) zfr.rf
set_option maxRecDepth 100000 in
set_option maxHeartbeats 4000000 in
theorem m_X4_copyFrom (l : Launch) (G : zG) (sh : zH) (v : zV) (N : Nat) {a o : Nat} {r r2 : Nat → Nat} {rk rk2 : Nat} (hp : zSP G sh N a) (hv : zsp v a r rk) (hpo : zSP G sh N o) (hvo : zsp v o r2 rk2) (hno : o + 2 ≤ a ∨ a + 2 ≤ o) : zm l G yX4_copyFrom cX4_copyFrom 2 none 2 [.ref a, .ref o] sh v N (fun rr v1 => rr = none ∧ zsp v1 a r2 rk2 ∧ zfr v v1 a 2) := by
  refine zM.of (by decide) rfl (Nat.le_of_ble_eq_true rfl) ?_
  intro p e s m args below meth c C
  obtain ⟨hB, hN, hs0, hs1⟩ := id hp
  obtain ⟨h1, h2⟩ := id hv
  have hd0 : G.2.2.1 ≤ a ∧ a < N := ⟨hB, by omega⟩
  have hd1 : G.2.2.1 ≤ a + 1 ∧ a + 1 < N := ⟨by omega, hN⟩
  obtain ⟨gB, gN, ho0, ho1⟩ := id hpo
  obtain ⟨g1, g2⟩ := id hvo
  have gd0 : G.2.2.1 ≤ o ∧ o < N := ⟨gB, by omega⟩
  have gd1 : G.2.2.1 ≤ o + 1 ∧ o + 1 < N := ⟨by omega, gN⟩
  refine r_aload_n C (pc := 0) rfl rfl dX4_copyFrom_0 ?_
  refine r_get C (pc := 1) (ci := 4) (k := 0) (w := .ref (o + 1)) rfl (by decide) inX4 (by decide) q_170 (Or.inl gd0) ho0 (zl_ref _ _) dX4_copyFrom_1 ?_
  refine r_aload_n C (pc := 4) rfl rfl dX4_copyFrom_4 ?_
  refine r_get C (pc := 5) (ci := 4) (k := 0) (w := .ref (a + 1)) rfl (by decide) inX4 (by decide) q_170 (Or.inl hd0) hs0 (zl_ref _ _) dX4_copyFrom_5 ?_
  refine r_callSN C (pc := 8) (st := []) (m_X6_copyRow l G sh v N (a0 := o + 1) (a := a + 1) (n := 12) (by omega) (by omega) (Or.inl gd1) ho1 hd1 hs1) kyX6_copyRow q_324 rfl rfl (Nat.le_of_ble_eq_true rfl) ⟨Nat.le_of_ble_eq_true rfl, Nat.le_of_ble_eq_true rfl⟩ ⟨Nat.le_of_ble_eq_true rfl, Nat.le_of_ble_eq_true rfl⟩ dX4_copyFrom_8 (fun r8 v8 hp8 => ?_)
  obtain ⟨rfl, hz8⟩ := hp8
  refine VV.eq (st2 := []) rfl ?_
  refine r_aload_n C (pc := 11) rfl rfl dX4_copyFrom_11 ?_
  refine r_aload_n C (pc := 12) rfl rfl dX4_copyFrom_12 ?_
  refine r_get C (pc := 13) (ci := 4) (k := 1) (w := .int (nI rk2)) rfl (by decide) inX4 (by decide) q_171 (Or.inl gd0) ho0 (zl_i (by rw [hz8, zcp_ne (by omega)]; exact g1)) dX4_copyFrom_13 ?_
  refine r_put C (pc := 16) (ci := 4) (k := 1) rfl (by decide) inX4 tyX4_ok nmX4 (by decide) rfl pfI rfl q_171 hd0 hs0 dX4_copyFrom_16 ?_
  refine VV.gn (fun w16 ew16 => ?_)
  exact r_vret C (pc := 19) rfl dX4_copyFrom_19 ⟨rfl, rfl, rfl, ⟨by rw [ew16, z2_self], fun k hk => by rw [ew16, z2_addr (by omega), hz8, zcp_at (by omega)]; exact g2 k hk⟩, fun b hb => by rw [ew16, z2_addr (by omega), hz8, zcp_ne (by omega)]⟩
end
section
set_option maxRecDepth 100000 in
set_option maxHeartbeats 4000000 in
theorem m_X0_has (l : Launch) (G : zG) (sh : zH) (v : zV) (N : Nat) {a : Nat} {V : Nat → Nat} {tm : Nat → Option Nat} {b : Nat} (hp : zFI G sh N a) (hv : zfi v a V tm) (hb : b < 12) (hV : ∀ b, b < 12 → V b < 256) : zm l G yX0_has cX0_has 2 (some .boolean) 0 [.ref a, .int (nI b)] sh v N (fun r v1 => r = some (.int (zb (tm b).isSome)) ∧ v1 = v) := by
  refine zM.of (by decide) rfl (Nat.le_of_ble_eq_true rfl) ?_
  intro p e s m args below meth c C
  obtain ⟨hB, hN, hs0, hs1, hs2⟩ := id hp
  obtain ⟨h1, h2, h3⟩ := id hv
  have hd0 : G.2.2.1 ≤ a ∧ a < N := ⟨hB, by omega⟩
  have hd1 : G.2.2.1 ≤ a + 1 ∧ a + 1 < N := ⟨by omega, by omega⟩
  have hd2 : G.2.2.1 ≤ a + 2 ∧ a + 2 < N := ⟨by omega, hN⟩
  refine r_iload_n C (pc := 0) rfl rfl dX0_has_0 ?_
  refine n_if_lt C (pc := 1) (by omega) dX0_has_1 ?_
  refine r_iload_n C (pc := 4) rfl rfl dX0_has_4 ?_
  refine r_aload_n C (pc := 5) rfl rfl dX0_has_5 ?_
  refine r_get C (pc := 6) (ci := 0) (k := 0) (w := .ref (a + 1)) rfl (by decide) inX0 (by decide) q_184 (Or.inl hd0) hs0 (zl_ref _ _) dX0_has_6 ?_
  refine r_alen C (pc := 9) (x := nI 12) (Or.inl hd1) hs1 (by decide) rfl rfl dX0_has_9 ?_
  refine n_icmp_ge C (pc := 10) (tgt := 26) (by omega) (by omega) dX0_has_10 (by decide) (fun c_10 => by exfalso; omega) (fun c_10 => ?_)
  refine r_aload_n C (pc := 13) rfl rfl dX0_has_13 ?_
  refine r_get C (pc := 14) (ci := 0) (k := 0) (w := .ref (a + 1)) rfl (by decide) inX0 (by decide) q_184 (Or.inl hd0) hs0 (zl_ref _ _) dX0_has_14 ?_
  refine r_iload_n C (pc := 17) rfl rfl dX0_has_17 ?_
  refine r_iald C (pc := 18) (x := (nI (sgl V tm b))) (Or.inl hd1) hs1 (by omega) (by omega) (h2 b hb) dX0_has_18 ?_
  refine n_if_eq C (pc := 19) (tgt := 26) (by have := sgl_lt (tm := tm) hb hV; omega) dX0_has_19 (by decide) (fun c_19 => ?_) (fun c_19 => ?_)
  · refine r_iconst C (pc := 26) (x := (nI 0)) (by decide) dX0_has_26 ?_
    exact r_iret C (pc := 27) rfl (rfl) dX0_has_27 ⟨rfl, rfl, by rw [sgl_0.mp c_19]; rfl, rfl⟩
  · refine r_iconst C (pc := 22) (x := (nI 1)) (by decide) dX0_has_22 ?_
    refine r_goto C (pc := 23) (tgt := 27) dX0_has_23 (by decide) ?_
    exact r_iret C (pc := 27) rfl (rfl) dX0_has_27 ⟨rfl, rfl, by rw [show (tm b).isSome = true by cases h : (tm b).isSome with | true => rfl | false => rw [sgl_0.mpr h] at c_19; omega]; rfl, rfl⟩
set_option maxRecDepth 100000 in
set_option maxHeartbeats 4000000 in
theorem m_X0_valueAt (l : Launch) (G : zG) (sh : zH) (v : zV) (N : Nat) {a : Nat} {V : Nat → Nat} {tm : Nat → Option Nat} {b : Nat} (hp : zFI G sh N a) (hv : zfi v a V tm) (hb : b < 12) (hV : ∀ b, b < 12 → V b < 256) : zm l G yX0_valueAt cX0_valueAt 2 (some .int) 1 [.ref a, .int (nI b)] sh v N (fun r v1 => r = some (.int (if (tm b).isSome then nI (V b) else -9)) ∧ v1 = v) := by
  refine zM.of (by decide) rfl (Nat.le_of_ble_eq_true rfl) ?_
  intro p e s m args below meth c C
  obtain ⟨hB, hN, hs0, hs1, hs2⟩ := id hp
  obtain ⟨h1, h2, h3⟩ := id hv
  have hd0 : G.2.2.1 ≤ a ∧ a < N := ⟨hB, by omega⟩
  have hd1 : G.2.2.1 ≤ a + 1 ∧ a + 1 < N := ⟨by omega, by omega⟩
  have hd2 : G.2.2.1 ≤ a + 2 ∧ a + 2 < N := ⟨by omega, hN⟩
  refine r_aload_n C (pc := 0) rfl rfl dX0_valueAt_0 ?_
  refine r_iload_n C (pc := 1) rfl rfl dX0_valueAt_1 ?_
  refine r_callV C (pc := 2) (st := []) (m_X0_has l G sh v N hp hv hb hV) kyX0_has q_581 rfl (Or.inl hd0) hs0 (by decide) rfl rfl rfl (Nat.le_of_ble_eq_true rfl) ⟨Nat.le_of_ble_eq_true rfl, Nat.le_of_ble_eq_true rfl⟩ ⟨Nat.le_of_ble_eq_true rfl, Nat.le_of_ble_eq_true rfl⟩ dX0_valueAt_2 (fun r2 v2 hp2 => ?_)
  obtain ⟨rfl, ehp2⟩ := hp2
  refine VV.vq ehp2 ?_
  refine VV.eq (st2 := [.int (zb ((tm b).isSome))]) rfl ?_
  refine n_ifb_eq C (pc := 5) (tgt := 20) dX0_valueAt_5 (by decide) (fun c_5 => ?_) (fun c_5 => ?_)
  · refine r_bipush C (pc := 20) (x := (-9)) (by decide) dX0_valueAt_20 ?_
    exact r_iret C (pc := 22) rfl (rfl) dX0_valueAt_22 ⟨rfl, rfl, by rw [c_5]; rfl, rfl⟩
  · refine r_aload_n C (pc := 8) rfl rfl dX0_valueAt_8 ?_
    refine r_get C (pc := 9) (ci := 0) (k := 0) (w := .ref (a + 1)) rfl (by decide) inX0 (by decide) q_184 (Or.inl hd0) hs0 (zl_ref _ _) dX0_valueAt_9 ?_
    refine r_iload_n C (pc := 12) rfl rfl dX0_valueAt_12 ?_
    refine r_iald C (pc := 13) (x := (nI (sgl V tm b))) (Or.inl hd1) hs1 (by omega) (by omega) (h2 b hb) dX0_valueAt_13 ?_
    refine r_callSN C (pc := 14) (st := []) (m_X6_valueIn l G sh v N (q := sgl V tm b)) kyX6_valueIn q_585 rfl rfl (Nat.le_of_ble_eq_true rfl) ⟨Nat.le_of_ble_eq_true rfl, Nat.le_of_ble_eq_true rfl⟩ ⟨Nat.le_of_ble_eq_true rfl, Nat.le_of_ble_eq_true rfl⟩ dX0_valueAt_14 (fun r14 v14 hp14 => ?_)
    obtain ⟨rfl, ehp14⟩ := hp14
    refine VV.vq ehp14 ?_
    refine VV.eq (st2 := [.int (nI (sgl V tm b % 256))]) rfl ?_
    refine r_goto C (pc := 17) (tgt := 22) dX0_valueAt_17 (by decide) ?_
    exact r_iret C (pc := 22) rfl (rfl) dX0_valueAt_22 ⟨rfl, rfl, by rw [sgl_mod hb hV c_5, if_pos c_5], rfl⟩
set_option maxRecDepth 100000 in
set_option maxHeartbeats 4000000 in
theorem m_X0_add (l : Launch) (G : zG) (sh : zH) (v : zV) (N : Nat) {a : Nat} {V : Nat → Nat} {tm : Nat → Option Nat} {b t : Nat} (hp : zFI G sh N a) (hv : zfi v a V tm) (hb : b < 12) (hV : ∀ b, b < 12 → V b < 256) : zm l G yX0_add cX0_add 4 none 1 [.ref a, .int (nI (2 ^ (8 + b) + V b)), .int (nI t)] sh v N (fun r v1 => r = none ∧ zfi v1 a V (if (tm b).isSome then tm else upo tm b t) ∧ zfr v v1 a 3) := by
  refine zM.of (by decide) rfl (Nat.le_of_ble_eq_true rfl) ?_
  intro p e s m args below meth c C
  obtain ⟨hB, hN, hs0, hs1, hs2⟩ := id hp
  obtain ⟨h1, h2, h3⟩ := id hv
  have hd0 : G.2.2.1 ≤ a ∧ a < N := ⟨hB, by omega⟩
  have hd1 : G.2.2.1 ≤ a + 1 ∧ a + 1 < N := ⟨by omega, by omega⟩
  have hd2 : G.2.2.1 ≤ a + 2 ∧ a + 2 < N := ⟨by omega, hN⟩
  have loop : ∀ (n i : Nat) (v' : zV), 12 - i < n → i ≤ 12 → zfi v' a V (if i ≤ b ∨ (tm b).isSome = true then tm else upo tm b t) → zfr v v' a 3 → VV p l e ({ frames := 1, cells := 0, slots := 0, locals := 32 * 1 }) s m args below meth c 0 0 (zQ below (fun r sh1 v1 N1 => sh1 = sh ∧ N1 = N ∧ (r = none ∧ zfi v1 a V (if (tm b).isSome then tm else upo tm b t) ∧ zfr v v1 a 3)) G args s 0 0) G 4 sh v' N 2 [some (.ref a), some (.int (nI (2 ^ (8 + b) + V b))), some (.int (nI t)), some (.int (nI i))] [] := by
    intro n
    induction n with
    | zero => intro i v' hm; omega
    | succ n ih =>
      intro i v' hm hi e1 e2
      refine r_iload_n C (pc := 2) rfl rfl dX0_add_2 ?_
      refine r_aload_n C (pc := 3) rfl rfl dX0_add_3 ?_
      refine r_get C (pc := 4) (ci := 0) (k := 0) (w := .ref (a + 1)) rfl (by decide) inX0 (by decide) q_184 (Or.inl hd0) hs0 (zl_ref _ _) dX0_add_4 ?_
      refine r_alen C (pc := 7) (x := nI 12) (Or.inl hd1) hs1 (by decide) rfl rfl dX0_add_7 ?_
      refine n_icmp_ge C (pc := 8) (tgt := 67) (by omega) (by omega) dX0_add_8 (by decide) (fun c_8 => ?_) (fun c_8 => ?_)
      · exact r_vret C (pc := 67) rfl dX0_add_67 ⟨rfl, rfl, rfl, (by
          by_cases hc : (tm b).isSome = true
          · rw [if_pos hc]; rw [if_pos (Or.inr hc)] at e1; exact e1
          · rw [if_neg hc]; rw [if_neg (by intro z; rcases z with z | z; omega; exact hc z)] at e1; exact e1), e2⟩
      · refine r_iload_n C (pc := 11) rfl rfl dX0_add_11 ?_
        refine r_aload_n C (pc := 12) rfl rfl dX0_add_12 ?_
        refine r_get C (pc := 13) (ci := 0) (k := 1) (w := .ref (a + 2)) rfl (by decide) inX0 (by decide) q_185 (Or.inl hd0) hs0 (zl_ref _ _) dX0_add_13 ?_
        refine r_alen C (pc := 16) (x := nI 12) (Or.inl hd2) hs2 (by decide) rfl rfl dX0_add_16 ?_
        refine n_icmp_ge C (pc := 17) (tgt := 67) (by omega) (by omega) dX0_add_17 (by decide) (fun c_17 => by exfalso; omega) (fun c_17 => ?_)
        refine r_iload_n C (pc := 20) rfl rfl dX0_add_20 ?_
        refine r_iload_n C (pc := 21) rfl rfl dX0_add_21 ?_
        refine r_callSN C (pc := 22) (st := []) (m_X6_hasBlock l G sh v' N (q := (2 ^ (8 + b) + V b)) (b := i) (by have := p20 hb (hV b hb); omega) (by omega)) kyX6_hasBlock q_488 rfl rfl (Nat.le_of_ble_eq_true rfl) ⟨Nat.le_of_ble_eq_true rfl, Nat.le_of_ble_eq_true rfl⟩ ⟨Nat.le_of_ble_eq_true rfl, Nat.le_of_ble_eq_true rfl⟩ dX0_add_22 (fun r22 v22 hp22 => ?_)
        obtain ⟨rfl, ehp22⟩ := hp22
        refine VV.vq ehp22 ?_
        refine VV.eq (st2 := [.int (zb ((2 ^ (8 + b) + V b).testBit (8 + i)))]) rfl ?_
        refine n_ifb_eq C (pc := 25) (tgt := 61) dX0_add_25 (by decide) (fun c_25 => ?_) (fun c_25 => ?_)
        · refine r_iinc C (pc := 61) (lv2 := [some (.ref a), some (.int (nI (2 ^ (8 + b) + V b))), some (.int (nI t)), some (.int (nI (i + 1)))]) (y := (nI (i + 1))) rfl (nI_inc _ _) (Nat.le_of_ble_eq_true rfl) rfl rfl dX0_add_61 ?_
          refine r_goto C (pc := 64) (tgt := 2) dX0_add_64 (by decide) ?_
          exact ih (i + 1) v' (by omega) (by omega) (by
            have hib : i ≠ b := by
              rw [bit_one hb (hV b hb)] at c_25
              simpa using c_25
            by_cases hc : i ≤ b ∨ (tm b).isSome = true
            · rw [if_pos hc] at e1; rw [if_pos (by omega)]; exact e1
            · rw [if_neg hc] at e1; rw [if_neg (by omega)]; exact e1) e2
        · have hib : i = b := by
            rw [bit_one hb (hV b hb)] at c_25
            simpa using c_25
          subst hib
          rw [if_pos (Or.inl (Nat.le_refl i))] at e1
          refine r_aload_n C (pc := 28) rfl rfl dX0_add_28 ?_
          refine r_get C (pc := 29) (ci := 0) (k := 0) (w := .ref (a + 1)) rfl (by decide) inX0 (by decide) q_184 (Or.inl hd0) hs0 (zl_ref _ _) dX0_add_29 ?_
          refine r_iload_n C (pc := 32) rfl rfl dX0_add_32 ?_
          refine r_iald C (pc := 33) (x := (nI (sgl V tm i))) (Or.inl hd1) hs1 (by omega) (by omega) (e1.2.1 i (by omega)) dX0_add_33 ?_
          refine n_if_ne C (pc := 34) (tgt := 61) (by have := sgl_lt (tm := tm) (b := i) (by omega) hV; omega) dX0_add_34 (by decide) (fun c_34 => ?_) (fun c_34 => ?_)
          · have hso : (tm i).isSome = true := by
              cases h : (tm i).isSome with
              | true => rfl
              | false => rw [sgl_0.mpr h] at c_34; omega
            refine r_iinc C (pc := 61) (lv2 := [some (.ref a), some (.int (nI (2 ^ (8 + b) + V b))), some (.int (nI t)), some (.int (nI (i + 1)))]) (y := (nI (i + 1))) rfl (nI_inc _ _) (Nat.le_of_ble_eq_true rfl) rfl rfl dX0_add_61 ?_
            refine r_goto C (pc := 64) (tgt := 2) dX0_add_64 (by decide) ?_
            exact ih (i + 1) v' (by omega) (by omega) (by rw [if_pos (Or.inr hso)]; rw [if_pos (Or.inr hso)] at e1; exact e1) e2
          · have hno : (tm i).isSome = false := sgl_0.mp c_34
            refine r_aload_n C (pc := 37) rfl rfl dX0_add_37 ?_
            refine r_get C (pc := 38) (ci := 0) (k := 0) (w := .ref (a + 1)) rfl (by decide) inX0 (by decide) q_184 (Or.inl hd0) hs0 (zl_ref _ _) dX0_add_38 ?_
            refine r_iload_n C (pc := 41) rfl rfl dX0_add_41 ?_
            refine r_iload_n C (pc := 42) rfl rfl dX0_add_42 ?_
            refine r_iast C (pc := 43) hd1 hs1 (by omega) (by omega) dX0_add_43 ?_
            refine VV.gn (fun w43 ew43 => ?_)
            refine r_aload_n C (pc := 44) rfl rfl dX0_add_44 ?_
            refine r_get C (pc := 45) (ci := 0) (k := 1) (w := .ref (a + 2)) rfl (by decide) inX0 (by decide) q_185 (Or.inl hd0) hs0 (zl_ref _ _) dX0_add_45 ?_
            refine r_iload_n C (pc := 48) rfl rfl dX0_add_48 ?_
            refine r_iload_n C (pc := 49) rfl rfl dX0_add_49 ?_
            refine r_iast C (pc := 50) hd2 hs2 (by omega) (by omega) dX0_add_50 ?_
            refine VV.gn (fun w50 ew50 => ?_)
            refine r_aload_n C (pc := 51) rfl rfl dX0_add_51 ?_
            refine r_dup C (pc := 52) rfl dX0_add_52 ?_
            refine r_get C (pc := 53) (ci := 0) (k := 2) (w := .int (nI (cnt tm))) rfl (by decide) inX0 (by decide) q_187 (Or.inl hd0) hs0 (zl_i (by rw [ew50, z2_addr (by omega), ew43, z2_addr (by omega)]; exact e1.1)) dX0_add_53 ?_
            refine r_iconst C (pc := 56) (x := (nI 1)) (by decide) dX0_add_56 ?_
            refine r_iadd C (pc := 57) (z := (nI ((cnt tm) + 1))) (nI_add _ _) dX0_add_57 ?_
            refine r_put C (pc := 58) (ci := 0) (k := 2) rfl (by decide) inX0 tyX0_ok nmX0 (by decide) rfl pfI rfl q_187 hd0 hs0 dX0_add_58 ?_
            refine VV.gn (fun w58 ew58 => ?_)
            refine r_iinc C (pc := 61) (lv2 := [some (.ref a), some (.int (nI (2 ^ (8 + b) + V b))), some (.int (nI t)), some (.int (nI (i + 1)))]) (y := (nI (i + 1))) rfl (nI_inc _ _) (Nat.le_of_ble_eq_true rfl) rfl rfl dX0_add_61 ?_
            refine r_goto C (pc := 64) (tgt := 2) dX0_add_64 (by decide) ?_
            exact ih (i + 1) w58 (by omega) (by omega) (by
              rw [if_neg (by intro z; rcases z with z | z; omega; rw [hno] at z; cases z)]
              refine ⟨by rw [ew58, z2_self, cntn_upo hno 12, if_pos hb], fun j hj => ?_, fun j hj => ?_⟩
              · rw [ew58, z2_addr (by omega), ew50, z2_addr (by omega), ew43]
                by_cases hjb : j = b
                · subst hjb; rw [z2_self]; simp [sgl, upo]
                · rw [z2_ne (by omega), e1.2.1 j hj]; simp [sgl, upo, hjb]
              · rw [ew58, z2_addr (by omega), ew50]
                by_cases hjb : j = b
                · subst hjb; rw [z2_self]; simp [tmI, upo]
                · rw [z2_ne (by omega), ew43, z2_addr (by omega), e1.2.2 j hj]; simp [upo, hjb]) (by rw [ew58, ew50, ew43]; exact ((e2.z2 (by omega) (by omega)).z2 (by omega) (by omega)).z2 (by omega) (by omega))
  refine r_iconst C (pc := 0) (x := (nI 0)) (by decide) dX0_add_0 ?_
  refine r_istore_n C (pc := 1) (lv2 := [some (.ref a), some (.int (nI (2 ^ (8 + b) + V b))), some (.int (nI t)), some (.int (nI 0))]) rfl (Nat.le_of_ble_eq_true rfl) rfl rfl dX0_add_1 ?_
  exact loop 13 0 v (by omega) (by omega) (by rw [if_pos (Or.inl (Nat.zero_le b))]; exact hv) zfr.rf
set_option maxRecDepth 100000 in
set_option maxHeartbeats 4000000 in
theorem m_X0_takenOutOf (l : Launch) (G : zG) (sh : zH) (v : zV) (N : Nat) {a : Nat} {V : Nat → Nat} {tm : Nat → Option Nat} {q : Nat} (hp : zFI G sh N a) (hv : zfi v a V tm) (hq : q < 2 ^ 20) (hV : ∀ b, b < 12 → V b < 256) : zm l G yX0_takenOutOf cX0_takenOutOf 4 (some .int) 1 [.ref a, .int (nI q)] sh v N (fun r v1 => r = some (.int (nI (tofn V tm q 12))) ∧ v1 = v) := by
  refine zM.of (by decide) rfl (Nat.le_of_ble_eq_true rfl) ?_
  intro p e s m args below meth c C
  obtain ⟨hB, hN, hs0, hs1, hs2⟩ := id hp
  obtain ⟨h1, h2, h3⟩ := id hv
  have hd0 : G.2.2.1 ≤ a ∧ a < N := ⟨hB, by omega⟩
  have hd1 : G.2.2.1 ≤ a + 1 ∧ a + 1 < N := ⟨by omega, by omega⟩
  have hd2 : G.2.2.1 ≤ a + 2 ∧ a + 2 < N := ⟨by omega, hN⟩
  have loop : ∀ (n i : Nat), 12 - i < n → i ≤ 12 → VV p l e ({ frames := 1, cells := 0, slots := 0, locals := 32 * 1 }) s m args below meth c 0 0 (zQ below (fun r sh1 v1 N1 => sh1 = sh ∧ N1 = N ∧ (r = some (.int (nI (tofn V tm q 12))) ∧ v1 = v)) G args s 0 0) G 4 sh v N 4 [some (.ref a), some (.int (nI q)), some (.int (nI (tofn V tm q i))), some (.int (nI i))] [] := by
    intro n
    induction n with
    | zero => intro i hm; omega
    | succ n ih =>
      intro i hm hi
      refine r_iload_n C (pc := 4) rfl rfl dX0_takenOutOf_4 ?_
      refine r_aload_n C (pc := 5) rfl rfl dX0_takenOutOf_5 ?_
      refine r_get C (pc := 6) (ci := 0) (k := 0) (w := .ref (a + 1)) rfl (by decide) inX0 (by decide) q_184 (Or.inl hd0) hs0 (zl_ref _ _) dX0_takenOutOf_6 ?_
      refine r_alen C (pc := 9) (x := nI 12) (Or.inl hd1) hs1 (by decide) rfl rfl dX0_takenOutOf_9 ?_
      refine n_icmp_ge C (pc := 10) (tgt := 36) (by omega) (by omega) dX0_takenOutOf_10 (by decide) (fun c_10 => ?_) (fun c_10 => ?_)
      · refine r_iload_n C (pc := 36) rfl rfl dX0_takenOutOf_36 ?_
        exact r_iret C (pc := 37) rfl (rfl) dX0_takenOutOf_37 ⟨rfl, rfl, by rw [show i = 12 by omega], rfl⟩
      · refine r_iload_n C (pc := 13) rfl rfl dX0_takenOutOf_13 ?_
        refine r_iload_n C (pc := 14) rfl rfl dX0_takenOutOf_14 ?_
        refine r_callSN C (pc := 15) (st := []) (m_X6_hasBlock l G sh v N (q := q) (b := i) (by omega) (by omega)) kyX6_hasBlock q_488 rfl rfl (Nat.le_of_ble_eq_true rfl) ⟨Nat.le_of_ble_eq_true rfl, Nat.le_of_ble_eq_true rfl⟩ ⟨Nat.le_of_ble_eq_true rfl, Nat.le_of_ble_eq_true rfl⟩ dX0_takenOutOf_15 (fun r15 v15 hp15 => ?_)
        obtain ⟨rfl, ehp15⟩ := hp15
        refine VV.vq ehp15 ?_
        refine VV.eq (st2 := [.int (zb (q.testBit (8 + i)))]) rfl ?_
        refine n_ifb_eq C (pc := 18) (tgt := 30) dX0_takenOutOf_18 (by decide) (fun c_18 => ?_) (fun c_18 => ?_)
        · refine r_iinc C (pc := 30) (lv2 := [some (.ref a), some (.int (nI q)), some (.int (nI (tofn V tm q i))), some (.int (nI (i + 1)))]) (y := (nI (i + 1))) rfl (nI_inc _ _) (Nat.le_of_ble_eq_true rfl) rfl rfl dX0_takenOutOf_30 ?_
          refine r_goto C (pc := 33) (tgt := 4) dX0_takenOutOf_33 (by decide) ?_
          have hs : tofn V tm q (i + 1) = tofn V tm q i := by
            show (if _ then _ else _) = _
            rw [if_neg (by rw [c_18]; decide)]
          have := ih (i + 1) (by omega) (by omega)
          rw [hs] at this
          exact this
        · refine r_iload_n C (pc := 21) rfl rfl dX0_takenOutOf_21 ?_
          refine r_aload_n C (pc := 22) rfl rfl dX0_takenOutOf_22 ?_
          refine r_get C (pc := 23) (ci := 0) (k := 0) (w := .ref (a + 1)) rfl (by decide) inX0 (by decide) q_184 (Or.inl hd0) hs0 (zl_ref _ _) dX0_takenOutOf_23 ?_
          refine r_iload_n C (pc := 26) rfl rfl dX0_takenOutOf_26 ?_
          refine r_iald C (pc := 27) (x := (nI (sgl V tm i))) (Or.inl hd1) hs1 (by omega) (by omega) (h2 i (by omega)) dX0_takenOutOf_27 ?_
          refine r_ixor C (pc := 28) (z := (nI (tofn V tm q i ^^^ sgl V tm i))) (nx_xor _ _) dX0_takenOutOf_28 ?_
          refine r_istore_n C (pc := 29) (lv2 := [some (.ref a), some (.int (nI q)), some (.int (nI (tofn V tm q i ^^^ sgl V tm i))), some (.int (nI i))]) rfl (Nat.le_of_ble_eq_true rfl) rfl rfl dX0_takenOutOf_29 ?_
          refine r_iinc C (pc := 30) (lv2 := [some (.ref a), some (.int (nI q)), some (.int (nI (tofn V tm q i ^^^ sgl V tm i))), some (.int (nI (i + 1)))]) (y := (nI (i + 1))) rfl (nI_inc _ _) (Nat.le_of_ble_eq_true rfl) rfl rfl dX0_takenOutOf_30 ?_
          refine r_goto C (pc := 33) (tgt := 4) dX0_takenOutOf_33 (by decide) ?_
          have hs : tofn V tm q (i + 1) = tofn V tm q i ^^^ sgl V tm i := by
            show (if _ then _ else _) = _
            rw [if_pos c_18]
          have := ih (i + 1) (by omega) (by omega)
          rw [hs] at this
          exact this
  refine r_iload_n C (pc := 0) rfl rfl dX0_takenOutOf_0 ?_
  refine r_istore_n C (pc := 1) (lv2 := [some (.ref a), some (.int (nI q)), some (.int (nI q)), none]) rfl (Nat.le_of_ble_eq_true rfl) rfl rfl dX0_takenOutOf_1 ?_
  refine r_iconst C (pc := 2) (x := (nI 0)) (by decide) dX0_takenOutOf_2 ?_
  refine r_istore_n C (pc := 3) (lv2 := [some (.ref a), some (.int (nI q)), some (.int (nI q)), some (.int (nI 0))]) rfl (Nat.le_of_ble_eq_true rfl) rfl rfl dX0_takenOutOf_3 ?_
  exact loop 13 0 (by omega) (by omega)
set_option maxRecDepth 100000 in
set_option maxHeartbeats 4000000 in
theorem m_X0_clear (l : Launch) (G : zG) (sh : zH) (v : zV) (N : Nat) {a : Nat} {V : Nat → Nat} {tm : Nat → Option Nat} (hp : zFI G sh N a) (hv : zfi v a V tm) : zm l G yX0_clear cX0_clear 2 none 0 [.ref a] sh v N (fun r v1 => r = none ∧ zfi v1 a V (fun _ => none) ∧ zfr v v1 a 3) := by
  refine zM.of (by decide) rfl (Nat.le_of_ble_eq_true rfl) ?_
  intro p e s m args below meth c C
  obtain ⟨hB, hN, hs0, hs1, hs2⟩ := id hp
  obtain ⟨h1, h2, h3⟩ := id hv
  have hd0 : G.2.2.1 ≤ a ∧ a < N := ⟨hB, by omega⟩
  have hd1 : G.2.2.1 ≤ a + 1 ∧ a + 1 < N := ⟨by omega, by omega⟩
  have hd2 : G.2.2.1 ≤ a + 2 ∧ a + 2 < N := ⟨by omega, hN⟩
  have loop : ∀ (n i : Nat) (v' : zV), 12 - i < n → i ≤ 12 → (∀ j, j < i → v' (a + 1) j = nI 0) → (∀ j, j < i → v' (a + 2) j = (-9)) → zfr v v' a 3 → VV p l e ({ frames := 0, cells := 0, slots := 0, locals := 32 * 0 }) s m args below meth c 0 0 (zQ below (fun r sh1 v1 N1 => sh1 = sh ∧ N1 = N ∧ (r = none ∧ zfi v1 a V (fun _ => none) ∧ zfr v v1 a 3)) G args s 0 0) G 2 sh v' N 2 [some (.ref a), some (.int (nI i))] [] := by
    intro n
    induction n with
    | zero => intro i v' hm; omega
    | succ n ih =>
      intro i v' hm hi e1 e2 e3
      refine r_iload_n C (pc := 2) rfl rfl dX0_clear_2 ?_
      refine r_aload_n C (pc := 3) rfl rfl dX0_clear_3 ?_
      refine r_get C (pc := 4) (ci := 0) (k := 0) (w := .ref (a + 1)) rfl (by decide) inX0 (by decide) q_184 (Or.inl hd0) hs0 (zl_ref _ _) dX0_clear_4 ?_
      refine r_alen C (pc := 7) (x := nI 12) (Or.inl hd1) hs1 (by decide) rfl rfl dX0_clear_7 ?_
      refine n_icmp_ge C (pc := 8) (tgt := 41) (by omega) (by omega) dX0_clear_8 (by decide) (fun c_8 => ?_) (fun c_8 => ?_)
      · refine r_aload_n C (pc := 41) rfl rfl dX0_clear_41 ?_
        refine r_iconst C (pc := 42) (x := (nI 0)) (by decide) dX0_clear_42 ?_
        refine r_put C (pc := 43) (ci := 0) (k := 2) rfl (by decide) inX0 tyX0_ok nmX0 (by decide) rfl pfI rfl q_187 hd0 hs0 dX0_clear_43 ?_
        refine VV.gn (fun w43 ew43 => ?_)
        exact r_vret C (pc := 46) rfl dX0_clear_46 ⟨rfl, rfl, rfl, ⟨by rw [ew43, z2_self]; rfl, fun j hj => by rw [ew43, z2_addr (by omega)]; exact e1 j (by omega), fun j hj => by rw [ew43, z2_addr (by omega)]; exact e2 j (by omega)⟩, by rw [ew43]; exact e3.z2 (by omega) (by omega)⟩
      · refine r_iload_n C (pc := 11) rfl rfl dX0_clear_11 ?_
        refine r_aload_n C (pc := 12) rfl rfl dX0_clear_12 ?_
        refine r_get C (pc := 13) (ci := 0) (k := 1) (w := .ref (a + 2)) rfl (by decide) inX0 (by decide) q_185 (Or.inl hd0) hs0 (zl_ref _ _) dX0_clear_13 ?_
        refine r_alen C (pc := 16) (x := nI 12) (Or.inl hd2) hs2 (by decide) rfl rfl dX0_clear_16 ?_
        refine n_icmp_ge C (pc := 17) (tgt := 41) (by omega) (by omega) dX0_clear_17 (by decide) (fun c_17 => by exfalso; omega) (fun c_17 => ?_)
        refine r_aload_n C (pc := 20) rfl rfl dX0_clear_20 ?_
        refine r_get C (pc := 21) (ci := 0) (k := 0) (w := .ref (a + 1)) rfl (by decide) inX0 (by decide) q_184 (Or.inl hd0) hs0 (zl_ref _ _) dX0_clear_21 ?_
        refine r_iload_n C (pc := 24) rfl rfl dX0_clear_24 ?_
        refine r_iconst C (pc := 25) (x := (nI 0)) (by decide) dX0_clear_25 ?_
        refine r_iast C (pc := 26) hd1 hs1 (by omega) (by omega) dX0_clear_26 ?_
        refine VV.gn (fun w26 ew26 => ?_)
        refine r_aload_n C (pc := 27) rfl rfl dX0_clear_27 ?_
        refine r_get C (pc := 28) (ci := 0) (k := 1) (w := .ref (a + 2)) rfl (by decide) inX0 (by decide) q_185 (Or.inl hd0) hs0 (zl_ref _ _) dX0_clear_28 ?_
        refine r_iload_n C (pc := 31) rfl rfl dX0_clear_31 ?_
        refine r_bipush C (pc := 32) (x := (-9)) (by decide) dX0_clear_32 ?_
        refine r_iast C (pc := 34) hd2 hs2 (by omega) (by omega) dX0_clear_34 ?_
        refine VV.gn (fun w34 ew34 => ?_)
        refine r_iinc C (pc := 35) (lv2 := [some (.ref a), some (.int (nI (i + 1)))]) (y := (nI (i + 1))) rfl (nI_inc _ _) (Nat.le_of_ble_eq_true rfl) rfl rfl dX0_clear_35 ?_
        refine r_goto C (pc := 38) (tgt := 2) dX0_clear_38 (by decide) ?_
        exact ih (i + 1) w34 (by omega) (by omega) (fun j hj => by
          rw [ew34, z2_addr (by omega), ew26]
          by_cases hji : j = i
          · subst hji; rw [z2_self]
          · rw [z2_ne (by omega)]; exact e1 j (by omega)) (fun j hj => by
          rw [ew34]
          by_cases hji : j = i
          · subst hji; rw [z2_self]
          · rw [z2_ne (by omega), ew26, z2_addr (by omega)]; exact e2 j (by omega)) (by rw [ew34, ew26]; exact (e3.z2 (by omega) (by omega)).z2 (by omega) (by omega))
  refine r_iconst C (pc := 0) (x := (nI 0)) (by decide) dX0_clear_0 ?_
  refine r_istore_n C (pc := 1) (lv2 := [some (.ref a), some (.int (nI 0))]) rfl (Nat.le_of_ble_eq_true rfl) rfl rfl dX0_clear_1 ?_
  exact loop 13 0 v (by omega) (by omega) (fun j hj => by omega) (fun j hj => by omega) zfr.rf
set_option maxRecDepth 100000 in
set_option maxHeartbeats 4000000 in
theorem m_X0_copyFrom (l : Launch) (G : zG) (sh : zH) (v : zV) (N : Nat) {a : Nat} {V : Nat → Nat} {tm : Nat → Option Nat} {o : Nat} {V2 : Nat → Nat} {tm2 : Nat → Option Nat} (hp : zFI G sh N a) (hv : zfi v a V tm) (hpo : zFI G sh N o) (hvo : zfi v o V2 tm2) (hno : o + 3 ≤ a ∨ a + 3 ≤ o) : zm l G yX0_copyFrom cX0_copyFrom 2 none 2 [.ref a, .ref o] sh v N (fun r v1 => r = none ∧ zfi v1 a V2 tm2 ∧ zfr v v1 a 3) := by
  refine zM.of (by decide) rfl (Nat.le_of_ble_eq_true rfl) ?_
  intro p e s m args below meth c C
  obtain ⟨hB, hN, hs0, hs1, hs2⟩ := id hp
  obtain ⟨h1, h2, h3⟩ := id hv
  have hd0 : G.2.2.1 ≤ a ∧ a < N := ⟨hB, by omega⟩
  have hd1 : G.2.2.1 ≤ a + 1 ∧ a + 1 < N := ⟨by omega, by omega⟩
  have hd2 : G.2.2.1 ≤ a + 2 ∧ a + 2 < N := ⟨by omega, hN⟩
  obtain ⟨gB, gN, ho0, ho1, ho2⟩ := id hpo
  obtain ⟨g1, g2, g3⟩ := id hvo
  have gd0 : G.2.2.1 ≤ o ∧ o < N := ⟨gB, by omega⟩
  have gd1 : G.2.2.1 ≤ o + 1 ∧ o + 1 < N := ⟨by omega, by omega⟩
  have gd2 : G.2.2.1 ≤ o + 2 ∧ o + 2 < N := ⟨by omega, gN⟩
  refine r_aload_n C (pc := 0) rfl rfl dX0_copyFrom_0 ?_
  refine r_get C (pc := 1) (ci := 0) (k := 0) (w := .ref (o + 1)) rfl (by decide) inX0 (by decide) q_184 (Or.inl gd0) ho0 (zl_ref _ _) dX0_copyFrom_1 ?_
  refine r_aload_n C (pc := 4) rfl rfl dX0_copyFrom_4 ?_
  refine r_get C (pc := 5) (ci := 0) (k := 0) (w := .ref (a + 1)) rfl (by decide) inX0 (by decide) q_184 (Or.inl hd0) hs0 (zl_ref _ _) dX0_copyFrom_5 ?_
  refine r_callSN C (pc := 8) (st := []) (m_X6_copyRow l G sh v N (a0 := o + 1) (a := a + 1) (n := 12) (by omega) (by omega) (Or.inl gd1) ho1 hd1 hs1) kyX6_copyRow q_329 rfl rfl (Nat.le_of_ble_eq_true rfl) ⟨Nat.le_of_ble_eq_true rfl, Nat.le_of_ble_eq_true rfl⟩ ⟨Nat.le_of_ble_eq_true rfl, Nat.le_of_ble_eq_true rfl⟩ dX0_copyFrom_8 (fun r8 v8 hp8 => ?_)
  obtain ⟨rfl, hz8⟩ := hp8
  refine VV.eq (st2 := []) rfl ?_
  refine r_aload_n C (pc := 11) rfl rfl dX0_copyFrom_11 ?_
  refine r_get C (pc := 12) (ci := 0) (k := 1) (w := .ref (o + 2)) rfl (by decide) inX0 (by decide) q_185 (Or.inl gd0) ho0 (zl_ref _ _) dX0_copyFrom_12 ?_
  refine r_aload_n C (pc := 15) rfl rfl dX0_copyFrom_15 ?_
  refine r_get C (pc := 16) (ci := 0) (k := 1) (w := .ref (a + 2)) rfl (by decide) inX0 (by decide) q_185 (Or.inl hd0) hs0 (zl_ref _ _) dX0_copyFrom_16 ?_
  refine r_callSN C (pc := 19) (st := []) (m_X6_copyRow l G sh v8 N (a0 := o + 2) (a := a + 2) (n := 12) (by omega) (by omega) (Or.inl gd2) ho2 hd2 hs2) kyX6_copyRow q_329 rfl rfl (Nat.le_of_ble_eq_true rfl) ⟨Nat.le_of_ble_eq_true rfl, Nat.le_of_ble_eq_true rfl⟩ ⟨Nat.le_of_ble_eq_true rfl, Nat.le_of_ble_eq_true rfl⟩ dX0_copyFrom_19 (fun r19 v19 hp19 => ?_)
  obtain ⟨rfl, hz19⟩ := hp19
  refine VV.eq (st2 := []) rfl ?_
  refine r_aload_n C (pc := 22) rfl rfl dX0_copyFrom_22 ?_
  refine r_aload_n C (pc := 23) rfl rfl dX0_copyFrom_23 ?_
  refine r_get C (pc := 24) (ci := 0) (k := 2) (w := .int (nI (cnt tm2))) rfl (by decide) inX0 (by decide) q_187 (Or.inl gd0) ho0 (zl_i (by rw [hz19, zcp_ne (by omega), hz8, zcp_ne (by omega)]; exact g1)) dX0_copyFrom_24 ?_
  refine r_put C (pc := 27) (ci := 0) (k := 2) rfl (by decide) inX0 tyX0_ok nmX0 (by decide) rfl pfI rfl q_187 hd0 hs0 dX0_copyFrom_27 ?_
  refine VV.gn (fun w27 ew27 => ?_)
  exact r_vret C (pc := 30) rfl dX0_copyFrom_30 ⟨rfl, rfl, rfl, ⟨by rw [ew27, z2_self], fun k hk => by rw [ew27, z2_addr (by omega), hz19, zcp_ne (by omega), hz8, zcp_at hk]; exact g2 k hk, fun k hk => by rw [ew27, z2_addr (by omega), hz19, zcp_at hk, hz8, zcp_ne (by omega)]; exact g3 k hk⟩, fun b hb => by rw [ew27, z2_addr (by omega), hz19, zcp_ne (by omega), hz8, zcp_ne (by omega)]⟩
end
