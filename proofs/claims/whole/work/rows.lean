section
-- ===== PART A: goes FIRST, ahead of the names: the tables' words, and 'selects' of the private methods out of them =====
/-- a private method of a class that the tables say can be made, by its rows of tables_1 -/
def lw_okq (q : MethodName × Nat) : Prop := (q.1.cls ≠ "java/lang/invoke/MethodHandle" ∧ q.1.cls ≠ "java/lang/invoke/VarHandle") ∧ Cond.instantiable q.1.cls q.2 ∈ tables_1 ∧ Cond.privateMethod q.1 ∈ tables_1 ∧ Cond.instanceMethod q.1 ∈ tables_1
theorem lw_p0 : lw_okq (⟨"MixRounds$Book", "add", "(II)V"⟩, 13) := ⟨⟨by decide +kernel, by decide +kernel⟩, List.mem_of_getElem? (i := 20) (by decide +kernel), List.mem_of_getElem? (i := 205) (by decide +kernel), List.mem_of_getElem? (i := 206) (by decide +kernel)⟩
theorem lw_p1 : lw_okq (⟨"MixRounds$Book", "goRound", "(I)I"⟩, 13) := ⟨⟨by decide +kernel, by decide +kernel⟩, List.mem_of_getElem? (i := 20) (by decide +kernel), List.mem_of_getElem? (i := 212) (by decide +kernel), List.mem_of_getElem? (i := 213) (by decide +kernel)⟩
theorem lw_p2 : lw_okq (⟨"MixRounds$Book", "ownWaiting", "()I"⟩, 13) := ⟨⟨by decide +kernel, by decide +kernel⟩, List.mem_of_getElem? (i := 20) (by decide +kernel), List.mem_of_getElem? (i := 222) (by decide +kernel), List.mem_of_getElem? (i := 223) (by decide +kernel)⟩
theorem lw_p3 : lw_okq (⟨"MixRounds$Book", "letOut", "(I)V"⟩, 13) := ⟨⟨by decide +kernel, by decide +kernel⟩, List.mem_of_getElem? (i := 20) (by decide +kernel), List.mem_of_getElem? (i := 230) (by decide +kernel), List.mem_of_getElem? (i := 231) (by decide +kernel)⟩
theorem lw_p4 : lw_okq (⟨"MixRounds$Tape", "skipBlanks", "(I)I"⟩, 5) := ⟨⟨by decide +kernel, by decide +kernel⟩, List.mem_of_getElem? (i := 106) (by decide +kernel), List.mem_of_getElem? (i := 411) (by decide +kernel), List.mem_of_getElem? (i := 412) (by decide +kernel)⟩
theorem lw_p5 : lw_okq (⟨"MixRounds$Tape", "signAt", "(I)I"⟩, 5) := ⟨⟨by decide +kernel, by decide +kernel⟩, List.mem_of_getElem? (i := 106) (by decide +kernel), List.mem_of_getElem? (i := 415) (by decide +kernel), List.mem_of_getElem? (i := 416) (by decide +kernel)⟩
theorem lw_p6 : lw_okq (⟨"MixRounds$Tape", "senderAt", "(I)I"⟩, 5) := ⟨⟨by decide +kernel, by decide +kernel⟩, List.mem_of_getElem? (i := 106) (by decide +kernel), List.mem_of_getElem? (i := 419) (by decide +kernel), List.mem_of_getElem? (i := 420) (by decide +kernel)⟩
theorem lw_p7 : lw_okq (⟨"MixRounds$Tape", "figureAt", "(I)I"⟩, 5) := ⟨⟨by decide +kernel, by decide +kernel⟩, List.mem_of_getElem? (i := 106) (by decide +kernel), List.mem_of_getElem? (i := 423) (by decide +kernel), List.mem_of_getElem? (i := 424) (by decide +kernel)⟩
theorem lw_p8 : lw_okq (⟨"MixRounds", "play", "(I)Z"⟩, 7) := ⟨⟨by decide +kernel, by decide +kernel⟩, List.mem_of_getElem? (i := 12) (by decide +kernel), List.mem_of_getElem? (i := 428) (by decide +kernel), List.mem_of_getElem? (i := 429) (by decide +kernel)⟩
theorem lw_p9 : lw_okq (⟨"MixRounds", "tickIfHeard", "()Z"⟩, 7) := ⟨⟨by decide +kernel, by decide +kernel⟩, List.mem_of_getElem? (i := 12) (by decide +kernel), List.mem_of_getElem? (i := 432) (by decide +kernel), List.mem_of_getElem? (i := 433) (by decide +kernel)⟩
theorem lw_p10 : lw_okq (⟨"MixRounds", "takeIfRoom", "(II)Z"⟩, 7) := ⟨⟨by decide +kernel, by decide +kernel⟩, List.mem_of_getElem? (i := 12) (by decide +kernel), List.mem_of_getElem? (i := 436) (by decide +kernel), List.mem_of_getElem? (i := 437) (by decide +kernel)⟩
theorem lw_p11 : lw_okq (⟨"MixRounds", "driftOnce", "()V"⟩, 7) := ⟨⟨by decide +kernel, by decide +kernel⟩, List.mem_of_getElem? (i := 12) (by decide +kernel), List.mem_of_getElem? (i := 444) (by decide +kernel), List.mem_of_getElem? (i := 445) (by decide +kernel)⟩
theorem lw_p12 : lw_okq (⟨"MixRounds", "fitsPolicy", "(LMixRounds$Sheet;III)Z"⟩, 7) := ⟨⟨by decide +kernel, by decide +kernel⟩, List.mem_of_getElem? (i := 12) (by decide +kernel), List.mem_of_getElem? (i := 506) (by decide +kernel), List.mem_of_getElem? (i := 507) (by decide +kernel)⟩
theorem lw_p13 : lw_okq (⟨"MixRounds", "staying", "(II)I"⟩, 7) := ⟨⟨by decide +kernel, by decide +kernel⟩, List.mem_of_getElem? (i := 12) (by decide +kernel), List.mem_of_getElem? (i := 512) (by decide +kernel), List.mem_of_getElem? (i := 513) (by decide +kernel)⟩
theorem lw_p14 : lw_okq (⟨"MixRoundsModel", "isFull", "()Z"⟩, 16) := ⟨⟨by decide +kernel, by decide +kernel⟩, List.mem_of_getElem? (i := 550) (by decide +kernel), List.mem_of_getElem? (i := 616) (by decide +kernel), List.mem_of_getElem? (i := 617) (by decide +kernel)⟩
theorem lw_p15 : lw_okq (⟨"MixRoundsModel", "standing", "()I"⟩, 16) := ⟨⟨by decide +kernel, by decide +kernel⟩, List.mem_of_getElem? (i := 550) (by decide +kernel), List.mem_of_getElem? (i := 620) (by decide +kernel), List.mem_of_getElem? (i := 621) (by decide +kernel)⟩
def lw_privs_1 : List (MethodName × Nat) := [(⟨"MixRounds$Book", "add", "(II)V"⟩, 13), (⟨"MixRounds$Book", "goRound", "(I)I"⟩, 13), (⟨"MixRounds$Book", "ownWaiting", "()I"⟩, 13), (⟨"MixRounds$Book", "letOut", "(I)V"⟩, 13), (⟨"MixRounds$Tape", "skipBlanks", "(I)I"⟩, 5), (⟨"MixRounds$Tape", "signAt", "(I)I"⟩, 5), (⟨"MixRounds$Tape", "senderAt", "(I)I"⟩, 5), (⟨"MixRounds$Tape", "figureAt", "(I)I"⟩, 5), (⟨"MixRounds", "play", "(I)Z"⟩, 7), (⟨"MixRounds", "tickIfHeard", "()Z"⟩, 7), (⟨"MixRounds", "takeIfRoom", "(II)Z"⟩, 7), (⟨"MixRounds", "driftOnce", "()V"⟩, 7), (⟨"MixRounds", "fitsPolicy", "(LMixRounds$Sheet;III)Z"⟩, 7), (⟨"MixRounds", "staying", "(II)I"⟩, 7), (⟨"MixRoundsModel", "isFull", "()Z"⟩, 16), (⟨"MixRoundsModel", "standing", "()I"⟩, 16)]
theorem lw_r1 : ∀ q ∈ lw_privs_1, lw_okq q := List.forall_mem_cons.mpr ⟨lw_p0, List.forall_mem_cons.mpr ⟨lw_p1, List.forall_mem_cons.mpr ⟨lw_p2, List.forall_mem_cons.mpr ⟨lw_p3, List.forall_mem_cons.mpr ⟨lw_p4, List.forall_mem_cons.mpr ⟨lw_p5, List.forall_mem_cons.mpr ⟨lw_p6, List.forall_mem_cons.mpr ⟨lw_p7, List.forall_mem_cons.mpr ⟨lw_p8, List.forall_mem_cons.mpr ⟨lw_p9, List.forall_mem_cons.mpr ⟨lw_p10, List.forall_mem_cons.mpr ⟨lw_p11, List.forall_mem_cons.mpr ⟨lw_p12, List.forall_mem_cons.mpr ⟨lw_p13, List.forall_mem_cons.mpr ⟨lw_p14, List.forall_mem_cons.mpr ⟨lw_p15, fun _ h => absurd h List.not_mem_nil⟩⟩⟩⟩⟩⟩⟩⟩⟩⟩⟩⟩⟩⟩⟩⟩
theorem lw_p16 : lw_okq (⟨"MixRoundsModel", "stands", "(I)Z"⟩, 16) := ⟨⟨by decide +kernel, by decide +kernel⟩, List.mem_of_getElem? (i := 550) (by decide +kernel), List.mem_of_getElem? (i := 624) (by decide +kernel), List.mem_of_getElem? (i := 625) (by decide +kernel)⟩
theorem lw_p17 : lw_okq (⟨"MixRoundsModel", "of", "(II)I"⟩, 16) := ⟨⟨by decide +kernel, by decide +kernel⟩, List.mem_of_getElem? (i := 550) (by decide +kernel), List.mem_of_getElem? (i := 628) (by decide +kernel), List.mem_of_getElem? (i := 629) (by decide +kernel)⟩
theorem lw_p18 : lw_okq (⟨"MixRoundsModel", "notes", "()V"⟩, 16) := ⟨⟨by decide +kernel, by decide +kernel⟩, List.mem_of_getElem? (i := 550) (by decide +kernel), List.mem_of_getElem? (i := 632) (by decide +kernel), List.mem_of_getElem? (i := 633) (by decide +kernel)⟩
theorem lw_p19 : lw_okq (⟨"MixRoundsModel", "comes", "(II)I"⟩, 16) := ⟨⟨by decide +kernel, by decide +kernel⟩, List.mem_of_getElem? (i := 550) (by decide +kernel), List.mem_of_getElem? (i := 636) (by decide +kernel), List.mem_of_getElem? (i := 637) (by decide +kernel)⟩
theorem lw_p20 : lw_okq (⟨"MixRoundsModel", "adds", "(II)V"⟩, 16) := ⟨⟨by decide +kernel, by decide +kernel⟩, List.mem_of_getElem? (i := 550) (by decide +kernel), List.mem_of_getElem? (i := 640) (by decide +kernel), List.mem_of_getElem? (i := 641) (by decide +kernel)⟩
theorem lw_p21 : lw_okq (⟨"MixRoundsModel", "begins", "(IZI)Z"⟩, 16) := ⟨⟨by decide +kernel, by decide +kernel⟩, List.mem_of_getElem? (i := 550) (by decide +kernel), List.mem_of_getElem? (i := 644) (by decide +kernel), List.mem_of_getElem? (i := 645) (by decide +kernel)⟩
theorem lw_p22 : lw_okq (⟨"MixRoundsModel", "goesRound", "()I"⟩, 16) := ⟨⟨by decide +kernel, by decide +kernel⟩, List.mem_of_getElem? (i := 550) (by decide +kernel), List.mem_of_getElem? (i := 648) (by decide +kernel), List.mem_of_getElem? (i := 649) (by decide +kernel)⟩
theorem lw_p23 : lw_okq (⟨"MixRoundsModel", "draws", "()I"⟩, 16) := ⟨⟨by decide +kernel, by decide +kernel⟩, List.mem_of_getElem? (i := 550) (by decide +kernel), List.mem_of_getElem? (i := 652) (by decide +kernel), List.mem_of_getElem? (i := 653) (by decide +kernel)⟩
theorem lw_p24 : lw_okq (⟨"MixRoundsModel", "share", "(II)I"⟩, 16) := ⟨⟨by decide +kernel, by decide +kernel⟩, List.mem_of_getElem? (i := 550) (by decide +kernel), List.mem_of_getElem? (i := 660) (by decide +kernel), List.mem_of_getElem? (i := 661) (by decide +kernel)⟩
theorem lw_p25 : lw_okq (⟨"MixRoundsModel", "standsAt", "(I)I"⟩, 16) := ⟨⟨by decide +kernel, by decide +kernel⟩, List.mem_of_getElem? (i := 550) (by decide +kernel), List.mem_of_getElem? (i := 664) (by decide +kernel), List.mem_of_getElem? (i := 665) (by decide +kernel)⟩
theorem lw_p26 : lw_okq (⟨"MixRoundsModel", "ticks", "()I"⟩, 16) := ⟨⟨by decide +kernel, by decide +kernel⟩, List.mem_of_getElem? (i := 550) (by decide +kernel), List.mem_of_getElem? (i := 672) (by decide +kernel), List.mem_of_getElem? (i := 673) (by decide +kernel)⟩
theorem lw_p27 : lw_okq (⟨"MixRoundsModel", "isLetter", "(I)Z"⟩, 16) := ⟨⟨by decide +kernel, by decide +kernel⟩, List.mem_of_getElem? (i := 550) (by decide +kernel), List.mem_of_getElem? (i := 694) (by decide +kernel), List.mem_of_getElem? (i := 695) (by decide +kernel)⟩
theorem lw_p28 : lw_okq (⟨"MixRoundsModel", "isRound", "(I)Z"⟩, 16) := ⟨⟨by decide +kernel, by decide +kernel⟩, List.mem_of_getElem? (i := 550) (by decide +kernel), List.mem_of_getElem? (i := 706) (by decide +kernel), List.mem_of_getElem? (i := 707) (by decide +kernel)⟩
theorem lw_p29 : lw_okq (⟨"MixRoundsModel", "roundOf", "(II)I"⟩, 16) := ⟨⟨by decide +kernel, by decide +kernel⟩, List.mem_of_getElem? (i := 550) (by decide +kernel), List.mem_of_getElem? (i := 711) (by decide +kernel), List.mem_of_getElem? (i := 712) (by decide +kernel)⟩
theorem lw_p30 : lw_okq (⟨"MixRoundsModel", "wasInside", "(II)Z"⟩, 16) := ⟨⟨by decide +kernel, by decide +kernel⟩, List.mem_of_getElem? (i := 550) (by decide +kernel), List.mem_of_getElem? (i := 715) (by decide +kernel), List.mem_of_getElem? (i := 716) (by decide +kernel)⟩
theorem lw_p31 : lw_okq (⟨"MixRoundsModel", "isOwn", "(I)Z"⟩, 16) := ⟨⟨by decide +kernel, by decide +kernel⟩, List.mem_of_getElem? (i := 550) (by decide +kernel), List.mem_of_getElem? (i := 719) (by decide +kernel), List.mem_of_getElem? (i := 720) (by decide +kernel)⟩
def lw_privs_2 : List (MethodName × Nat) := [(⟨"MixRoundsModel", "stands", "(I)Z"⟩, 16), (⟨"MixRoundsModel", "of", "(II)I"⟩, 16), (⟨"MixRoundsModel", "notes", "()V"⟩, 16), (⟨"MixRoundsModel", "comes", "(II)I"⟩, 16), (⟨"MixRoundsModel", "adds", "(II)V"⟩, 16), (⟨"MixRoundsModel", "begins", "(IZI)Z"⟩, 16), (⟨"MixRoundsModel", "goesRound", "()I"⟩, 16), (⟨"MixRoundsModel", "draws", "()I"⟩, 16), (⟨"MixRoundsModel", "share", "(II)I"⟩, 16), (⟨"MixRoundsModel", "standsAt", "(I)I"⟩, 16), (⟨"MixRoundsModel", "ticks", "()I"⟩, 16), (⟨"MixRoundsModel", "isLetter", "(I)Z"⟩, 16), (⟨"MixRoundsModel", "isRound", "(I)Z"⟩, 16), (⟨"MixRoundsModel", "roundOf", "(II)I"⟩, 16), (⟨"MixRoundsModel", "wasInside", "(II)Z"⟩, 16), (⟨"MixRoundsModel", "isOwn", "(I)Z"⟩, 16)]
theorem lw_r2 : ∀ q ∈ lw_privs_2, lw_okq q := List.forall_mem_cons.mpr ⟨lw_p16, List.forall_mem_cons.mpr ⟨lw_p17, List.forall_mem_cons.mpr ⟨lw_p18, List.forall_mem_cons.mpr ⟨lw_p19, List.forall_mem_cons.mpr ⟨lw_p20, List.forall_mem_cons.mpr ⟨lw_p21, List.forall_mem_cons.mpr ⟨lw_p22, List.forall_mem_cons.mpr ⟨lw_p23, List.forall_mem_cons.mpr ⟨lw_p24, List.forall_mem_cons.mpr ⟨lw_p25, List.forall_mem_cons.mpr ⟨lw_p26, List.forall_mem_cons.mpr ⟨lw_p27, List.forall_mem_cons.mpr ⟨lw_p28, List.forall_mem_cons.mpr ⟨lw_p29, List.forall_mem_cons.mpr ⟨lw_p30, List.forall_mem_cons.mpr ⟨lw_p31, fun _ h => absurd h List.not_mem_nil⟩⟩⟩⟩⟩⟩⟩⟩⟩⟩⟩⟩⟩⟩⟩⟩
theorem lw_p32 : lw_okq (⟨"MixRoundsModel", "letterOut", "(II)I"⟩, 16) := ⟨⟨by decide +kernel, by decide +kernel⟩, List.mem_of_getElem? (i := 550) (by decide +kernel), List.mem_of_getElem? (i := 727) (by decide +kernel), List.mem_of_getElem? (i := 728) (by decide +kernel)⟩
theorem lw_p33 : lw_okq (⟨"MixRoundsModel", "whole", "()J"⟩, 16) := ⟨⟨by decide +kernel, by decide +kernel⟩, List.mem_of_getElem? (i := 550) (by decide +kernel), List.mem_of_getElem? (i := 731) (by decide +kernel), List.mem_of_getElem? (i := 732) (by decide +kernel)⟩
theorem lw_p34 : lw_okq (⟨"MixRoundsModel", "chanceOf", "(JIII)J"⟩, 16) := ⟨⟨by decide +kernel, by decide +kernel⟩, List.mem_of_getElem? (i := 550) (by decide +kernel), List.mem_of_getElem? (i := 736) (by decide +kernel), List.mem_of_getElem? (i := 737) (by decide +kernel)⟩
theorem lw_p35 : lw_okq (⟨"MixRoundsModel", "leftOf", "(JII)J"⟩, 16) := ⟨⟨by decide +kernel, by decide +kernel⟩, List.mem_of_getElem? (i := 550) (by decide +kernel), List.mem_of_getElem? (i := 740) (by decide +kernel), List.mem_of_getElem? (i := 741) (by decide +kernel)⟩
theorem lw_p36 : lw_okq (⟨"MixRoundsModel", "senderOf", "(JIII)J"⟩, 16) := ⟨⟨by decide +kernel, by decide +kernel⟩, List.mem_of_getElem? (i := 550) (by decide +kernel), List.mem_of_getElem? (i := 760) (by decide +kernel), List.mem_of_getElem? (i := 761) (by decide +kernel)⟩
theorem lw_p37 : lw_okq (⟨"MixRoundsModel", "goesThrough", "(Z)Z"⟩, 16) := ⟨⟨by decide +kernel, by decide +kernel⟩, List.mem_of_getElem? (i := 550) (by decide +kernel), List.mem_of_getElem? (i := 787) (by decide +kernel), List.mem_of_getElem? (i := 788) (by decide +kernel)⟩
theorem lw_p38 : lw_okq (⟨"MixRoundsModel", "here", "()I"⟩, 16) := ⟨⟨by decide +kernel, by decide +kernel⟩, List.mem_of_getElem? (i := 550) (by decide +kernel), List.mem_of_getElem? (i := 791) (by decide +kernel), List.mem_of_getElem? (i := 792) (by decide +kernel)⟩
theorem lw_p39 : lw_okq (⟨"MixRoundsModel", "event", "()I"⟩, 16) := ⟨⟨by decide +kernel, by decide +kernel⟩, List.mem_of_getElem? (i := 550) (by decide +kernel), List.mem_of_getElem? (i := 795) (by decide +kernel), List.mem_of_getElem? (i := 796) (by decide +kernel)⟩
theorem lw_p40 : lw_okq (⟨"MixRoundsModel", "why", "(IIII)I"⟩, 16) := ⟨⟨by decide +kernel, by decide +kernel⟩, List.mem_of_getElem? (i := 550) (by decide +kernel), List.mem_of_getElem? (i := 837) (by decide +kernel), List.mem_of_getElem? (i := 838) (by decide +kernel)⟩
theorem lw_p41 : lw_okq (⟨"MixRoundsModel", "isSo", "(III)Z"⟩, 16) := ⟨⟨by decide +kernel, by decide +kernel⟩, List.mem_of_getElem? (i := 550) (by decide +kernel), List.mem_of_getElem? (i := 852) (by decide +kernel), List.mem_of_getElem? (i := 853) (by decide +kernel)⟩
def lw_privs_3 : List (MethodName × Nat) := [(⟨"MixRoundsModel", "letterOut", "(II)I"⟩, 16), (⟨"MixRoundsModel", "whole", "()J"⟩, 16), (⟨"MixRoundsModel", "chanceOf", "(JIII)J"⟩, 16), (⟨"MixRoundsModel", "leftOf", "(JII)J"⟩, 16), (⟨"MixRoundsModel", "senderOf", "(JIII)J"⟩, 16), (⟨"MixRoundsModel", "goesThrough", "(Z)Z"⟩, 16), (⟨"MixRoundsModel", "here", "()I"⟩, 16), (⟨"MixRoundsModel", "event", "()I"⟩, 16), (⟨"MixRoundsModel", "why", "(IIII)I"⟩, 16), (⟨"MixRoundsModel", "isSo", "(III)Z"⟩, 16)]
theorem lw_r3 : ∀ q ∈ lw_privs_3, lw_okq q := List.forall_mem_cons.mpr ⟨lw_p32, List.forall_mem_cons.mpr ⟨lw_p33, List.forall_mem_cons.mpr ⟨lw_p34, List.forall_mem_cons.mpr ⟨lw_p35, List.forall_mem_cons.mpr ⟨lw_p36, List.forall_mem_cons.mpr ⟨lw_p37, List.forall_mem_cons.mpr ⟨lw_p38, List.forall_mem_cons.mpr ⟨lw_p39, List.forall_mem_cons.mpr ⟨lw_p40, List.forall_mem_cons.mpr ⟨lw_p41, fun _ h => absurd h List.not_mem_nil⟩⟩⟩⟩⟩⟩⟩⟩⟩⟩
def lw_privs : List (MethodName × Nat) := lw_privs_1 ++ (lw_privs_2 ++ (lw_privs_3))
def lw_tbl : List Cond := k2_sels lw_privs ++ tables_1
theorem lw_privs_ok : ∀ q ∈ lw_privs, lw_okq q := by
  show ∀ q ∈ lw_privs_1 ++ (lw_privs_2 ++ (lw_privs_3)), lw_okq q
  exact List.forall_mem_append.mpr ⟨lw_r1, List.forall_mem_append.mpr ⟨lw_r2, lw_r3⟩⟩
end
section
def RX0 : String := "MixRounds$Book"
def TX0 : u_T := fun k => match k with
  | 0 => ("MixRounds$Book", "told", "[I", true)
  | 1 => ("MixRounds$Book", "draw", "I", false)
  | 2 => ("MixRounds$Book", "letters", "I", false)
  | 3 => ("MixRounds$Book", "senders", "[I", true)
  | 4 => ("MixRounds$Book", "receivers", "[I", true)
  | 5 => ("MixRounds$Book", "firsts", "[I", true)
  | 6 => ("MixRounds$Book", "wentRounds", "[I", true)
  | 7 => ("MixRounds$Book", "wentPlaces", "[I", true)
  | 8 => ("MixRounds$Book", "waiting", "I", false)
  | 9 => ("MixRounds$Book", "waiters", "[I", true)
  | 10 => ("MixRounds$Book", "rounds", "I", false)
  | 11 => ("MixRounds$Book", "facts", "[I", true)
  | _ => ("MixRounds$Book", "outs", "[I", true)
def tyX0 : Nat → FieldType := fun k => match k with
  | 0 => .array .int
  | 1 => .int
  | 2 => .int
  | 3 => .array .int
  | 4 => .array .int
  | 5 => .array .int
  | 6 => .array .int
  | 7 => .array .int
  | 8 => .int
  | 9 => .array .int
  | 10 => .int
  | 11 => .array .int
  | _ => .array .int
abbrev wsX00 : List Cond := u_ws RX0 TX0 13
theorem nmX0 : ∀ a, a < 13 → ∀ b, b < 13 → a ≠ b → (TX0 a).2.1 ≠ (TX0 b).2.1 := by decide +kernel
theorem tyX0_ok : ∀ k, k < 13 → parseFieldDescriptor (TX0 k).2.2.1 = some (tyX0 k) := by decide +kernel
abbrev cX0_init : ByteArray := prog_2_method_1_code
def yX0_init : MethodName := ⟨RX0, "<init>", "()V"⟩
abbrev cX0_become : ByteArray := prog_2_method_2_code
def yX0_become : MethodName := ⟨RX0, "become", "(LMixRounds$Book;)V"⟩
abbrev cX0_clear : ByteArray := prog_2_method_3_code
def yX0_clear : MethodName := ⟨RX0, "clear", "()V"⟩
abbrev cX0_isFull : ByteArray := prog_2_method_4_code
def yX0_isFull : MethodName := ⟨RX0, "isFull", "()Z"⟩
abbrev cX0_takesLetter : ByteArray := prog_2_method_5_code
def yX0_takesLetter : MethodName := ⟨RX0, "takesLetter", "()Z"⟩
abbrev cX0_hasLetter : ByteArray := prog_2_method_6_code
def yX0_hasLetter : MethodName := ⟨RX0, "hasLetter", "(I)Z"⟩
abbrev cX0_hasRound : ByteArray := prog_2_method_7_code
def yX0_hasRound : MethodName := ⟨RX0, "hasRound", "(I)Z"⟩
abbrev cX0_hasOut : ByteArray := prog_2_method_8_code
def yX0_hasOut : MethodName := ⟨RX0, "hasOut", "(II)Z"⟩
abbrev cX0_fact : ByteArray := prog_2_method_9_code
def yX0_fact : MethodName := ⟨RX0, "fact", "(II)I"⟩
abbrev cX0_outLetter : ByteArray := prog_2_method_10_code
def yX0_outLetter : MethodName := ⟨RX0, "outLetter", "(II)I"⟩
abbrev cX0_isOwnOut : ByteArray := prog_2_method_11_code
def yX0_isOwnOut : MethodName := ⟨RX0, "isOwnOut", "(II)Z"⟩
abbrev cX0_senderOf : ByteArray := prog_2_method_12_code
def yX0_senderOf : MethodName := ⟨RX0, "senderOf", "(I)I"⟩
abbrev cX0_receiverOf : ByteArray := prog_2_method_13_code
def yX0_receiverOf : MethodName := ⟨RX0, "receiverOf", "(I)I"⟩
abbrev cX0_firstOf : ByteArray := prog_2_method_14_code
def yX0_firstOf : MethodName := ⟨RX0, "firstOf", "(I)I"⟩
abbrev cX0_nextDraw : ByteArray := prog_2_method_15_code
def yX0_nextDraw : MethodName := ⟨RX0, "nextDraw", "()I"⟩
abbrev cX0_takeLetter : ByteArray := prog_2_method_16_code
def yX0_takeLetter : MethodName := ⟨RX0, "takeLetter", "(II)I"⟩
abbrev cX0_hearTick : ByteArray := prog_2_method_17_code
def yX0_hearTick : MethodName := ⟨RX0, "hearTick", "()I"⟩
abbrev cX0_leaving : ByteArray := prog_2_method_18_code
def yX0_leaving : MethodName := ⟨RX0, "leaving", "(I[IIZ)I"⟩
abbrev cX0_add : ByteArray := prog_2_method_19_code
def yX0_add : MethodName := ⟨RX0, "add", "(II)V"⟩
abbrev cX0_goRound : ByteArray := prog_2_method_20_code
def yX0_goRound : MethodName := ⟨RX0, "goRound", "(I)I"⟩
abbrev cX0_ownWaiting : ByteArray := prog_2_method_21_code
def yX0_ownWaiting : MethodName := ⟨RX0, "ownWaiting", "()I"⟩
abbrev cX0_letOut : ByteArray := prog_2_method_22_code
def yX0_letOut : MethodName := ⟨RX0, "letOut", "(I)V"⟩
def RX1 : String := "MixRounds$Past"
def TX1 : u_T := fun k => match k with
  | 0 => ("MixRounds$Past", "books", "[LMixRounds$Book;", true)
  | 1 => ("MixRounds$Past", "oldest", "I", false)
  | _ => ("MixRounds$Past", "known", "I", false)
def tyX1 : Nat → FieldType := fun k => match k with
  | 0 => .array (.object "MixRounds$Book")
  | 1 => .int
  | _ => .int
abbrev wsX10 : List Cond := u_ws RX1 TX1 3
theorem nmX1 : ∀ a, a < 3 → ∀ b, b < 3 → a ≠ b → (TX1 a).2.1 ≠ (TX1 b).2.1 := by decide +kernel
theorem tyX1_ok : ∀ k, k < 3 → parseFieldDescriptor (TX1 k).2.2.1 = some (tyX1 k) := by decide +kernel
abbrev cX1_init : ByteArray := prog_3_method_1_code
def yX1_init : MethodName := ⟨RX1, "<init>", "()V"⟩
abbrev cX1_remember : ByteArray := prog_3_method_2_code
def yX1_remember : MethodName := ⟨RX1, "remember", "(LMixRounds$Book;)V"⟩
abbrev cX1_bringBack : ByteArray := prog_3_method_3_code
def yX1_bringBack : MethodName := ⟨RX1, "bringBack", "(LMixRounds$Book;)V"⟩
abbrev cX1_become : ByteArray := prog_3_method_4_code
def yX1_become : MethodName := ⟨RX1, "become", "(LMixRounds$Past;)V"⟩
def RX2 : String := "MixRounds$Sheet"
def TX2 : u_T := fun k => match k with
  | 0 => ("MixRounds$Sheet", "lane", "I", false)
  | 1 => ("MixRounds$Sheet", "size", "I", false)
  | _ => ("MixRounds$Sheet", "items", "[J", true)
def tyX2 : Nat → FieldType := fun k => match k with
  | 0 => .int
  | 1 => .int
  | _ => .array .long
abbrev wsX20 : List Cond := u_ws RX2 TX2 3
theorem nmX2 : ∀ a, a < 3 → ∀ b, b < 3 → a ≠ b → (TX2 a).2.1 ≠ (TX2 b).2.1 := by decide +kernel
theorem tyX2_ok : ∀ k, k < 3 → parseFieldDescriptor (TX2 k).2.2.1 = some (tyX2 k) := by decide +kernel
abbrev cX2_init : ByteArray := prog_4_method_1_code
def yX2_init : MethodName := ⟨RX2, "<init>", "()V"⟩
abbrev cX2_isMissing : ByteArray := prog_4_method_2_code
def yX2_isMissing : MethodName := ⟨RX2, "isMissing", "()Z"⟩
abbrev cX2_renew : ByteArray := prog_4_method_3_code
def yX2_renew : MethodName := ⟨RX2, "renew", "(II)V"⟩
abbrev cX2_holds : ByteArray := prog_4_method_4_code
def yX2_holds : MethodName := ⟨RX2, "holds", "(II)Z"⟩
abbrev cX2_fault : ByteArray := prog_4_method_5_code
def yX2_fault : MethodName := ⟨RX2, "fault", "(III)I"⟩
abbrev cX2_tellsPairs : ByteArray := prog_4_method_6_code
def yX2_tellsPairs : MethodName := ⟨RX2, "tellsPairs", "(II)Z"⟩
abbrev cX2_at : ByteArray := prog_4_method_7_code
def yX2_at : MethodName := ⟨RX2, "at", "(I)J"⟩
abbrev cX2_put : ByteArray := prog_4_method_8_code
def yX2_put : MethodName := ⟨RX2, "put", "(IJ)V"⟩
def RX3 : String := "MixRounds$Tape"
def TX3 : u_T := fun k => match k with
  | 0 => ("MixRounds$Tape", "signs", "[I", true)
  | 1 => ("MixRounds$Tape", "length", "I", false)
  | 2 => ("MixRounds$Tape", "eventSenders", "[I", true)
  | 3 => ("MixRounds$Tape", "eventReceivers", "[I", true)
  | _ => ("MixRounds$Tape", "events", "I", false)
def tyX3 : Nat → FieldType := fun k => match k with
  | 0 => .array .int
  | 1 => .int
  | 2 => .array .int
  | 3 => .array .int
  | _ => .int
abbrev wsX30 : List Cond := u_ws RX3 TX3 5
theorem nmX3 : ∀ a, a < 5 → ∀ b, b < 5 → a ≠ b → (TX3 a).2.1 ≠ (TX3 b).2.1 := by decide +kernel
theorem tyX3_ok : ∀ k, k < 5 → parseFieldDescriptor (TX3 k).2.2.1 = some (tyX3 k) := by decide +kernel
abbrev cX3_init : ByteArray := prog_5_method_1_code
def yX3_init : MethodName := ⟨RX3, "<init>", "()V"⟩
abbrev cX3_add : ByteArray := prog_5_method_2_code
def yX3_add : MethodName := ⟨RX3, "add", "(I)V"⟩
abbrev cX3_parse : ByteArray := prog_5_method_3_code
def yX3_parse : MethodName := ⟨RX3, "parse", "()I"⟩
abbrev cX3_skipBlanks : ByteArray := prog_5_method_4_code
def yX3_skipBlanks : MethodName := ⟨RX3, "skipBlanks", "(I)I"⟩
abbrev cX3_signAt : ByteArray := prog_5_method_5_code
def yX3_signAt : MethodName := ⟨RX3, "signAt", "(I)I"⟩
abbrev cX3_senderAt : ByteArray := prog_5_method_6_code
def yX3_senderAt : MethodName := ⟨RX3, "senderAt", "(I)I"⟩
abbrev cX3_figureAt : ByteArray := prog_5_method_7_code
def yX3_figureAt : MethodName := ⟨RX3, "figureAt", "(I)I"⟩
def RX4 : String := "MixRounds$Watcher"
def TX4 : u_T := fun k => match k with
  | _ => ("", "", "", false)
def tyX4 : Nat → FieldType := fun k => match k with
  | _ => .int
abbrev wsX40 : List Cond := u_ws RX4 TX4 0
theorem nmX4 : ∀ a, a < 0 → ∀ b, b < 0 → a ≠ b → (TX4 a).2.1 ≠ (TX4 b).2.1 := by decide +kernel
theorem tyX4_ok : ∀ k, k < 0 → parseFieldDescriptor (TX4 k).2.2.1 = some (tyX4 k) := by decide +kernel
abbrev cX4_share : ByteArray := prog_6_method_2_code
def yX4_share : MethodName := ⟨RX4, "share", "(LMixRounds$Book;I)J"⟩
abbrev cX4_kept : ByteArray := prog_6_method_3_code
def yX4_kept : MethodName := ⟨RX4, "kept", "(LMixRounds$Book;I)J"⟩
abbrev cX4_whole : ByteArray := prog_6_method_4_code
def yX4_whole : MethodName := ⟨RX4, "whole", "(LMixRounds$Book;II)J"⟩
abbrev cX4_left : ByteArray := prog_6_method_5_code
def yX4_left : MethodName := ⟨RX4, "left", "(LMixRounds$Book;II)J"⟩
abbrev cX4_weight : ByteArray := prog_6_method_6_code
def yX4_weight : MethodName := ⟨RX4, "weight", "(LMixRounds$Book;II)J"⟩
abbrev cX4_senderWeight : ByteArray := prog_6_method_7_code
def yX4_senderWeight : MethodName := ⟨RX4, "senderWeight", "(LMixRounds$Book;II)J"⟩
abbrev cX4_expectedWeight : ByteArray := prog_6_method_8_code
def yX4_expectedWeight : MethodName := ⟨RX4, "expectedWeight", "(LMixRounds$Book;II)J"⟩
abbrev cX4_fresh : ByteArray := prog_6_method_9_code
def yX4_fresh : MethodName := ⟨RX4, "fresh", "(LMixRounds$Book;II)I"⟩
abbrev cX4_outsTo : ByteArray := prog_6_method_10_code
def yX4_outsTo : MethodName := ⟨RX4, "outsTo", "(LMixRounds$Book;IIZ)I"⟩
abbrev cX4_possible : ByteArray := prog_6_method_11_code
def yX4_possible : MethodName := ⟨RX4, "possible", "(LMixRounds$Book;II)I"⟩
abbrev cX4_likeliest : ByteArray := prog_6_method_12_code
def yX4_likeliest : MethodName := ⟨RX4, "likeliest", "(LMixRounds$Book;II)I"⟩
def RX5 : String := "MixRounds"
def TX5 : u_T := fun k => match k with
  | 0 => ("MixRounds", "book", "LMixRounds$Book;", true)
  | 1 => ("MixRounds", "past", "LMixRounds$Past;", true)
  | 2 => ("MixRounds", "imageBook", "LMixRounds$Book;", true)
  | 3 => ("MixRounds", "imagePast", "LMixRounds$Past;", true)
  | 4 => ("MixRounds", "imaged", "Z", false)
  | 5 => ("MixRounds", "tape", "LMixRounds$Tape;", true)
  | _ => ("MixRounds", "sheets", "[LMixRounds$Sheet;", true)
def tyX5 : Nat → FieldType := fun k => match k with
  | 0 => .object "MixRounds$Book"
  | 1 => .object "MixRounds$Past"
  | 2 => .object "MixRounds$Book"
  | 3 => .object "MixRounds$Past"
  | 4 => .boolean
  | 5 => .object "MixRounds$Tape"
  | _ => .array (.object "MixRounds$Sheet")
abbrev wsX50 : List Cond := u_ws RX5 TX5 7
theorem nmX5 : ∀ a, a < 7 → ∀ b, b < 7 → a ≠ b → (TX5 a).2.1 ≠ (TX5 b).2.1 := by decide +kernel
theorem tyX5_ok : ∀ k, k < 7 → parseFieldDescriptor (TX5 k).2.2.1 = some (tyX5 k) := by decide +kernel
abbrev cX5_init : ByteArray := prog_1_method_1_code
def yX5_init : MethodName := ⟨RX5, "<init>", "()V"⟩
abbrev cX5_come : ByteArray := prog_1_method_2_code
def yX5_come : MethodName := ⟨RX5, "come", "(II)I"⟩
abbrev cX5_tick : ByteArray := prog_1_method_3_code
def yX5_tick : MethodName := ⟨RX5, "tick", "()I"⟩
abbrev cX5_tell : ByteArray := prog_1_method_4_code
def yX5_tell : MethodName := ⟨RX5, "tell", "(II)I"⟩
abbrev cX5_begin : ByteArray := prog_1_method_5_code
def yX5_begin : MethodName := ⟨RX5, "begin", "()I"⟩
abbrev cX5_letter : ByteArray := prog_1_method_6_code
def yX5_letter : MethodName := ⟨RX5, "letter", "(II)I"⟩
abbrev cX5_inside : ByteArray := prog_1_method_7_code
def yX5_inside : MethodName := ⟨RX5, "inside", "(I)I"⟩
abbrev cX5_round : ByteArray := prog_1_method_8_code
def yX5_round : MethodName := ⟨RX5, "round", "(II)I"⟩
abbrev cX5_out : ByteArray := prog_1_method_9_code
def yX5_out : MethodName := ⟨RX5, "out", "(III)I"⟩
abbrev cX5_count : ByteArray := prog_1_method_10_code
def yX5_count : MethodName := ⟨RX5, "count", "(I)I"⟩
abbrev cX5_chance : ByteArray := prog_1_method_11_code
def yX5_chance : MethodName := ⟨RX5, "chance", "(IIII)J"⟩
abbrev cX5_sender : ByteArray := prog_1_method_12_code
def yX5_sender : MethodName := ⟨RX5, "sender", "(IIII)J"⟩
abbrev cX5_stays : ByteArray := prog_1_method_13_code
def yX5_stays : MethodName := ⟨RX5, "stays", "(II)J"⟩
abbrev cX5_expected : ByteArray := prog_1_method_14_code
def yX5_expected : MethodName := ⟨RX5, "expected", "(III)J"⟩
abbrev cX5_blend : ByteArray := prog_1_method_15_code
def yX5_blend : MethodName := ⟨RX5, "blend", "()I"⟩
abbrev cX5_type : ByteArray := prog_1_method_16_code
def yX5_type : MethodName := ⟨RX5, "type", "(I)I"⟩
abbrev cX5_read : ByteArray := prog_1_method_17_code
def yX5_read : MethodName := ⟨RX5, "read", "()I"⟩
abbrev cX5_drift : ByteArray := prog_1_method_18_code
def yX5_drift : MethodName := ⟨RX5, "drift", "(I)I"⟩
abbrev cX5_undo : ByteArray := prog_1_method_19_code
def yX5_undo : MethodName := ⟨RX5, "undo", "()I"⟩
abbrev cX5_seed : ByteArray := prog_1_method_20_code
def yX5_seed : MethodName := ⟨RX5, "seed", "(I)I"⟩
abbrev cX5_image : ByteArray := prog_1_method_21_code
def yX5_image : MethodName := ⟨RX5, "image", "()I"⟩
abbrev cX5_restore : ByteArray := prog_1_method_22_code
def yX5_restore : MethodName := ⟨RX5, "restore", "()I"⟩
abbrev cX5_fits : ByteArray := prog_1_method_23_code
def yX5_fits : MethodName := ⟨RX5, "fits", "(IIII)I"⟩
abbrev cX5_film : ByteArray := prog_1_method_24_code
def yX5_film : MethodName := ⟨RX5, "film", "(IIII)I"⟩
abbrev cX5_sheet : ByteArray := prog_1_method_25_code
def yX5_sheet : MethodName := ⟨RX5, "sheet", "(III)I"⟩
abbrev cX5_drop : ByteArray := prog_1_method_26_code
def yX5_drop : MethodName := ⟨RX5, "drop", "(I)I"⟩
abbrev cX5_item : ByteArray := prog_1_method_27_code
def yX5_item : MethodName := ⟨RX5, "item", "(IIIJ)I"⟩
abbrev cX5_copy : ByteArray := prog_1_method_28_code
def yX5_copy : MethodName := ⟨RX5, "copy", "(IIIII)I"⟩
abbrev cX5_within : ByteArray := prog_1_method_29_code
def yX5_within : MethodName := ⟨RX5, "within", "(III)Z"⟩
abbrev cX5_isPart : ByteArray := prog_1_method_30_code
def yX5_isPart : MethodName := ⟨RX5, "isPart", "(I)Z"⟩
abbrev cX5_isSheet : ByteArray := prog_1_method_31_code
def yX5_isSheet : MethodName := ⟨RX5, "isSheet", "(I)Z"⟩
abbrev cX5_isLane : ByteArray := prog_1_method_32_code
def yX5_isLane : MethodName := ⟨RX5, "isLane", "(I)Z"⟩
abbrev cX5_lowest : ByteArray := prog_1_method_33_code
def yX5_lowest : MethodName := ⟨RX5, "lowest", "(JJI)J"⟩
abbrev cX5_greatestDivisor : ByteArray := prog_1_method_34_code
def yX5_greatestDivisor : MethodName := ⟨RX5, "greatestDivisor", "(JJ)J"⟩
abbrev cX5_play : ByteArray := prog_1_method_35_code
def yX5_play : MethodName := ⟨RX5, "play", "(I)Z"⟩
abbrev cX5_tickIfHeard : ByteArray := prog_1_method_36_code
def yX5_tickIfHeard : MethodName := ⟨RX5, "tickIfHeard", "()Z"⟩
abbrev cX5_takeIfRoom : ByteArray := prog_1_method_37_code
def yX5_takeIfRoom : MethodName := ⟨RX5, "takeIfRoom", "(II)Z"⟩
abbrev cX5_driftOnce : ByteArray := prog_1_method_38_code
def yX5_driftOnce : MethodName := ⟨RX5, "driftOnce", "()V"⟩
abbrev cX5_fitsPolicy : ByteArray := prog_1_method_39_code
def yX5_fitsPolicy : MethodName := ⟨RX5, "fitsPolicy", "(LMixRounds$Sheet;III)Z"⟩
abbrev cX5_staying : ByteArray := prog_1_method_40_code
def yX5_staying : MethodName := ⟨RX5, "staying", "(II)I"⟩
def RX6 : String := "MixRoundsModel"
def TX6 : u_T := fun k => match k with
  | 0 => ("MixRoundsModel", "now", "[I", true)
  | 1 => ("MixRoundsModel", "had", "[I", true)
  | 2 => ("MixRoundsModel", "lost", "[I", true)
  | 3 => ("MixRoundsModel", "tape", "[I", true)
  | 4 => ("MixRoundsModel", "taped", "I", false)
  | 5 => ("MixRoundsModel", "place", "I", false)
  | 6 => ("MixRoundsModel", "events", "I", false)
  | 7 => ("MixRoundsModel", "ahead", "[I", true)
  | 8 => ("MixRoundsModel", "undos", "I", false)
  | 9 => ("MixRoundsModel", "kept", "[I", true)
  | 10 => ("MixRoundsModel", "keptAhead", "[I", true)
  | 11 => ("MixRoundsModel", "keptUndos", "I", false)
  | 12 => ("MixRoundsModel", "lanes", "[I", true)
  | 13 => ("MixRoundsModel", "sizes", "[I", true)
  | 14 => ("MixRoundsModel", "items", "[J", true)
  | _ => ("MixRoundsModel", "moved", "[J", true)
def tyX6 : Nat → FieldType := fun k => match k with
  | 0 => .array .int
  | 1 => .array .int
  | 2 => .array .int
  | 3 => .array .int
  | 4 => .int
  | 5 => .int
  | 6 => .int
  | 7 => .array .int
  | 8 => .int
  | 9 => .array .int
  | 10 => .array .int
  | 11 => .int
  | 12 => .array .int
  | 13 => .array .int
  | 14 => .array .long
  | _ => .array .long
abbrev wsX60 : List Cond := u_ws RX6 TX6 16
theorem nmX6 : ∀ a, a < 16 → ∀ b, b < 16 → a ≠ b → (TX6 a).2.1 ≠ (TX6 b).2.1 := by decide +kernel
theorem tyX6_ok : ∀ k, k < 16 → parseFieldDescriptor (TX6 k).2.2.1 = some (tyX6 k) := by decide +kernel
abbrev cX6_in : ByteArray := prog_8_method_2_code
def yX6_in : MethodName := ⟨RX6, "in", "(JJJ)Z"⟩
abbrev cX6_init : ByteArray := prog_8_method_3_code
def yX6_init : MethodName := ⟨RX6, "<init>", "()V"⟩
abbrev cX6_of : ByteArray := prog_8_method_4_code
def yX6_of : MethodName := ⟨RX6, "of", "(II)I"⟩
abbrev cX6_isLetter : ByteArray := prog_8_method_5_code
def yX6_isLetter : MethodName := ⟨RX6, "isLetter", "(I)Z"⟩
abbrev cX6_isRound : ByteArray := prog_8_method_6_code
def yX6_isRound : MethodName := ⟨RX6, "isRound", "(I)Z"⟩
abbrev cX6_stands : ByteArray := prog_8_method_7_code
def yX6_stands : MethodName := ⟨RX6, "stands", "(I)Z"⟩
abbrev cX6_isOwn : ByteArray := prog_8_method_8_code
def yX6_isOwn : MethodName := ⟨RX6, "isOwn", "(I)Z"⟩
abbrev cX6_standing : ByteArray := prog_8_method_9_code
def yX6_standing : MethodName := ⟨RX6, "standing", "()I"⟩
abbrev cX6_standsAt : ByteArray := prog_8_method_10_code
def yX6_standsAt : MethodName := ⟨RX6, "standsAt", "(I)I"⟩
abbrev cX6_draws : ByteArray := prog_8_method_11_code
def yX6_draws : MethodName := ⟨RX6, "draws", "()I"⟩
abbrev cX6_adds : ByteArray := prog_8_method_12_code
def yX6_adds : MethodName := ⟨RX6, "adds", "(II)V"⟩
abbrev cX6_share : ByteArray := prog_8_method_13_code
def yX6_share : MethodName := ⟨RX6, "share", "(II)I"⟩
abbrev cX6_goesRound : ByteArray := prog_8_method_14_code
def yX6_goesRound : MethodName := ⟨RX6, "goesRound", "()I"⟩
abbrev cX6_isFull : ByteArray := prog_8_method_15_code
def yX6_isFull : MethodName := ⟨RX6, "isFull", "()Z"⟩
abbrev cX6_begins : ByteArray := prog_8_method_16_code
def yX6_begins : MethodName := ⟨RX6, "begins", "(IZI)Z"⟩
abbrev cX6_comes : ByteArray := prog_8_method_17_code
def yX6_comes : MethodName := ⟨RX6, "comes", "(II)I"⟩
abbrev cX6_ticks : ByteArray := prog_8_method_18_code
def yX6_ticks : MethodName := ⟨RX6, "ticks", "()I"⟩
abbrev cX6_isSender : ByteArray := prog_8_method_19_code
def yX6_isSender : MethodName := ⟨RX6, "isSender", "(I)Z"⟩
abbrev cX6_come : ByteArray := prog_8_method_20_code
def yX6_come : MethodName := ⟨RX6, "come", "(II)I"⟩
abbrev cX6_tick : ByteArray := prog_8_method_21_code
def yX6_tick : MethodName := ⟨RX6, "tick", "()I"⟩
abbrev cX6_isTold : ByteArray := prog_8_method_22_code
def yX6_isTold : MethodName := ⟨RX6, "isTold", "(II)Z"⟩
abbrev cX6_tell : ByteArray := prog_8_method_23_code
def yX6_tell : MethodName := ⟨RX6, "tell", "(II)I"⟩
abbrev cX6_begin : ByteArray := prog_8_method_24_code
def yX6_begin : MethodName := ⟨RX6, "begin", "()I"⟩
abbrev cX6_letter : ByteArray := prog_8_method_25_code
def yX6_letter : MethodName := ⟨RX6, "letter", "(II)I"⟩
abbrev cX6_inside : ByteArray := prog_8_method_26_code
def yX6_inside : MethodName := ⟨RX6, "inside", "(I)I"⟩
abbrev cX6_wasInside : ByteArray := prog_8_method_27_code
def yX6_wasInside : MethodName := ⟨RX6, "wasInside", "(II)Z"⟩
abbrev cX6_roundOf : ByteArray := prog_8_method_28_code
def yX6_roundOf : MethodName := ⟨RX6, "roundOf", "(II)I"⟩
abbrev cX6_round : ByteArray := prog_8_method_29_code
def yX6_round : MethodName := ⟨RX6, "round", "(II)I"⟩
abbrev cX6_letterOut : ByteArray := prog_8_method_30_code
def yX6_letterOut : MethodName := ⟨RX6, "letterOut", "(II)I"⟩
abbrev cX6_whole : ByteArray := prog_8_method_31_code
def yX6_whole : MethodName := ⟨RX6, "whole", "()J"⟩
abbrev cX6_leftOf : ByteArray := prog_8_method_32_code
def yX6_leftOf : MethodName := ⟨RX6, "leftOf", "(JII)J"⟩
abbrev cX6_chanceOf : ByteArray := prog_8_method_33_code
def yX6_chanceOf : MethodName := ⟨RX6, "chanceOf", "(JIII)J"⟩
abbrev cX6_senderOf : ByteArray := prog_8_method_34_code
def yX6_senderOf : MethodName := ⟨RX6, "senderOf", "(JIII)J"⟩
abbrev cX6_fraction : ByteArray := prog_8_method_35_code
def yX6_fraction : MethodName := ⟨RX6, "fraction", "(JJI)J"⟩
abbrev cX6_out : ByteArray := prog_8_method_36_code
def yX6_out : MethodName := ⟨RX6, "out", "(III)I"⟩
abbrev cX6_count : ByteArray := prog_8_method_37_code
def yX6_count : MethodName := ⟨RX6, "count", "(I)I"⟩
abbrev cX6_chance : ByteArray := prog_8_method_38_code
def yX6_chance : MethodName := ⟨RX6, "chance", "(IIII)J"⟩
abbrev cX6_sender : ByteArray := prog_8_method_39_code
def yX6_sender : MethodName := ⟨RX6, "sender", "(IIII)J"⟩
abbrev cX6_stays : ByteArray := prog_8_method_40_code
def yX6_stays : MethodName := ⟨RX6, "stays", "(II)J"⟩
abbrev cX6_expected : ByteArray := prog_8_method_41_code
def yX6_expected : MethodName := ⟨RX6, "expected", "(III)J"⟩
abbrev cX6_blend : ByteArray := prog_8_method_42_code
def yX6_blend : MethodName := ⟨RX6, "blend", "()I"⟩
abbrev cX6_type : ByteArray := prog_8_method_43_code
def yX6_type : MethodName := ⟨RX6, "type", "(I)I"⟩
abbrev cX6_here : ByteArray := prog_8_method_44_code
def yX6_here : MethodName := ⟨RX6, "here", "()I"⟩
abbrev cX6_event : ByteArray := prog_8_method_45_code
def yX6_event : MethodName := ⟨RX6, "event", "()I"⟩
abbrev cX6_goesThrough : ByteArray := prog_8_method_46_code
def yX6_goesThrough : MethodName := ⟨RX6, "goesThrough", "(Z)Z"⟩
abbrev cX6_read : ByteArray := prog_8_method_47_code
def yX6_read : MethodName := ⟨RX6, "read", "()I"⟩
abbrev cX6_drift : ByteArray := prog_8_method_48_code
def yX6_drift : MethodName := ⟨RX6, "drift", "(I)I"⟩
abbrev cX6_seed : ByteArray := prog_8_method_49_code
def yX6_seed : MethodName := ⟨RX6, "seed", "(I)I"⟩
abbrev cX6_notes : ByteArray := prog_8_method_50_code
def yX6_notes : MethodName := ⟨RX6, "notes", "()V"⟩
abbrev cX6_undo : ByteArray := prog_8_method_51_code
def yX6_undo : MethodName := ⟨RX6, "undo", "()I"⟩
abbrev cX6_image : ByteArray := prog_8_method_52_code
def yX6_image : MethodName := ⟨RX6, "image", "()I"⟩
abbrev cX6_restore : ByteArray := prog_8_method_53_code
def yX6_restore : MethodName := ⟨RX6, "restore", "()I"⟩
abbrev cX6_isSheet : ByteArray := prog_8_method_54_code
def yX6_isSheet : MethodName := ⟨RX6, "isSheet", "(I)Z"⟩
abbrev cX6_cut : ByteArray := prog_8_method_55_code
def yX6_cut : MethodName := ⟨RX6, "cut", "(JI)J"⟩
abbrev cX6_sheet : ByteArray := prog_8_method_56_code
def yX6_sheet : MethodName := ⟨RX6, "sheet", "(III)I"⟩
abbrev cX6_drop : ByteArray := prog_8_method_57_code
def yX6_drop : MethodName := ⟨RX6, "drop", "(I)I"⟩
abbrev cX6_why : ByteArray := prog_8_method_58_code
def yX6_why : MethodName := ⟨RX6, "why", "(IIII)I"⟩
abbrev cX6_item : ByteArray := prog_8_method_59_code
def yX6_item : MethodName := ⟨RX6, "item", "(IIIJ)I"⟩
abbrev cX6_copy : ByteArray := prog_8_method_60_code
def yX6_copy : MethodName := ⟨RX6, "copy", "(IIIII)I"⟩
abbrev cX6_isSo : ByteArray := prog_8_method_61_code
def yX6_isSo : MethodName := ⟨RX6, "isSo", "(III)Z"⟩
abbrev cX6_fits : ByteArray := prog_8_method_62_code
def yX6_fits : MethodName := ⟨RX6, "fits", "(IIII)I"⟩
abbrev cX6_film : ByteArray := prog_8_method_63_code
def yX6_film : MethodName := ⟨RX6, "film", "(IIII)I"⟩
def RJx8e188 : String := "java/lang/Cloneable"
def TJx8e188 : u_T := fun k => match k with
  | _ => ("", "", "", false)
def tyJx8e188 : Nat → FieldType := fun k => match k with
  | _ => .int
abbrev wsJx8e1880 : List Cond := u_ws RJx8e188 TJx8e188 0
theorem nmJx8e188 : ∀ a, a < 0 → ∀ b, b < 0 → a ≠ b → (TJx8e188 a).2.1 ≠ (TJx8e188 b).2.1 := by decide +kernel
theorem tyJx8e188_ok : ∀ k, k < 0 → parseFieldDescriptor (TJx8e188 k).2.2.1 = some (tyJx8e188 k) := by decide +kernel
def RJ9 : String := "java/lang/Math"
def TJ9 : u_T := fun k => match k with
  | _ => ("", "", "", false)
def tyJ9 : Nat → FieldType := fun k => match k with
  | _ => .int
abbrev wsJ90 : List Cond := u_ws RJ9 TJ9 0
theorem nmJ9 : ∀ a, a < 0 → ∀ b, b < 0 → a ≠ b → (TJ9 a).2.1 ≠ (TJ9 b).2.1 := by decide +kernel
theorem tyJ9_ok : ∀ k, k < 0 → parseFieldDescriptor (TJ9 k).2.2.1 = some (tyJ9 k) := by decide +kernel
abbrev cJ9_max_7cf53 : ByteArray := prog_10_method_65_code
def yJ9_max_7cf53 : MethodName := ⟨RJ9, "max", "(II)I"⟩
def RJ10 : String := "java/lang/System"
def TJ10 : u_T := fun k => match k with
  | _ => ("", "", "", false)
def tyJ10 : Nat → FieldType := fun k => match k with
  | _ => .int
abbrev wsJ100 : List Cond := u_ws RJ10 TJ10 0
theorem nmJ10 : ∀ a, a < 0 → ∀ b, b < 0 → a ≠ b → (TJ10 a).2.1 ≠ (TJ10 b).2.1 := by decide +kernel
theorem tyJ10_ok : ∀ k, k < 0 → parseFieldDescriptor (TJ10 k).2.2.1 = some (tyJ10 k) := by decide +kernel
def RJ7 : String := "java/util/Arrays"
def TJ7 : u_T := fun k => match k with
  | _ => ("", "", "", false)
def tyJ7 : Nat → FieldType := fun k => match k with
  | _ => .int
abbrev wsJ70 : List Cond := u_ws RJ7 TJ7 0
theorem nmJ7 : ∀ a, a < 0 → ∀ b, b < 0 → a ≠ b → (TJ7 a).2.1 ≠ (TJ7 b).2.1 := by decide +kernel
theorem tyJ7_ok : ∀ k, k < 0 → parseFieldDescriptor (TJ7 k).2.2.1 = some (tyJ7 k) := by decide +kernel
abbrev cJ7_fill_d0a16 : ByteArray := prog_12_method_101_code
def yJ7_fill_d0a16 : MethodName := ⟨RJ7, "fill", "([JJ)V"⟩
def RL : String := "MixRoundsLaw"
abbrev cL_law : ByteArray := code
def yL_law : MethodName := ⟨RL, "law", "([I)Z"⟩
abbrev vwCl : List vw_C := [(RX0, TX0, 13), (RX1, TX1, 3), (RX2, TX2, 3), (RX3, TX3, 5), (RX5, TX5, 7), (RX6, TX6, 16)]
def NWl : List (String × Nat × MethodName × String) := [("MixRounds$Book", 78, ⟨"MixRounds", "within", "(III)Z"⟩, "MixRounds"), ("MixRounds$Tape", 41, ⟨"MixRounds", "within", "(III)Z"⟩, "MixRounds")]
end
section
/-! ===== numbers: machine ints by whole numbers ===== -/
def iI (z : Int) : Int32 := Int32.ofInt z
def lI (z : Int) : Int64 := Int64.ofInt z
abbrev vI (z : Int) : Value := .int (iI z)
abbrev vL (z : Int) : Value := .long (lI z)
theorem iI_of (x : Int32) : iI x.toInt = x := Int32.ofInt_toInt x
theorem lI_of (x : Int64) : lI x.toInt = x := Int64.ofInt_toInt x
theorem i32_rg (x : Int32) : -2147483648 ≤ x.toInt ∧ x.toInt < 2147483648 := ⟨Int32.le_toInt x, Int32.toInt_lt x⟩
theorem i64_rg (x : Int64) : -9223372036854775808 ≤ x.toInt ∧ x.toInt < 9223372036854775808 := ⟨Int64.le_toInt x, Int64.toInt_lt x⟩
theorem iI_toInt {a : Int} (h : -2147483648 ≤ a ∧ a < 2147483648) : (iI a).toInt = a := Int32.toInt_ofInt_of_le h.1 h.2
theorem lI_toInt {a : Int} (h : -9223372036854775808 ≤ a ∧ a < 9223372036854775808) : (lI a).toInt = a := Int64.toInt_ofInt_of_le h.1 h.2
theorem iI_add (a b : Int) : iI a + iI b = iI (a + b) := (Int32.ofInt_add a b).symm
theorem iI_sub (a b : Int) : iI a - iI b = iI (a - b) := (Int32.ofInt_sub a b).symm
theorem iI_mul (a b : Int) : iI a * iI b = iI (a * b) := (Int32.ofInt_mul a b).symm
theorem lI_add (a b : Int) : lI a + lI b = lI (a + b) := (Int64.ofInt_add a b).symm
theorem lI_sub (a b : Int) : lI a - lI b = lI (a - b) := (Int64.ofInt_sub a b).symm
theorem lI_mul (a b : Int) : lI a * lI b = lI (a * b) := (Int64.ofInt_mul a b).symm
theorem iI_lt {a b : Int} (ha : -2147483648 ≤ a ∧ a < 2147483648) (hb : -2147483648 ≤ b ∧ b < 2147483648) : iI a < iI b ↔ a < b := by rw [Int32.lt_iff_toInt_lt, iI_toInt ha, iI_toInt hb]
theorem iI_le {a b : Int} (ha : -2147483648 ≤ a ∧ a < 2147483648) (hb : -2147483648 ≤ b ∧ b < 2147483648) : iI a ≤ iI b ↔ a ≤ b := by rw [Int32.le_iff_toInt_le, iI_toInt ha, iI_toInt hb]
theorem iI_eq {a b : Int} (ha : -2147483648 ≤ a ∧ a < 2147483648) (hb : -2147483648 ≤ b ∧ b < 2147483648) : iI a = iI b ↔ a = b := by rw [← Int32.toInt_inj, iI_toInt ha, iI_toInt hb]
theorem lI_lt {a b : Int} (ha : -9223372036854775808 ≤ a ∧ a < 9223372036854775808) (hb : -9223372036854775808 ≤ b ∧ b < 9223372036854775808) : lI a < lI b ↔ a < b := by rw [Int64.lt_iff_toInt_lt, lI_toInt ha, lI_toInt hb]
theorem lI_eq {a b : Int} (ha : -9223372036854775808 ≤ a ∧ a < 9223372036854775808) (hb : -9223372036854775808 ≤ b ∧ b < 9223372036854775808) : lI a = lI b ↔ a = b := by rw [← Int64.toInt_inj, lI_toInt ha, lI_toInt hb]
theorem iI_cl {a : Int} (h : -2147483648 ≤ a ∧ a < 2147483648) : (iI a).toNatClampNeg = a.toNat := Int32.toNatClampNeg_ofInt_of_le h.1 h.2
theorem iI_in {a : Int} {n : Nat} (h : 0 ≤ a ∧ a < n) (hn : n < 2147483648) : vp_in (iI a) n := vp_in_iff.mpr (by rw [iI_toInt (by omega)]; exact h)
theorem iI_0 : iI 0 = 0 := rfl
theorem lI_0 : lI 0 = 0 := rfl
theorem iI_div {a b : Int} (ha : 0 ≤ a ∧ a < 2147483648) (hb : 0 < b ∧ b < 2147483648) : iI a / iI b = iI (a / b) := by
  have h1 : Int32.minValue.toInt = -2147483648 := rfl
  have h2 : Int32.maxValue.toInt = 2147483647 := rfl
  rw [← Int.tdiv_eq_ediv_of_nonneg ha.1]
  exact (Int32.ofInt_tdiv (by omega) (by omega) (by omega) (by omega)).symm
theorem iI_rem {a b : Int} (ha : 0 ≤ a ∧ a < 2147483648) (hb : 0 < b ∧ b < 2147483648) : iI a - iI a / iI b * iI b = iI (a % b) := by
  rw [iI_div ha hb, iI_mul, iI_sub, Int.emod_def, Int.mul_comm]
theorem lI_div {a b : Int} (ha : 0 ≤ a ∧ a < 9223372036854775808) (hb : 0 < b ∧ b < 9223372036854775808) : lI a / lI b = lI (a / b) := by
  have h1 : Int64.minValue.toInt = -9223372036854775808 := rfl
  have h2 : Int64.maxValue.toInt = 9223372036854775807 := rfl
  rw [← Int.tdiv_eq_ediv_of_nonneg ha.1]
  exact (Int64.ofInt_tdiv (by omega) (by omega) (by omega) (by omega)).symm
theorem lI_rem {a b : Int} (ha : 0 ≤ a ∧ a < 9223372036854775808) (hb : 0 < b ∧ b < 9223372036854775808) : lI a - lI a / lI b * lI b = lI (a % b) := by
  rw [lI_div ha hb, lI_mul, lI_sub, Int.emod_def, Int.mul_comm]
theorem iI_l {a : Int} (h : -2147483648 ≤ a ∧ a < 2147483648) : (iI a).toInt64 = lI a := by
  have h1 : Int32.minValue.toInt = -2147483648 := rfl
  have h2 : Int32.maxValue.toInt = 2147483647 := rfl
  exact Int32.toInt64_ofInt (by omega) (by omega)
theorem lI_i (a : Int) : (lI a).toInt32 = iI a := Int64.toInt32_ofInt
theorem iI_nat (n : Nat) : nI n = iI (n : Int) := (Int32.ofInt_eq_ofNat).symm
theorem iI_bits (a : Int) : (iI a).toBitVec.toNat = (a % 4294967296).toNat := by
  show (BitVec.ofInt 32 a).toNat = _
  rw [BitVec.toNat_ofInt]
  rfl
theorem iI_and (a : Int) (k : Nat) {mk : Int} (hm : (iI mk).toBitVec.toNat = 2 ^ k - 1) (hk : k ≤ 31) : iI a &&& iI mk = iI (a % ((2 ^ k : Nat) : Int)) := by
  rw [pk_and (iI a) k hm, iI_bits, iI_nat]
  congr 1
  have h32 : (4294967296 : Nat) = 2 ^ k * 2 ^ (32 - k) := by rw [← Nat.pow_add, show k + (32 - k) = 32 by omega]
  have h1 : (0 : Int) ≤ a % 4294967296 := Int.emod_nonneg _ (by decide)
  rw [Int.natCast_emod, Int.toNat_of_nonneg h1]
  have h2 : (((2 ^ k : Nat) : Int)) ∣ (4294967296 : Int) := ⟨((2 ^ (32 - k) : Nat) : Int), by rw [← Int.natCast_mul, ← h32]; rfl⟩
  exact Int.emod_emod_of_dvd a h2
theorem iI_shr16 {a : Int} (h : 0 ≤ a ∧ a < 2147483648) : iI a >>> (iI 16 &&& 31) = iI (a / 65536) := by
  obtain ⟨n, rfl⟩ := Int.eq_ofNat_of_zero_le h.1
  rw [← iI_nat, pk_shrN (by omega) _ 16 (by decide), iI_nat]
  rfl
theorem iI_shl1 : ∀ k : Nat, k < 4 → iI 1 <<< (iI (k : Int) &&& 31) = iI ((2 ^ k : Nat) : Int) := by decide +kernel
def orI (a b : Int) : Int := ((a.toNat ||| b.toNat : Nat) : Int)
theorem iI_or {a b : Int} (ha : 0 ≤ a ∧ a < 2147483648) (hb : 0 ≤ b ∧ b < 2147483648) : iI a ||| iI b = iI (orI a b) := by
  obtain ⟨n, rfl⟩ := Int.eq_ofNat_of_zero_le ha.1
  obtain ⟨k, rfl⟩ := Int.eq_ofNat_of_zero_le hb.1
  rw [← iI_nat, ← iI_nat]
  show nI n ||| nI k = iI ((n ||| k : Nat) : Int)
  rw [← iI_nat]
  apply Int32.toBitVec.inj
  apply BitVec.eq_of_toNat_eq
  show ((nI n).toBitVec ||| (nI k).toBitVec).toNat = _
  have h1 : n ||| k < 2 ^ 31 := Nat.or_lt_two_pow (by omega) (by omega)
  rw [BitVec.toNat_or, pk_tn (by omega), pk_tn (by omega), pk_tn (by omega)]
def w8 (a : Int) : Int := (Int8.ofInt a).toInt
def w16 (a : Int) : Int := (Int16.ofInt a).toInt
theorem iI_b (a : Int) : (iI a).toInt8.toInt32 = iI (w8 a) := by
  rw [show (iI a).toInt8 = Int8.ofInt a from Int32.toInt8_ofInt]
  exact (Int32.toInt_inj.mp (by rw [iI_toInt ⟨by have := Int8.le_toInt (Int8.ofInt a); unfold w8; omega, by have := Int8.toInt_lt (Int8.ofInt a); unfold w8; omega⟩]; simp [w8])).symm
theorem iI_s (a : Int) : (iI a).toInt16.toInt32 = iI (w16 a) := by
  rw [show (iI a).toInt16 = Int16.ofInt a from Int32.toInt16_ofInt]
  exact (Int32.toInt_inj.mp (by rw [iI_toInt ⟨by have := Int16.le_toInt (Int16.ofInt a); unfold w16; omega, by have := Int16.toInt_lt (Int16.ofInt a); unfold w16; omega⟩]; simp [w16])).symm
theorem w8_rg (a : Int) : -128 ≤ w8 a ∧ w8 a < 128 := ⟨Int8.le_toInt _, Int8.toInt_lt _⟩
theorem w16_rg (a : Int) : -32768 ≤ w16 a ∧ w16 a < 32768 := ⟨Int16.le_toInt _, Int16.toInt_lt _⟩
def cmpI (a b : Int) : Int := if b < a then 1 else if a = b then 0 else -1
theorem lI_cmp {a b : Int} (ha : -9223372036854775808 ≤ a ∧ a < 9223372036854775808) (hb : -9223372036854775808 ≤ b ∧ b < 9223372036854775808) : lg_cmp (lI a) (lI b) = iI (cmpI a b) := by
  unfold lg_cmp cmpI
  simp only [GT.gt, lI_lt hb ha, lI_eq ha hb]
  split
  · rfl
  · split <;> rfl
def bI (p : Prop) [Decidable p] : Int := if p then 1 else 0
theorem bI_pos {p : Prop} [Decidable p] (h : p) : bI p = 1 := if_pos h
theorem bI_neg {p : Prop} [Decidable p] (h : ¬ p) : bI p = 0 := if_neg h
theorem bI_01 (p : Prop) [Decidable p] : bI p = 0 ∨ bI p = 1 := by unfold bI; split <;> simp

/-! ===== the state: cluster c (0 the class, 1 .. 14 its books, 15 16 its pasts, 17 its tape, 18 .. 21 its sheets, 22 the reference), field j, place i ===== -/
abbrev St : Type := Nat → Nat → Nat → Int
abbrev GT : Type := Launch × (Nat → Nat → Nat) × (Nat → Prop) × va_G × (Nat → Nat → ClassId) × (Nat → Nat) × Nat × Nat × (Nat → Int32)
abbrev MKT : Type := String × MethodName × ByteArray × Nat × Option FieldType × Nat
def oR (G : GT) (c : Nat) : Value := .ref (G.2.1 c 0)
def aR (G : GT) (c j : Nat) : Value := .ref (G.2.1 c (j + 1))
def kd (c : Nat) : Nat := if c = 0 then 4 else if c ≤ 14 then 0 else if c ≤ 16 then 1 else if c = 17 then 3 else if c ≤ 21 then 2 else 5
def fl_Book (G : GT) (S : St) (c : Nat) : List Value := [aR G c 0, vI (S c 1 0), vI (S c 2 0), aR G c 3, aR G c 4, aR G c 5, aR G c 6, aR G c 7, vI (S c 8 0), aR G c 9, vI (S c 10 0), aR G c 11, aR G c 12]
def fl_Past (G : GT) (S : St) (c : Nat) : List Value := [aR G c 0, vI (S c 1 0), vI (S c 2 0)]
def fl_Sheet (G : GT) (S : St) (c : Nat) : List Value := [vI (S c 0 0), vI (S c 1 0), aR G c 2]
def fl_Tape (G : GT) (S : St) (c : Nat) : List Value := [aR G c 0, vI (S c 1 0), aR G c 2, aR G c 3, vI (S c 4 0)]
def fl_Mix (G : GT) (S : St) (c : Nat) : List Value := [oR G 1, oR G 15, oR G 8, oR G 16, vI (S c 4 0), oR G 17, aR G c 6]
def fl_Model (G : GT) (S : St) (c : Nat) : List Value := [aR G c 0, aR G c 1, aR G c 2, aR G c 3, vI (S c 4 0), vI (S c 5 0), vI (S c 6 0), aR G c 7, vI (S c 8 0), aR G c 9, aR G c 10, vI (S c 11 0), aR G c 12, aR G c 13, aR G c 14, aR G c 15]
def fl (G : GT) (S : St) (c : Nat) : List Value := match kd c with
  | 0 => fl_Book G S c
  | 1 => fl_Past G S c
  | 2 => fl_Sheet G S c
  | 3 => fl_Tape G S c
  | 4 => fl_Mix G S c
  | _ => fl_Model G S c
def lnk (k j : Nat) : Nat := match k, j with
  | 0, 0 => 4
  | 0, 3 => 79
  | 0, 4 => 79
  | 0, 5 => 79
  | 0, 6 => 79
  | 0, 7 => 79
  | 0, 9 => 15
  | 0, 11 => 72
  | 0, 12 => 180
  | 1, 0 => 6
  | 2, 2 => 24
  | 3, 0 => 90
  | 3, 2 => 90
  | 3, 3 => 90
  | 4, 6 => 4
  | 5, 0 => 402
  | 5, 1 => 12
  | 5, 2 => 12
  | 5, 3 => 90
  | 5, 7 => 2412
  | 5, 9 => 402
  | 5, 10 => 2412
  | 5, 12 => 4
  | 5, 13 => 4
  | 5, 14 => 96
  | 5, 15 => 24
  | _, _ => 0
def akk (k j : Nat) : Nat := match k, j with
  | 0, 0 => 1
  | 0, 3 => 1
  | 0, 4 => 1
  | 0, 5 => 1
  | 0, 6 => 1
  | 0, 7 => 1
  | 0, 9 => 1
  | 0, 11 => 1
  | 0, 12 => 1
  | 1, 0 => 3
  | 2, 2 => 2
  | 3, 0 => 1
  | 3, 2 => 1
  | 3, 3 => 1
  | 4, 6 => 3
  | 5, 0 => 1
  | 5, 1 => 1
  | 5, 2 => 1
  | 5, 3 => 1
  | 5, 7 => 1
  | 5, 9 => 1
  | 5, 10 => 1
  | 5, 12 => 1
  | 5, 13 => 1
  | 5, 14 => 2
  | 5, 15 => 2
  | _, _ => 0
def ln (c j : Nat) : Nat := lnk (kd c) j
def ak (c j : Nat) : Nat := akk (kd c) j
def rf (c k : Nat) : Nat := if c = 0 then 18 + k else if c = 15 then 2 + k else 9 + k
def aty (c j : Nat) : FieldType := if ak c j = 1 then .int else if ak c j = 2 then .long else if c = 0 then .object "MixRounds$Sheet" else .object "MixRounds$Book"
def mkc (G : GT) (S : St) (c j : Nat) : (Nat → Int32) ⊕ (Nat → Int64) ⊕ (Nat → UInt32) ⊕ (Nat → UInt64) ⊕ (Nat → Option Nat) := if ak c j = 1 then .inl (fun k => iI (S c j k)) else if ak c j = 2 then .inr (.inl (fun k => lI (S c j k))) else .inr (.inr (.inr (.inr (fun k => some (G.2.1 (rf c k) 0)))))
def mk (G : GT) (S : St) (c t : Nat) : va_E := match t with
  | 0 => .inr (kd c, fl G S c)
  | j + 1 => .inl (G.2.2.2.2.1 c j, ln c j, mkc G S c j)
def vs : List (Nat × Nat) := [(0, 0), (0, 7), (1, 0), (1, 1), (1, 4), (1, 5), (1, 6), (1, 7), (1, 8), (1, 10), (1, 12), (1, 13), (2, 0), (2, 1), (2, 4), (2, 5), (2, 6), (2, 7), (2, 8), (2, 10), (2, 12), (2, 13), (3, 0), (3, 1), (3, 4), (3, 5), (3, 6), (3, 7), (3, 8), (3, 10), (3, 12), (3, 13), (4, 0), (4, 1), (4, 4), (4, 5), (4, 6), (4, 7), (4, 8), (4, 10), (4, 12), (4, 13), (5, 0), (5, 1), (5, 4), (5, 5), (5, 6), (5, 7), (5, 8), (5, 10), (5, 12), (5, 13), (6, 0), (6, 1), (6, 4), (6, 5), (6, 6), (6, 7), (6, 8), (6, 10), (6, 12), (6, 13), (7, 0), (7, 1), (7, 4), (7, 5), (7, 6), (7, 7), (7, 8), (7, 10), (7, 12), (7, 13), (8, 0), (8, 1), (8, 4), (8, 5), (8, 6), (8, 7), (8, 8), (8, 10), (8, 12), (8, 13), (9, 0), (9, 1), (9, 4), (9, 5), (9, 6), (9, 7), (9, 8), (9, 10), (9, 12), (9, 13), (10, 0), (10, 1), (10, 4), (10, 5), (10, 6), (10, 7), (10, 8), (10, 10), (10, 12), (10, 13), (11, 0), (11, 1), (11, 4), (11, 5), (11, 6), (11, 7), (11, 8), (11, 10), (11, 12), (11, 13), (12, 0), (12, 1), (12, 4), (12, 5), (12, 6), (12, 7), (12, 8), (12, 10), (12, 12), (12, 13), (13, 0), (13, 1), (13, 4), (13, 5), (13, 6), (13, 7), (13, 8), (13, 10), (13, 12), (13, 13), (14, 0), (14, 1), (14, 4), (14, 5), (14, 6), (14, 7), (14, 8), (14, 10), (14, 12), (14, 13), (15, 0), (15, 1), (16, 0), (16, 1), (17, 0), (17, 1), (17, 3), (17, 4), (18, 0), (18, 3), (19, 0), (19, 3), (20, 0), (20, 3), (21, 0), (21, 3), (22, 0), (22, 1), (22, 2), (22, 3), (22, 4), (22, 8), (22, 10), (22, 11), (22, 13), (22, 14), (22, 15), (22, 16)]
def Wd (G : GT) (S : St) : va_W := vs.map fun q => (G.2.1 q.1 q.2, mk G S q.1 q.2)
def tysG (G : GT) : List (ClassId × FieldType) := vs.filterMap fun q => if q.2 = 0 then none else some (G.2.2.2.2.1 q.1 (q.2 - 1), aty q.1 (q.2 - 1))
def st3 (S : St) (c j i : Nat) (x : Int) : St := fun c1 j1 i1 => if c1 = c ∧ j1 = j ∧ i1 = i then x else S c1 j1 i1
theorem vs_nd : vs.Nodup := by decide +kernel
theorem vs_obj : ∀ c, c < 23 → (c, 0) ∈ vs := by decide +kernel
theorem vs_arr0 : ∀ c, c < 23 → ∀ j, j < 16 → (ak c j = 0 ∨ (c, j + 1) ∈ vs) := by decide +kernel
theorem vs_arr (c : Nat) (hc : c < 23) (j : Nat) (hj : j < 16) (h : ak c j ≠ 0) : (c, j + 1) ∈ vs := (vs_arr0 c hc j hj).resolve_left h
theorem vs_ok : ∀ q ∈ vs, q.1 < 23 ∧ (q.2 = 0 ∨ (q.2 - 1 < 16 ∧ ak q.1 (q.2 - 1) ≠ 0)) := by decide +kernel
theorem ln_small : ∀ c, c < 23 → ∀ j, j < 16 → ln c j < 3000 := by decide +kernel
def RhoOk (G : GT) : Prop := (∀ p ∈ vs, ∀ q ∈ vs, G.2.1 p.1 p.2 = G.2.1 q.1 q.2 → p = q) ∧ ∀ q ∈ vs, G.2.2.1 (G.2.1 q.1 q.2)
theorem Wd_at {G : GT} {S : St} {q : Nat × Nat} (h : q ∈ vs) : ∃ k : Nat, vs[k]? = some q ∧ (Wd G S)[k]? = some (G.2.1 q.1 q.2, mk G S q.1 q.2) := by
  obtain ⟨k, hk⟩ := List.getElem?_of_mem h
  exact ⟨k, hk, by rw [Wd, List.getElem?_map, hk]; rfl⟩
theorem Wd_D {G : GT} {S : St} (h : RhoOk G) : va_D G.2.2.1 (Wd G S) := by
  refine ⟨fun i j p q hi hj e => ?_, fun k q hk => ?_⟩
  · rw [Wd, List.getElem?_map] at hi hj
    cases h1 : vs[i]? with
    | none => rw [h1] at hi; cases hi
    | some a =>
      cases h2 : vs[j]? with
      | none => rw [h2] at hj; cases hj
      | some b =>
        rw [h1] at hi; rw [h2] at hj
        cases hi; cases hj
        have e2 := h.1 a (List.mem_of_getElem? h1) b (List.mem_of_getElem? h2) e
        subst e2
        obtain ⟨li, gi⟩ := List.getElem?_eq_some_iff.mp h1
        obtain ⟨lj, gj⟩ := List.getElem?_eq_some_iff.mp h2
        exact (List.getElem?_inj li vs_nd).mp (h1.trans h2.symm)
  · rw [Wd, List.getElem?_map] at hk
    cases h1 : vs[k]? with
    | none => rw [h1] at hk; cases hk
    | some a =>
      rw [h1] at hk; cases hk
      exact h.2 a (List.mem_of_getElem? h1)
/-- one cell written -/
theorem Wd_set {G : GT} {S S' : St} {k : Nat} {q : Nat × Nat} (hk : vs[k]? = some q) (h : ∀ p ∈ vs, p ≠ q → mk G S' p.1 p.2 = mk G S p.1 p.2) : (Wd G S).set k (G.2.1 q.1 q.2, mk G S' q.1 q.2) = Wd G S' := by
  apply List.ext_getElem?
  intro i
  rw [List.getElem?_set]
  obtain ⟨lk, gk⟩ := List.getElem?_eq_some_iff.mp hk
  by_cases hi : k = i
  · subst hi
    have hl : k < (Wd G S).length := by rw [Wd, List.length_map]; exact lk
    rw [if_pos rfl, if_pos hl]
    simp only [Wd, List.getElem?_map, hk]
    rfl
  · rw [if_neg hi]
    simp only [Wd, List.getElem?_map]
    cases h1 : vs[i]? with
    | none => rfl
    | some a =>
      obtain ⟨li, gi⟩ := List.getElem?_eq_some_iff.mp h1
      have hne : a ≠ q := fun e => hi ((List.getElem?_inj lk vs_nd).mp (hk.trans ((congrArg some e.symm).trans h1.symm)))
      show some (_, mk G S a.1 a.2) = some (_, mk G S' a.1 a.2)
      rw [h a (List.mem_of_getElem? h1) hne]
theorem st3_s (S : St) (c j i : Nat) (x : Int) : st3 S c j i x c j i = x := if_pos ⟨rfl, rfl, rfl⟩
theorem st3_c {S : St} {c j i c1 j1 i1 : Nat} {x : Int} (h : c1 ≠ c) : st3 S c j i x c1 j1 i1 = S c1 j1 i1 := if_neg (fun q => h q.1)
theorem st3_j {S : St} {c j i c1 j1 i1 : Nat} {x : Int} (h : j1 ≠ j) : st3 S c j i x c1 j1 i1 = S c1 j1 i1 := if_neg (fun q => h q.2.1)
theorem st3_i {S : St} {c j i c1 j1 i1 : Nat} {x : Int} (h : i1 ≠ i) : st3 S c j i x c1 j1 i1 = S c1 j1 i1 := if_neg (fun q => h q.2.2)
theorem kd_cases (c : Nat) (h : c < 23) : kd c = 0 ∨ kd c = 1 ∨ kd c = 2 ∨ kd c = 3 ∨ kd c = 4 ∨ kd c = 5 := by
  have : ∀ c, c < 23 → kd c = 0 ∨ kd c = 1 ∨ kd c = 2 ∨ kd c = 3 ∨ kd c = 4 ∨ kd c = 5 := by decide +kernel
  exact this c h
theorem kd_book {c : Nat} (h : 1 ≤ c ∧ c ≤ 14) : kd c = 0 := by unfold kd; rw [if_neg (by omega), if_pos (by omega)]
theorem kd_past {c : Nat} (h : 15 ≤ c ∧ c ≤ 16) : kd c = 1 := by unfold kd; rw [if_neg (by omega), if_neg (by omega), if_pos (by omega)]
theorem kd_sheet {c : Nat} (h : 18 ≤ c ∧ c ≤ 21) : kd c = 2 := by unfold kd; rw [if_neg (by omega), if_neg (by omega), if_neg (by omega), if_neg (by omega), if_pos (by omega)]
/-- an element written: the other cells stay -/
theorem mk_arr {G : GT} {S : St} {c j i : Nat} {x : Int} (hc : c < 23) (ha : ak c j ≠ 0) {p : Nat × Nat} (hp : p ∈ vs) (hne : p ≠ (c, j + 1)) : mk G (st3 S c j i x) p.1 p.2 = mk G S p.1 p.2 := by
  obtain ⟨pc, pt⟩ := p
  have hok := vs_ok _ hp
  dsimp only at hok ⊢
  cases pt with
  | zero =>
    show (Sum.inr (kd pc, fl G (st3 S c j i x) pc) : va_E) = Sum.inr (kd pc, fl G S pc)
    have e : fl G (st3 S c j i x) pc = fl G S pc := by
      by_cases hcc : pc = c
      · subst hcc
        unfold ak at ha
        rcases kd_cases pc hc with h | h | h | h | h | h <;> rw [h] at ha <;> simp only [fl, h, fl_Book, fl_Past, fl_Sheet, fl_Tape, fl_Mix, fl_Model] <;>
          (congr <;> exact st3_j (fun e => ha (by rw [← e]; rfl)))
      · unfold fl
        have hz : ∀ j1 i1, st3 S c j i x pc j1 i1 = S pc j1 i1 := fun j1 i1 => st3_c hcc
        split <;> simp only [fl_Book, fl_Past, fl_Sheet, fl_Tape, fl_Mix, fl_Model, hz]
    rw [e]
  | succ t =>
    show (Sum.inl (G.2.2.2.2.1 pc t, ln pc t, mkc G (st3 S c j i x) pc t) : va_E) = Sum.inl (G.2.2.2.2.1 pc t, ln pc t, mkc G S pc t)
    have e : mkc G (st3 S c j i x) pc t = mkc G S pc t := by
      have hz : ∀ k, st3 S c j i x pc t k = S pc t k := fun k => if_neg (fun q => hne (by rw [q.1, q.2.1]))
      unfold mkc
      simp only [hz]
    rw [e]
/-- a field written: the other cells stay -/
theorem mk_fld {G : GT} {S : St} {c j : Nat} {x : Int} (ha : ak c j = 0) {p : Nat × Nat} (hp : p ∈ vs) (hne : p ≠ (c, 0)) : mk G (st3 S c j 0 x) p.1 p.2 = mk G S p.1 p.2 := by
  obtain ⟨pc, pt⟩ := p
  have hok := vs_ok _ hp
  dsimp only at hok ⊢
  cases pt with
  | zero =>
    have hcc : pc ≠ c := fun e => hne (by rw [e])
    show (Sum.inr (kd pc, fl G (st3 S c j 0 x) pc) : va_E) = Sum.inr (kd pc, fl G S pc)
    have hz : ∀ j1 i1, st3 S c j 0 x pc j1 i1 = S pc j1 i1 := fun j1 i1 => st3_c hcc
    have e : fl G (st3 S c j 0 x) pc = fl G S pc := by
      unfold fl
      split <;> simp only [fl_Book, fl_Past, fl_Sheet, fl_Tape, fl_Mix, fl_Model, hz]
    rw [e]
  | succ t =>
    have e : mkc G (st3 S c j 0 x) pc t = mkc G S pc t := by
      have hz : ∀ k, st3 S c j 0 x pc t k = S pc t k := by
        intro k
        refine if_neg (fun q => ?_)
        rcases hok.2 with h | h
        · cases h
        · apply h.2
          rw [q.1, show t + 1 - 1 = t from rfl, q.2.1]
          exact ha
      unfold mkc
      simp only [hz]
    show (Sum.inl (G.2.2.2.2.1 pc t, ln pc t, mkc G (st3 S c j 0 x) pc t) : va_E) = Sum.inl (G.2.2.2.2.1 pc t, ln pc t, mkc G S pc t)
    rw [e]
theorem tys_at {G : GT} {c j : Nat} (hc : c < 23) (hj : j < 16) (ha : ak c j ≠ 0) : ∃ k : Nat, (tysG G)[k]? = some (G.2.2.2.2.1 c j, aty c j) := by
  apply List.getElem?_of_mem
  exact List.mem_filterMap.mpr ⟨(c, j + 1), vs_arr c hc j hj ha, by simp⟩

/-! ===== the judgement ===== -/
def tb : List Cond := lw_tbl.filter goodWord
theorem tb_of {w : Cond} (h : w ∈ lw_tbl) (g : goodWord w = true) : w ∈ tb := List.mem_filter.mpr ⟨h, g⟩
theorem tb_at {w : Cond} (i : Nat) (h : lw_tbl[i]? = some w) (g : goodWord w = true) : w ∈ tb := tb_of (List.mem_of_getElem? h) g
theorem tb_good {w : Cond} (h : w ∈ tb) : goodWord w = true := (List.mem_filter.mp h).2
def NW (U : State) : Prop := ∀ x ∈ NWl, va_Nw (.methodLinkNest x.1 x.2.1 x.2.2.1 x.2.2.2) U
def leastJ (j : Nat) : Int := if j = 1 then 1 else 0
def mostJ (j : Nat) : Int := if j = 0 then 3 else if j = 1 then 8 else if j = 2 then 4 else 3
def Hd (G : GT) (S : St) (H : Heap) : Prop := va_P G.2.2.2.1 vwCl (Wd G S) H
def SZ (G : GT) (U : State) : Prop := (va_Z "MixRounds" "LEAST" "[I" (.ref (G.2.2.2.2.2.1 0)) G.2.2.1 U U.heap ∧ va_T .int (G.2.2.2.2.2.1 0) 4 (fun j => vI (leastJ j)) G.2.2.1 U U.heap) ∧ (va_Z "MixRounds" "MOST" "[I" (.ref (G.2.2.2.2.2.1 1)) G.2.2.1 U U.heap ∧ va_T .int (G.2.2.2.2.2.1 1) 4 (fun j => vI (mostJ j)) G.2.2.1 U U.heap)
def Kd (G : GT) (U : State) : Prop := va_K G.2.2.2.1 vwCl (tysG G) U ∧ RhoOk G ∧ SZ G U ∧ NW U
theorem SZ.to {G : GT} {u U : State} (h : SZ G u) (hvm : u.vm.Alike U.vm) (hS : ∀ a : Nat, a < u.heap.size → ¬ G.2.2.1 a → U.heap[a]? = u.heap[a]?) : SZ G U :=
  ⟨⟨(h.1.1.kept hS).moved hvm, (h.1.2.kept hS).moved hvm⟩, ⟨(h.2.1.kept hS).moved hvm, (h.2.2.kept hS).moved hvm⟩⟩
theorem Kd.to {G : GT} {u U : State} (h : Kd G u) (hW : u.WarmedH U.vm) (hS : ∀ a : Nat, a < u.heap.size → ¬ G.2.2.1 a → U.heap[a]? = u.heap[a]?) : Kd G U := ⟨h.1.moved hW.alike, h.2.1, h.2.2.1.to hW.alike hS, fun x hx => va_Nw.warmM hW (h.2.2.2 x hx)⟩
theorem Kd.calling {G : GT} {U : State} (h : Kd G U) (g : JFrame) (mk : MethodId) (a : Array Value) : Kd G (U.calling g mk a) := ⟨va_K.moved (u := U) (U := U.calling g mk a) (Vm.Alike.refl U.vm) h.1, h.2.1, SZ.to (u := U) (U := U.calling g mk a) h.2.2.1 (Vm.Alike.refl U.vm) (fun _ _ _ => rfl), fun x hx => va_Nw.same (u := U) (U := U.calling g mk a) rfl rfl (h.2.2.2 x hx)⟩
def OkX (G : GT) (q : MKT) (p : Program) (R : Room) (s : State) (m : MethodId) (args : Array Value) (c : Code) : Prop :=
  p.tables.exec = Jvm.exec ∧ c.code = q.2.2.1 ∧ c.maxLocals = q.2.2.2.1 ∧ s.vm.findClass q.1 = some m.cls ∧ (∀ w ∈ tb, w.before args s = true) ∧ Kd G s ∧ (q.2.2.2.2.2 ≤ R.frames ∧ 30 * q.2.2.2.2.2 ≤ R.locals) ∧
  (q.1 = "MixRoundsLaw" → va_X G.2.2.2.2.2.2.1 G.2.2.2.2.2.2.2.1 G.2.2.2.2.2.2.2.2 s s.heap ∧ G.2.2.2.2.2.2.1 < s.heap.size ∧ ¬ G.2.2.1 G.2.2.2.2.2.2.1)
def Rt (q : MKT) (pc : Nat) (r : Option Value) : Prop :=
  (∃ z, r = some (.int z) ∧ decode q.2.2.1 pc = .ok (.ireturn, 1) ∧ (q.2.2.2.2.1 = some .int ∨ (q.2.2.2.2.1 = some .boolean ∧ (z = 0 ∨ z = 1)))) ∨ (∃ z, r = some (.long z) ∧ decode q.2.2.1 pc = .ok (.lreturn, 1) ∧ q.2.2.2.2.1 = some .long) ∨ (r = none ∧ decode q.2.2.1 pc = .ok (.return_, 1) ∧ q.2.2.2.2.1 = none)
/-- the locals by their places -/
def lvL : Nat → List (Option Value) → List (Nat × Value)
  | _, [] => []
  | i, none :: r => lvL (i + 1) r
  | i, some v :: r => (i, v) :: lvL (i + 1) r
def lg : Nat → List (Option Value) → Option Value
  | _, [] => none
  | 0, a :: _ => a
  | i + 1, _ :: r => lg i r
def ls1 (v : Value) : Nat → List (Option Value) → List (Option Value)
  | _, [] => []
  | 0, _ :: r => some v :: r
  | i + 1, a :: r => a :: ls1 v i r
theorem lvL_mem : ∀ (lv : List (Option Value)) (k : Nat) (q : Nat × Value), q ∈ lvL k lv ↔ ∃ i, q.1 = k + i ∧ lg i lv = some q.2 := by
  intro lv
  induction lv with
  | nil => intro k q; simp [lvL, lg]
  | cons a r ih =>
    intro k q
    have key : (∃ i, q.1 = k + i ∧ lg i (a :: r) = some q.2) ↔ ((q.1 = k ∧ a = some q.2) ∨ ∃ i, q.1 = k + 1 + i ∧ lg i r = some q.2) := by
      constructor
      · rintro ⟨i, h1, h2⟩
        cases i with
        | zero => exact Or.inl ⟨h1, h2⟩
        | succ i => exact Or.inr ⟨i, by omega, h2⟩
      · rintro (⟨h1, h2⟩ | ⟨i, h1, h2⟩)
        · exact ⟨0, h1, h2⟩
        · exact ⟨i + 1, by omega, h2⟩
    rw [key, ← ih]
    cases a with
    | none => simp [lvL]
    | some v =>
      simp only [lvL, List.mem_cons]
      constructor
      · rintro (h | h)
        · subst h; exact Or.inl ⟨rfl, rfl⟩
        · exact Or.inr h
      · rintro (⟨h1, h2⟩ | h)
        · left
          obtain ⟨q1, q2⟩ := q
          cases h2; cases h1; rfl
        · exact Or.inr h
def lvH (ls : Array Slot) (n : Nat) (lv : List (Option Value)) : Prop := lv_has ls n (lvL 0 lv)
theorem lvH.at {ls : Array Slot} {n i : Nat} {lv : List (Option Value)} {v : Value} (h : lvH ls n lv) (hl : lg i lv = some v) : ls[i]? = some (.val v) :=
  h.2.2 (i, v) ((lvL_mem lv 0 (i, v)).mpr ⟨i, by simp, hl⟩)
/-- no second half of a long is overwritten: what stands ahead of place i is no long -/
def nl (i : Nat) (lv : List (Option Value)) : Bool := match i with
  | 0 => true
  | j + 1 => match lg j lv with
    | some v => v.category == 1
    | none => true
theorem lg_ls1 (v : Value) : ∀ (lv : List (Option Value)) (i k : Nat), lg k (ls1 v i lv) = if k = i ∧ k < lv.length then some v else lg k lv := by
  intro lv
  induction lv with
  | nil => intro i k; simp [ls1, lg]
  | cons a r ih =>
    intro i k
    cases i with
    | zero =>
      cases k with
      | zero => simp [ls1, lg]
      | succ k => simp [ls1, lg]
    | succ i =>
      cases k with
      | zero => simp [ls1, lg]
      | succ k => simp only [ls1, lg, ih, List.length_cons]; simp
theorem lvH.cut1 {ls' : Array Slot} {n i : Nat} {lv : List (Option Value)} {v : Value} (hn : nl i lv = true) (h : lv_has ls' n ((i, v) :: (lvL 0 lv).filter (fun q => !(q.1 == i) && !(q.1 + 1 == i && q.2.category == 2)))) : lvH ls' n (ls1 v i lv) := by
  refine ⟨h.1, h.2.1, fun q hq => ?_⟩
  obtain ⟨k, hk, hv⟩ := (lvL_mem _ 0 q).mp hq
  rw [Nat.zero_add] at hk
  apply h.2.2
  rw [lg_ls1] at hv
  split at hv
  next hc =>
    obtain ⟨q1, q2⟩ := q
    dsimp only at hk hv
    cases hv
    rw [hk, hc.1]
    exact List.mem_cons_self
  next hc =>
    by_cases hki : k = i
    · exfalso
      subst hki
      have : ¬ k < lv.length := fun hl => hc ⟨rfl, hl⟩
      have hz : ∀ (lv : List (Option Value)) (k : Nat), ¬ k < lv.length → lg k lv = none := by
        intro lv
        induction lv with
        | nil => intro k _; cases k <;> rfl
        | cons a r ih =>
          intro k hk
          cases k with
          | zero => simp at hk
          | succ k => exact ih k (by simpa using hk)
      rw [hz lv k this] at hv
      cases hv
    · refine List.mem_cons_of_mem _ (List.mem_filter.mpr ⟨(lvL_mem lv 0 q).mpr ⟨k, by omega, hv⟩, ?_⟩)
      simp only [Bool.and_eq_true, Bool.not_eq_true', beq_eq_false_iff_ne, Bool.and_eq_false_iff]
      refine ⟨by omega, ?_⟩
      by_cases h1 : q.1 + 1 = i
      · right
        have h2 : i = k + 1 := by omega
        rw [h2] at hn
        unfold nl at hn
        dsimp only at hn
        rw [hv] at hn
        dsimp only at hn
        have := (beq_iff_eq).mp hn
        rw [this]
        decide
      · left
        exact h1

def Go (G : GT) (q : MKT) (pc : Nat) (lv : List (Option Value)) (st : List Value) (S : St) (Post : Option Value → St → Prop) : Prop :=
  ∀ (p : Program) (e : Env) (R : Room) (s : State) (m : MethodId) (args : Array Value) (below : List Frame) (meth : Method) (c : Code) (cells slots : Nat) (Q : State → Prop) (H : Heap) (locs : List Loc) (ls : Array Slot),
    OkX G q p R s m args c → cells ≤ R.cells → slots ≤ R.slots →
    (∀ (r : Option Value) (S' : St) (H' : Heap) (locs' : List Loc) (pc' : Nat) (ls' : Array Slot), Post r S' → Rt q pc' r → Hd G S' H' → va_S G.2.2.1 s.heap H' locs' → W p G.1 e R s m args below meth c H' locs' cells slots Q (F0 m pc' ls' r.toList)) →
    lvH ls q.2.2.2.1 lv → Hd G S H → va_S G.2.2.1 s.heap H locs → W p G.1 e R s m args below meth c H locs cells slots Q (F0 m pc ls st)
def rmG (n : Nat) : Room := { frames := n, cells := 0, slots := 0, locals := 30 * n }
def wsG (q : MKT) : List Cond := .code q.2.1 q.2.2.1 q.2.2.2.1 q.2.2.2.2.1 :: tb
def QcG (G : GT) (Post : Option Value → St → Prop) : Array Value → State → Outcome → State → Prop := fun _ s oc t => (∃ (r : Option Value) (S' : St), oc = .returned r ∧ Post r S' ∧ Hd G S' t.heap) ∧ va_F G.2.2.1 s t
def PcG (G : GT) (av : List Value) (S : St) : Array Value → State → Prop := va_Pc av (fun U => Hd G S U.heap ∧ Kd G U)
/-- a method's contract: from S it returns, with Post -/
def Fn (G : GT) (q : MKT) (av : List Value) (S : St) (Post : Option Value → St → Prop) : Prop := Met G.1 q.2.1 (wsG q) (rmG q.2.2.2.2.2) (PcG G av S) (QcG G Post) 0 0 G.2.2.1
def lvE : List Value → List (Option Value)
  | [] => []
  | v :: r => if v.category = 2 then some v :: none :: lvE r else some v :: lvE r
theorem lvE_mem : ∀ (av : List Value) (k : Nat) (n : Nat) (q : Nat × Value), q ∈ lvL k (lvE av ++ List.replicate n none) → q ∈ lv_args k av := by
  intro av
  induction av with
  | nil =>
    intro k n q h
    exfalso
    have hz : ∀ (n k : Nat), lvL k (List.replicate n none) = [] := by
      intro n
      induction n with
      | zero => intro k; rfl
      | succ n ih => intro k; simp only [List.replicate_succ, lvL]; exact ih (k + 1)
    simp only [lvE, List.nil_append, hz] at h
    cases h
  | cons v r ih =>
    intro k n q h
    unfold lvE at h
    unfold lv_args
    by_cases hc : v.category = 2
    · rw [if_pos hc] at h ⊢
      simp only [List.cons_append, lvL, List.mem_cons] at h ⊢
      rcases h with h | h
      · exact Or.inl h
      · exact Or.inr (ih _ _ _ h)
    · rw [if_neg hc] at h ⊢
      simp only [List.cons_append, lvL, List.mem_cons] at h ⊢
      rcases h with h | h
      · exact Or.inl h
      · exact Or.inr (ih _ _ _ h)
set_option maxHeartbeats 4000000 in
theorem Fn.of {G : GT} {q : MKT} {av : List Value} {S : St} {Post : Option Value → St → Prop} (lv : List (Option Value)) (n : Nat) (hlv : lvE av ++ List.replicate n none = lv) (hy : plainName q.2.1.cls = true) (hown : q.1 = q.2.1.cls) (hlen : (lg_sl av).length ≤ q.2.2.2.1) (hnl : q.1 ≠ "MixRoundsLaw")
    (h : Go G q 0 lv [] S Post) : Fn G q av S Post := by
  refine Met.ofW (cc := q.2.2.1) (maxL := q.2.2.2.1) (ret := q.2.2.2.2.1) hy rfl ?_
  intro p e s m args below meth c s₁ B hml hv
  obtain ⟨rfl, hP, hK⟩ := hv
  have hts : ∀ w ∈ tb, w.before av.toArray s = true := fun w hw => atoms_spec (ws := wsG q) B.pre w (List.mem_cons_of_mem _ hw)
  have hr : meth.sig.returnType = q.2.2.2.2.1 := B.returns
  have hlocks := B.notSynchronized
  have hl := lv_entry av (n := q.2.2.2.1) hlen
  rw [lg_entry_eq]
  generalize (lg_sl av ++ List.replicate (q.2.2.2.1 - (lg_sl av).length) Slot.unset).toArray = ls at hl ⊢
  have hl2 : lvH ls q.2.2.2.1 lv := by
    refine ⟨hl.1, hl.2.1, fun z hz => ?_⟩
    rw [← hlv] at hz
    exact hl.2.2 z (lvE_mem av 0 n z hz)
  refine h p e (rmG q.2.2.2.2.2) s m av.toArray below meth c 0 0 _ s.heap [] ls ⟨B.exec, B.bytes, hml, by rw [hown]; exact findClass_of_methodNamed B.named, hts, hK, ⟨Nat.le_refl _, Nat.le_refl _⟩, fun hq => absurd hq hnl⟩ (Nat.le_refl 0) (Nat.le_refl 0) ?_ hl2 hP va_S.rf
  intro r S' H' locs' pc' ls' hpost hrt hP' hS'
  rcases hrt with ⟨z, rfl, hd, ht⟩ | ⟨z, rfl, hd, ht⟩ | ⟨rfl, hd, ht⟩
  · rcases ht with ht | ⟨ht, hz⟩
    · exact W.iret B.exec B.bytes (hr.trans ht) (fun t ht2 _ => ⟨⟨_, S', rfl, hpost, by rw [ht2]; exact hP'⟩, hS'.F ht2⟩) (fun x hx => hS'.2.2 x hx) hd
    · exact W.zret B.exec B.bytes (hr.trans ht) (by rcases hz with rfl | rfl <;> rfl) (fun t ht2 _ => ⟨⟨_, S', rfl, hpost, by rw [ht2]; exact hP'⟩, hS'.F ht2⟩) (fun x hx => hS'.2.2 x hx) hd
  · exact W.lret B.exec B.bytes (hr.trans ht) (fun t ht2 _ => ⟨⟨_, S', rfl, hpost, by rw [ht2]; exact hP'⟩, hS'.F ht2⟩) (fun x hx => hS'.2.2 x hx) hd
  · exact W.vret B.exec B.bytes (hr.trans ht) (fun t ht2 _ => ⟨⟨_, S', rfl, hpost, by rw [ht2]; exact hP'⟩, hS'.F ht2⟩) (fun x hx => hS'.2.2 x hx) hd
end
section
/-! ===== a rule an instruction ===== -/
section Rules
variable {G : GT} {q : MKT} {pc n t : Nat} {lv : List (Option Value)} {st : List Value} {S : St} {Post : Option Value → St → Prop}
def Dk (q : MKT) (pc : Nat) (i : Instr) (len n : Nat) : Prop := decode q.2.2.1 pc = .ok (i, len) ∧ pc + len = n
def DlI (q : MKT) (pc i n : Nat) : Prop := (∃ k : Fin 4, decode q.2.2.1 pc = .ok (.iload_n k, 1) ∧ (k : Nat) = i ∧ pc + 1 = n) ∨ (decode q.2.2.1 pc = .ok (.iload i, 2) ∧ pc + 2 = n)
def DlL (q : MKT) (pc i n : Nat) : Prop := (∃ k : Fin 4, decode q.2.2.1 pc = .ok (.lload_n k, 1) ∧ (k : Nat) = i ∧ pc + 1 = n) ∨ (decode q.2.2.1 pc = .ok (.lload i, 2) ∧ pc + 2 = n)
def DlA (q : MKT) (pc i n : Nat) : Prop := (∃ k : Fin 4, decode q.2.2.1 pc = .ok (.aload_n k, 1) ∧ (k : Nat) = i ∧ pc + 1 = n) ∨ (decode q.2.2.1 pc = .ok (.aload i, 2) ∧ pc + 2 = n)
def DsI (q : MKT) (pc i n : Nat) : Prop := ((∃ k : Fin 4, decode q.2.2.1 pc = .ok (.istore_n k, 1) ∧ (k : Nat) = i ∧ pc + 1 = n) ∨ (decode q.2.2.1 pc = .ok (.istore i, 2) ∧ pc + 2 = n)) ∧ i < q.2.2.2.1
def DsL (q : MKT) (pc i n : Nat) : Prop := ((∃ k : Fin 4, decode q.2.2.1 pc = .ok (.lstore_n k, 1) ∧ (k : Nat) = i ∧ pc + 1 = n) ∨ (decode q.2.2.1 pc = .ok (.lstore i, 2) ∧ pc + 2 = n)) ∧ i + 1 < q.2.2.2.1
def DsA (q : MKT) (pc i n : Nat) : Prop := ((∃ k : Fin 4, decode q.2.2.1 pc = .ok (.astore_n k, 1) ∧ (k : Nat) = i ∧ pc + 1 = n) ∨ (decode q.2.2.1 pc = .ok (.astore i, 2) ∧ pc + 2 = n)) ∧ i < q.2.2.2.1
def Dc (q : MKT) (pc : Nat) (z : Int) (n : Nat) : Prop := (decode q.2.2.1 pc = .ok (.iconst z, 1) ∧ pc + 1 = n) ∨ (decode q.2.2.1 pc = .ok (.bipush z, 2) ∧ (Int8.ofInt z).toInt32 = iI z ∧ pc + 2 = n) ∨ (decode q.2.2.1 pc = .ok (.sipush z, 3) ∧ (Int16.ofInt z).toInt32 = iI z ∧ pc + 3 = n) ∨ (∃ idx : Nat, decode q.2.2.1 pc = .ok (.ldc idx, 2) ∧ Cond.constant q.1 idx (iI z) ∈ tb ∧ pc + 2 = n)
def DcL (q : MKT) (pc : Nat) (z : Int) (n : Nat) : Prop := (∃ f : Fin 2, decode q.2.2.1 pc = .ok (.lconst f, 1) ∧ Int64.ofNat (f : Nat) = lI z ∧ pc + 1 = n) ∨ (∃ idx : Nat, decode q.2.2.1 pc = .ok (.ldc2_w idx, 3) ∧ Cond.constantLong q.1 idx (lI z) ∈ tb ∧ pc + 3 = n)
def Db (q : MKT) (pc : Nat) (f : Int → Instr) (n t : Nat) : Prop := ∃ off : Int, decode q.2.2.1 pc = .ok (f off, 3) ∧ pc + 3 = n ∧ (pc : Int) + off = (t : Int)

theorem Go_iload {i : Nat} {a : Int} (d : DlI q pc i n) (h : lg i lv = some (vI a)) (k : Go G q n lv (vI a :: st) S Post) : Go G q pc lv st S Post := by
  intro p e R s m args below meth c cells slots Q H locs ls X hc hs K hl hP hS
  rcases d with ⟨f, d, hi, rfl⟩ | ⟨d, rfl⟩
  · exact lv_iload_n X.1 X.2.1 d hi (hl.at h) (k p e R s m args below meth c cells slots Q H locs ls X hc hs K hl hP hS)
  · exact lv_iload X.1 X.2.1 d (hl.at h) (k p e R s m args below meth c cells slots Q H locs ls X hc hs K hl hP hS)
theorem Go_lload {i : Nat} {a : Int} (d : DlL q pc i n) (h : lg i lv = some (vL a)) (k : Go G q n lv (vL a :: st) S Post) : Go G q pc lv st S Post := by
  intro p e R s m args below meth c cells slots Q H locs ls X hc hs K hl hP hS
  rcases d with ⟨f, d, hi, rfl⟩ | ⟨d, rfl⟩
  · exact lv_lload_n X.1 X.2.1 d hi (hl.at h) (k p e R s m args below meth c cells slots Q H locs ls X hc hs K hl hP hS)
  · exact lv_lload X.1 X.2.1 d (hl.at h) (k p e R s m args below meth c cells slots Q H locs ls X hc hs K hl hP hS)
theorem Go_aload {i : Nat} {v : Value} (d : DlA q pc i n) (h : lg i lv = some v) (hv : ∃ x, v = .ref x) (k : Go G q n lv (v :: st) S Post) : Go G q pc lv st S Post := by
  intro p e R s m args below meth c cells slots Q H locs ls X hc hs K hl hP hS
  obtain ⟨x, rfl⟩ := hv
  rcases d with ⟨f, d, hi, rfl⟩ | ⟨d, rfl⟩
  · exact lv_aload_n X.1 X.2.1 d hi (hl.at h) (k p e R s m args below meth c cells slots Q H locs ls X hc hs K hl hP hS)
  · exact lv_aload X.1 X.2.1 d (hl.at h) (k p e R s m args below meth c cells slots Q H locs ls X hc hs K hl hP hS)
theorem Go_istore {i : Nat} {a : Int} {lv1 : List (Option Value)} (d : DsI q pc i n) (hn : nl i lv = true) (h : ls1 (vI a) i lv = lv1) (k : Go G q n lv1 st S Post) : Go G q pc lv (vI a :: st) S Post := by
  intro p e R s m args below meth c cells slots Q H locs ls X hc hs K hl hP hS
  subst h
  obtain ⟨d, hi2⟩ := d
  rcases d with ⟨f, d, hi, rfl⟩ | ⟨d, rfl⟩
  · exact lv_istore_n X.1 X.2.1 d hi hl hi2 rfl (fun ls hl2 => k p e R s m args below meth c cells slots Q H locs ls X hc hs K (lvH.cut1 hn hl2) hP hS)
  · exact lv_istore X.1 X.2.1 d hl hi2 rfl (fun ls hl2 => k p e R s m args below meth c cells slots Q H locs ls X hc hs K (lvH.cut1 hn hl2) hP hS)
theorem Go_astore {i : Nat} {v : Value} {lv1 : List (Option Value)} (d : DsA q pc i n) (hv : ∃ x, v = .ref x) (hn : nl i lv = true) (h : ls1 v i lv = lv1) (k : Go G q n lv1 st S Post) : Go G q pc lv (v :: st) S Post := by
  intro p e R s m args below meth c cells slots Q H locs ls X hc hs K hl hP hS
  subst h
  obtain ⟨x, rfl⟩ := hv
  obtain ⟨d, hi2⟩ := d
  rcases d with ⟨f, d, hi, rfl⟩ | ⟨d, rfl⟩
  · exact lv_astore_n X.1 X.2.1 d hi hl hi2 rfl (fun ls hl2 => k p e R s m args below meth c cells slots Q H locs ls X hc hs K (lvH.cut1 hn hl2) hP hS)
  · exact lv_astore X.1 X.2.1 d hl hi2 rfl (fun ls hl2 => k p e R s m args below meth c cells slots Q H locs ls X hc hs K (lvH.cut1 hn hl2) hP hS)
def ls2 (v : Value) : Nat → List (Option Value) → List (Option Value)
  | _, [] => []
  | 0, [_] => [some v]
  | 0, _ :: _ :: r => some v :: none :: r
  | i + 1, a :: r => a :: ls2 v i r
theorem lg_ls2 (v : Value) : ∀ (lv : List (Option Value)) (i k : Nat) (x : Value), lg k (ls2 v i lv) = some x → (k = i ∧ x = v) ∨ (k ≠ i ∧ k ≠ i + 1 ∧ lg k lv = some x) := by
  intro lv
  induction lv with
  | nil => intro i k x h; simp [ls2, lg] at h
  | cons a r ih =>
    intro i k x h
    cases i with
    | zero =>
      cases r with
      | nil =>
        cases k with
        | zero => simp [ls2, lg] at h; exact Or.inl ⟨rfl, h.symm⟩
        | succ k => simp [ls2, lg] at h
      | cons b r =>
        match k with
        | 0 => simp [ls2, lg] at h; exact Or.inl ⟨rfl, h.symm⟩
        | 1 => simp [ls2, lg] at h
        | k + 2 => simp [ls2, lg] at h; exact Or.inr ⟨by omega, by omega, by simpa [lg] using h⟩
    | succ i =>
      cases k with
      | zero => simp [ls2, lg] at h; exact Or.inr ⟨by omega, by omega, by simpa [lg] using h⟩
      | succ k =>
        simp only [ls2, lg] at h
        rcases ih i k x h with h | h
        · exact Or.inl ⟨by omega, h.2⟩
        · exact Or.inr ⟨by omega, by omega, h.2.2⟩
theorem lvH.cut2 {ls' : Array Slot} {n i : Nat} {lv : List (Option Value)} {v : Value} (hn : nl i lv = true) (h : lv_has ls' n ((i, v) :: (lvL 0 lv).filter (fun q => !(q.1 == i) && (!(q.1 == i + 1) && !(q.1 + 1 == i && q.2.category == 2))))) : lvH ls' n (ls2 v i lv) := by
  refine ⟨h.1, h.2.1, fun q hq => ?_⟩
  obtain ⟨k, hk, hv⟩ := (lvL_mem _ 0 q).mp hq
  rw [Nat.zero_add] at hk
  apply h.2.2
  rcases lg_ls2 _ _ _ _ _ hv with ⟨h1, h2⟩ | ⟨h1, h2, h3⟩
  · obtain ⟨q1, q2⟩ := q
    dsimp only at hk h2
    rw [hk, h1, h2]
    exact List.mem_cons_self
  · refine List.mem_cons_of_mem _ (List.mem_filter.mpr ⟨(lvL_mem lv 0 q).mpr ⟨k, by omega, h3⟩, ?_⟩)
    simp only [Bool.and_eq_true, Bool.not_eq_true', beq_eq_false_iff_ne, Bool.and_eq_false_iff]
    refine ⟨by omega, by omega, ?_⟩
    by_cases h5 : q.1 + 1 = i
    · right
      have h6 : i = k + 1 := by omega
      rw [h6] at hn
      unfold nl at hn
      dsimp only at hn
      rw [h3] at hn
      dsimp only at hn
      have := (beq_iff_eq).mp hn
      rw [this]
      decide
    · left
      exact h5
theorem Go_lstore {i : Nat} {a : Int} {lv1 : List (Option Value)} (d : DsL q pc i n) (hn : nl i lv = true) (h : ls2 (vL a) i lv = lv1) (k : Go G q n lv1 st S Post) : Go G q pc lv (vL a :: st) S Post := by
  intro p e R s m args below meth c cells slots Q H locs ls X hc hs K hl hP hS
  subst h
  obtain ⟨d, hi2⟩ := d
  rcases d with ⟨f, d, hi, rfl⟩ | ⟨d, rfl⟩
  · exact lv_lstore_n X.1 X.2.1 d hi hl hi2 rfl (fun ls hl2 => k p e R s m args below meth c cells slots Q H locs ls X hc hs K (lvH.cut2 hn hl2) hP hS)
  · exact lv_lstore X.1 X.2.1 d hl hi2 rfl (fun ls hl2 => k p e R s m args below meth c cells slots Q H locs ls X hc hs K (lvH.cut2 hn hl2) hP hS)
theorem Go_iinc {i : Nat} {a z : Int} {lv1 : List (Option Value)} (d : Dk q pc (.iinc i z) 3 n) (hm : i < q.2.2.2.1) (hg : lg i lv = some (vI a)) (hn : nl i lv = true) (h : ls1 (vI (a + z)) i lv = lv1) (k : Go G q n lv1 st S Post) : Go G q pc lv st S Post := by
  intro p e R s m args below meth c cells slots Q H locs ls X hc hs K hl hP hS
  subst h
  obtain ⟨d, rfl⟩ := d
  obtain ⟨j, hj⟩ := List.getElem?_of_mem ((lvL_mem lv 0 (i, vI a)).mpr ⟨i, by simp, hg⟩)
  exact lv_iinc X.1 X.2.1 d hl hj (iI_add a z) hm rfl (fun ls hl2 => k p e R s m args below meth c cells slots Q H locs ls X hc hs K (lvH.cut1 hn hl2) hP hS)
theorem Go_const {z : Int} (d : Dc q pc z n) (k : Go G q n lv (vI z :: st) S Post) : Go G q pc lv st S Post := by
  intro p e R s m args below meth c cells slots Q H locs ls X hc hs K hl hP hS
  rcases d with ⟨d, rfl⟩ | ⟨d, h, rfl⟩ | ⟨d, h, rfl⟩ | ⟨idx, d, h, rfl⟩
  · exact lv_iconst X.1 X.2.1 d rfl (k p e R s m args below meth c cells slots Q H locs ls X hc hs K hl hP hS)
  · exact lv_bipush X.1 X.2.1 d h (k p e R s m args below meth c cells slots Q H locs ls X hc hs K hl hP hS)
  · exact lv_sipush X.1 X.2.1 d h (k p e R s m args below meth c cells slots Q H locs ls X hc hs K hl hP hS)
  · exact lv_ldc X.1 X.2.1 X.2.2.2.1 (X.2.2.2.2.1 _ h) d (k p e R s m args below meth c cells slots Q H locs ls X hc hs K hl hP hS)
theorem Go_lconst {z : Int} (d : DcL q pc z n) (k : Go G q n lv (vL z :: st) S Post) : Go G q pc lv st S Post := by
  intro p e R s m args below meth c cells slots Q H locs ls X hc hs K hl hP hS
  rcases d with ⟨f, d, h, rfl⟩ | ⟨idx, d, h, rfl⟩
  · exact lv_lconst X.1 X.2.1 d h (k p e R s m args below meth c cells slots Q H locs ls X hc hs K hl hP hS)
  · exact lv_ldc2 X.1 X.2.1 X.2.2.2.1 (X.2.2.2.2.1 _ h) d (k p e R s m args below meth c cells slots Q H locs ls X hc hs K hl hP hS)
theorem Go_iadd {a b : Int} (d : Dk q pc .iadd 1 n)  (k : Go G q n lv (vI (a + b) :: st) S Post) : Go G q pc lv (vI b :: vI a :: st) S Post := by
  intro p e R s m args below meth c cells slots Q H locs ls X hc hs K hl hP hS
  obtain ⟨d, rfl⟩ := d
  refine lv_iadd X.1 X.2.1 d ?_
  rw [iI_add]
  exact k p e R s m args below meth c cells slots Q H locs ls X hc hs K hl hP hS
theorem Go_isub {a b : Int} (d : Dk q pc .isub 1 n)  (k : Go G q n lv (vI (a - b) :: st) S Post) : Go G q pc lv (vI b :: vI a :: st) S Post := by
  intro p e R s m args below meth c cells slots Q H locs ls X hc hs K hl hP hS
  obtain ⟨d, rfl⟩ := d
  refine lv_isub X.1 X.2.1 d ?_
  rw [iI_sub]
  exact k p e R s m args below meth c cells slots Q H locs ls X hc hs K hl hP hS
theorem Go_imul {a b : Int} (d : Dk q pc .imul 1 n)  (k : Go G q n lv (vI (a * b) :: st) S Post) : Go G q pc lv (vI b :: vI a :: st) S Post := by
  intro p e R s m args below meth c cells slots Q H locs ls X hc hs K hl hP hS
  obtain ⟨d, rfl⟩ := d
  refine lv_imul X.1 X.2.1 d ?_
  rw [iI_mul]
  exact k p e R s m args below meth c cells slots Q H locs ls X hc hs K hl hP hS
theorem Go_ladd {a b : Int} (d : Dk q pc .ladd 1 n)  (k : Go G q n lv (vL (a + b) :: st) S Post) : Go G q pc lv (vL b :: vL a :: st) S Post := by
  intro p e R s m args below meth c cells slots Q H locs ls X hc hs K hl hP hS
  obtain ⟨d, rfl⟩ := d
  refine lv_ladd X.1 X.2.1 d ?_
  rw [lI_add]
  exact k p e R s m args below meth c cells slots Q H locs ls X hc hs K hl hP hS
theorem Go_lsub {a b : Int} (d : Dk q pc .lsub 1 n)  (k : Go G q n lv (vL (a - b) :: st) S Post) : Go G q pc lv (vL b :: vL a :: st) S Post := by
  intro p e R s m args below meth c cells slots Q H locs ls X hc hs K hl hP hS
  obtain ⟨d, rfl⟩ := d
  refine lv_lsub X.1 X.2.1 d ?_
  rw [lI_sub]
  exact k p e R s m args below meth c cells slots Q H locs ls X hc hs K hl hP hS
theorem Go_lmul {a b : Int} (d : Dk q pc .lmul 1 n)  (k : Go G q n lv (vL (a * b) :: st) S Post) : Go G q pc lv (vL b :: vL a :: st) S Post := by
  intro p e R s m args below meth c cells slots Q H locs ls X hc hs K hl hP hS
  obtain ⟨d, rfl⟩ := d
  refine lv_lmul X.1 X.2.1 d ?_
  rw [lI_mul]
  exact k p e R s m args below meth c cells slots Q H locs ls X hc hs K hl hP hS
theorem Go_idiv {a b : Int} (d : Dk q pc .idiv 1 n) (ha : 0 ≤ a ∧ a < 2147483648) (hb : 0 < b ∧ b < 2147483648) (k : Go G q n lv (vI (a / b) :: st) S Post) : Go G q pc lv (vI b :: vI a :: st) S Post := by
  intro p e R s m args below meth c cells slots Q H locs ls X hc hs K hl hP hS
  obtain ⟨d, rfl⟩ := d
  refine lv_idiv X.1 X.2.1 d (fun h => by have := (iI_eq (a := b) (b := 0) (by omega) (by omega)).mp h; omega) ?_
  rw [iI_div ha hb]
  exact k p e R s m args below meth c cells slots Q H locs ls X hc hs K hl hP hS
theorem Go_irem {a b : Int} (d : Dk q pc .irem 1 n) (ha : 0 ≤ a ∧ a < 2147483648) (hb : 0 < b ∧ b < 2147483648) (k : Go G q n lv (vI (a % b) :: st) S Post) : Go G q pc lv (vI b :: vI a :: st) S Post := by
  intro p e R s m args below meth c cells slots Q H locs ls X hc hs K hl hP hS
  obtain ⟨d, rfl⟩ := d
  refine lv_irem X.1 X.2.1 d (fun h => by have := (iI_eq (a := b) (b := 0) (by omega) (by omega)).mp h; omega) ?_
  rw [iI_rem ha hb]
  exact k p e R s m args below meth c cells slots Q H locs ls X hc hs K hl hP hS
theorem Go_ldiv {a b : Int} (d : Dk q pc .ldiv 1 n) (ha : 0 ≤ a ∧ a < 9223372036854775808) (hb : 0 < b ∧ b < 9223372036854775808) (k : Go G q n lv (vL (a / b) :: st) S Post) : Go G q pc lv (vL b :: vL a :: st) S Post := by
  intro p e R s m args below meth c cells slots Q H locs ls X hc hs K hl hP hS
  obtain ⟨d, rfl⟩ := d
  refine lv_ldiv X.1 X.2.1 d (fun h => by have := (lI_eq (a := b) (b := 0) (by omega) (by omega)).mp h; omega) ?_
  rw [lI_div ha hb]
  exact k p e R s m args below meth c cells slots Q H locs ls X hc hs K hl hP hS
theorem Go_lrem {a b : Int} (d : Dk q pc .lrem 1 n) (ha : 0 ≤ a ∧ a < 9223372036854775808) (hb : 0 < b ∧ b < 9223372036854775808) (k : Go G q n lv (vL (a % b) :: st) S Post) : Go G q pc lv (vL b :: vL a :: st) S Post := by
  intro p e R s m args below meth c cells slots Q H locs ls X hc hs K hl hP hS
  obtain ⟨d, rfl⟩ := d
  refine lv_lrem X.1 X.2.1 d (fun h => by have := (lI_eq (a := b) (b := 0) (by omega) (by omega)).mp h; omega) ?_
  rw [lI_rem ha hb]
  exact k p e R s m args below meth c cells slots Q H locs ls X hc hs K hl hP hS
theorem Go_and31 {a : Int} (d : Dk q pc .iand 1 n)  (k : Go G q n lv (vI (a % 32) :: st) S Post) : Go G q pc lv (vI 31 :: vI a :: st) S Post := by
  intro p e R s m args below meth c cells slots Q H locs ls X hc hs K hl hP hS
  obtain ⟨d, rfl⟩ := d
  refine lv_iand X.1 X.2.1 d ?_
  rw [show iI a &&& iI 31 = iI (a % 32) from iI_and a 5 rfl (by decide)]
  exact k p e R s m args below meth c cells slots Q H locs ls X hc hs K hl hP hS
theorem Go_andM {a : Int} (d : Dk q pc .iand 1 n)  (k : Go G q n lv (vI (a % 2147483648) :: st) S Post) : Go G q pc lv (vI 2147483647 :: vI a :: st) S Post := by
  intro p e R s m args below meth c cells slots Q H locs ls X hc hs K hl hP hS
  obtain ⟨d, rfl⟩ := d
  refine lv_iand X.1 X.2.1 d ?_
  rw [show iI a &&& iI 2147483647 = iI (a % 2147483648) from iI_and a 31 rfl (by decide)]
  exact k p e R s m args below meth c cells slots Q H locs ls X hc hs K hl hP hS
theorem Go_shr16 {a : Int} (d : Dk q pc .ishr 1 n) (ha : 0 ≤ a ∧ a < 2147483648) (k : Go G q n lv (vI (a / 65536) :: st) S Post) : Go G q pc lv (vI 16 :: vI a :: st) S Post := by
  intro p e R s m args below meth c cells slots Q H locs ls X hc hs K hl hP hS
  obtain ⟨d, rfl⟩ := d
  refine lv_ishr X.1 X.2.1 d ?_
  rw [iI_shr16 ha]
  exact k p e R s m args below meth c cells slots Q H locs ls X hc hs K hl hP hS
theorem Go_shl1 {b : Nat} (d : Dk q pc .ishl 1 n) (hb : b < 4) (k : Go G q n lv (vI ((2 ^ b : Nat) : Int) :: st) S Post) : Go G q pc lv (vI (b : Int) :: vI 1 :: st) S Post := by
  intro p e R s m args below meth c cells slots Q H locs ls X hc hs K hl hP hS
  obtain ⟨d, rfl⟩ := d
  refine lv_ishl X.1 X.2.1 d ?_
  rw [iI_shl1 b hb]
  exact k p e R s m args below meth c cells slots Q H locs ls X hc hs K hl hP hS
theorem Go_ior {a b : Int} (d : Dk q pc .ior 1 n) (ha : 0 ≤ a ∧ a < 2147483648) (hb : 0 ≤ b ∧ b < 2147483648) (k : Go G q n lv (vI (orI a b) :: st) S Post) : Go G q pc lv (vI b :: vI a :: st) S Post := by
  intro p e R s m args below meth c cells slots Q H locs ls X hc hs K hl hP hS
  obtain ⟨d, rfl⟩ := d
  refine lv_ior X.1 X.2.1 d ?_
  rw [iI_or ha hb]
  exact k p e R s m args below meth c cells slots Q H locs ls X hc hs K hl hP hS
theorem Go_i2l {a : Int} (d : Dk q pc .i2l 1 n) (ha : -2147483648 ≤ a ∧ a < 2147483648) (k : Go G q n lv (vL a :: st) S Post) : Go G q pc lv (vI a :: st) S Post := by
  intro p e R s m args below meth c cells slots Q H locs ls X hc hs K hl hP hS
  obtain ⟨d, rfl⟩ := d
  refine lv_i2l X.1 X.2.1 d (iI_l ha) ?_
  skip
  exact k p e R s m args below meth c cells slots Q H locs ls X hc hs K hl hP hS
theorem Go_l2i {a : Int} (d : Dk q pc .l2i 1 n)  (k : Go G q n lv (vI a :: st) S Post) : Go G q pc lv (vL a :: st) S Post := by
  intro p e R s m args below meth c cells slots Q H locs ls X hc hs K hl hP hS
  obtain ⟨d, rfl⟩ := d
  refine lv_l2i X.1 X.2.1 d (lI_i a) ?_
  skip
  exact k p e R s m args below meth c cells slots Q H locs ls X hc hs K hl hP hS
theorem Go_i2b {a : Int} (d : Dk q pc .i2b 1 n)  (k : Go G q n lv (vI (w8 a) :: st) S Post) : Go G q pc lv (vI a :: st) S Post := by
  intro p e R s m args below meth c cells slots Q H locs ls X hc hs K hl hP hS
  obtain ⟨d, rfl⟩ := d
  refine lv_i2b X.1 X.2.1 d (iI_b a) ?_
  skip
  exact k p e R s m args below meth c cells slots Q H locs ls X hc hs K hl hP hS
theorem Go_i2s {a : Int} (d : Dk q pc .i2s 1 n)  (k : Go G q n lv (vI (w16 a) :: st) S Post) : Go G q pc lv (vI a :: st) S Post := by
  intro p e R s m args below meth c cells slots Q H locs ls X hc hs K hl hP hS
  obtain ⟨d, rfl⟩ := d
  refine lv_i2s X.1 X.2.1 d (iI_s a) ?_
  skip
  exact k p e R s m args below meth c cells slots Q H locs ls X hc hs K hl hP hS
theorem Go_lcmp {a b : Int} (d : Dk q pc .lcmp 1 n) (ha : -9223372036854775808 ≤ a ∧ a < 9223372036854775808) (hb : -9223372036854775808 ≤ b ∧ b < 9223372036854775808) (k : Go G q n lv (vI (cmpI a b) :: st) S Post) : Go G q pc lv (vL b :: vL a :: st) S Post := by
  intro p e R s m args below meth c cells slots Q H locs ls X hc hs K hl hP hS
  obtain ⟨d, rfl⟩ := d
  refine W.lcmp X.1 X.2.1 d ?_
  rw [lI_cmp ha hb]
  exact k p e R s m args below meth c cells slots Q H locs ls X hc hs K hl hP hS
theorem Go_dup {v : Value} (d : Dk q pc .dup 1 n) (hv : v.category = 1) (k : Go G q n lv (v :: v :: st) S Post) : Go G q pc lv (v :: st) S Post := by
  intro p e R s m args below meth c cells slots Q H locs ls X hc hs K hl hP hS
  obtain ⟨d, rfl⟩ := d
  refine lv_dup X.1 X.2.1 d hv ?_
  skip
  exact k p e R s m args below meth c cells slots Q H locs ls X hc hs K hl hP hS
theorem Go_dup2 {u v : Value} (d : Dk q pc .dup2 1 n) (hu : u.category = 1) (hv : v.category = 1) (k : Go G q n lv (u :: v :: u :: v :: st) S Post) : Go G q pc lv (u :: v :: st) S Post := by
  intro p e R s m args below meth c cells slots Q H locs ls X hc hs K hl hP hS
  obtain ⟨d, rfl⟩ := d
  refine lv_dup2_11 X.1 X.2.1 d hu hv ?_
  skip
  exact k p e R s m args below meth c cells slots Q H locs ls X hc hs K hl hP hS
theorem Go_pop {v : Value} (d : Dk q pc .pop 1 n) (hv : v.category = 1) (k : Go G q n lv st S Post) : Go G q pc lv (v :: st) S Post := by
  intro p e R s m args below meth c cells slots Q H locs ls X hc hs K hl hP hS
  obtain ⟨d, rfl⟩ := d
  exact lv_pop X.1 X.2.1 d hv (k p e R s m args below meth c cells slots Q H locs ls X hc hs K hl hP hS)
theorem Go_goto (d : Db q pc .goto n t) (k : Go G q t lv st S Post) : Go G q pc lv st S Post := by
  intro p e R s m args below meth c cells slots Q H locs ls X hc hs K hl hP hS
  obtain ⟨off, d, -, ht⟩ := d
  exact lv_goto X.1 X.2.1 d ht (k p e R s m args below meth c cells slots Q H locs ls X hc hs K hl hP hS)
theorem Go_icmp_eq {a b : Int} (d : Db q pc (.if_icmp .eq) n t) (ha : -2147483648 ≤ a ∧ a < 2147483648) (hb : -2147483648 ≤ b ∧ b < 2147483648) (kt : a = b → Go G q t lv st S Post) (kf : a ≠ b → Go G q n lv st S Post) : Go G q pc lv (vI b :: vI a :: st) S Post := by
  intro p e R s m args below meth c cells slots Q H locs ls X hc hs K hl hP hS
  obtain ⟨off, d, rfl, ht⟩ := d
  exact lv_icmp_eq X.1 X.2.1 d ht (fun h => kt ((iI_eq ha hb).mp h) p e R s m args below meth c cells slots Q H locs ls X hc hs K hl hP hS) (fun h => kf (fun e => h ((iI_eq ha hb).mpr e)) p e R s m args below meth c cells slots Q H locs ls X hc hs K hl hP hS)
theorem Go_if_eq {a : Int} (d : Db q pc (.ifCond .eq) n t) (ha : -2147483648 ≤ a ∧ a < 2147483648) (kt : a = 0 → Go G q t lv st S Post) (kf : a ≠ 0 → Go G q n lv st S Post) : Go G q pc lv (vI a :: st) S Post := by
  intro p e R s m args below meth c cells slots Q H locs ls X hc hs K hl hP hS
  obtain ⟨off, d, rfl, ht⟩ := d
  have hb : -2147483648 ≤ (0 : Int) ∧ (0 : Int) < 2147483648 := by omega
  exact lv_if_eq X.1 X.2.1 d ht (fun h => kt ((iI_eq ha hb).mp h) p e R s m args below meth c cells slots Q H locs ls X hc hs K hl hP hS) (fun h => kf (fun e => h ((iI_eq ha hb).mpr e)) p e R s m args below meth c cells slots Q H locs ls X hc hs K hl hP hS)
theorem Go_ifc_eq {a b : Int} (d : Db q pc (.ifCond .eq) n t) (kt : a = b → Go G q t lv st S Post) (kf : a ≠ b → Go G q n lv st S Post) : Go G q pc lv (vI (cmpI a b) :: st) S Post := by
  refine Go_if_eq d (by unfold cmpI; split <;> (try split) <;> decide) (fun h => kt ?_) (fun h => kf ?_) <;> (unfold cmpI at h; split at h <;> (try split at h) <;> omega)
theorem Go_icmp_ne {a b : Int} (d : Db q pc (.if_icmp .ne) n t) (ha : -2147483648 ≤ a ∧ a < 2147483648) (hb : -2147483648 ≤ b ∧ b < 2147483648) (kt : a ≠ b → Go G q t lv st S Post) (kf : a = b → Go G q n lv st S Post) : Go G q pc lv (vI b :: vI a :: st) S Post := by
  intro p e R s m args below meth c cells slots Q H locs ls X hc hs K hl hP hS
  obtain ⟨off, d, rfl, ht⟩ := d
  exact lv_icmp_ne X.1 X.2.1 d ht (fun h => kt (fun e => h ((iI_eq ha hb).mpr e)) p e R s m args below meth c cells slots Q H locs ls X hc hs K hl hP hS) (fun h => kf ((iI_eq ha hb).mp h) p e R s m args below meth c cells slots Q H locs ls X hc hs K hl hP hS)
theorem Go_if_ne {a : Int} (d : Db q pc (.ifCond .ne) n t) (ha : -2147483648 ≤ a ∧ a < 2147483648) (kt : a ≠ 0 → Go G q t lv st S Post) (kf : a = 0 → Go G q n lv st S Post) : Go G q pc lv (vI a :: st) S Post := by
  intro p e R s m args below meth c cells slots Q H locs ls X hc hs K hl hP hS
  obtain ⟨off, d, rfl, ht⟩ := d
  have hb : -2147483648 ≤ (0 : Int) ∧ (0 : Int) < 2147483648 := by omega
  exact lv_if_ne X.1 X.2.1 d ht (fun h => kt (fun e => h ((iI_eq ha hb).mpr e)) p e R s m args below meth c cells slots Q H locs ls X hc hs K hl hP hS) (fun h => kf ((iI_eq ha hb).mp h) p e R s m args below meth c cells slots Q H locs ls X hc hs K hl hP hS)
theorem Go_ifc_ne {a b : Int} (d : Db q pc (.ifCond .ne) n t) (kt : a ≠ b → Go G q t lv st S Post) (kf : a = b → Go G q n lv st S Post) : Go G q pc lv (vI (cmpI a b) :: st) S Post := by
  refine Go_if_ne d (by unfold cmpI; split <;> (try split) <;> decide) (fun h => kt ?_) (fun h => kf ?_) <;> (unfold cmpI at h; split at h <;> (try split at h) <;> omega)
theorem Go_icmp_lt {a b : Int} (d : Db q pc (.if_icmp .lt) n t) (ha : -2147483648 ≤ a ∧ a < 2147483648) (hb : -2147483648 ≤ b ∧ b < 2147483648) (kt : a < b → Go G q t lv st S Post) (kf : b ≤ a → Go G q n lv st S Post) : Go G q pc lv (vI b :: vI a :: st) S Post := by
  intro p e R s m args below meth c cells slots Q H locs ls X hc hs K hl hP hS
  obtain ⟨off, d, rfl, ht⟩ := d
  exact lv_icmp_lt X.1 X.2.1 d ht (fun h => kt ((iI_lt ha hb).mp h) p e R s m args below meth c cells slots Q H locs ls X hc hs K hl hP hS) (fun h => kf (Int.not_lt.mp (fun e => h ((iI_lt ha hb).mpr e))) p e R s m args below meth c cells slots Q H locs ls X hc hs K hl hP hS)
theorem Go_if_lt {a : Int} (d : Db q pc (.ifCond .lt) n t) (ha : -2147483648 ≤ a ∧ a < 2147483648) (kt : a < 0 → Go G q t lv st S Post) (kf : 0 ≤ a → Go G q n lv st S Post) : Go G q pc lv (vI a :: st) S Post := by
  intro p e R s m args below meth c cells slots Q H locs ls X hc hs K hl hP hS
  obtain ⟨off, d, rfl, ht⟩ := d
  have hb : -2147483648 ≤ (0 : Int) ∧ (0 : Int) < 2147483648 := by omega
  exact lv_if_lt X.1 X.2.1 d ht (fun h => kt ((iI_lt ha hb).mp h) p e R s m args below meth c cells slots Q H locs ls X hc hs K hl hP hS) (fun h => kf (Int.not_lt.mp (fun e => h ((iI_lt ha hb).mpr e))) p e R s m args below meth c cells slots Q H locs ls X hc hs K hl hP hS)
theorem Go_ifc_lt {a b : Int} (d : Db q pc (.ifCond .lt) n t) (kt : a < b → Go G q t lv st S Post) (kf : b ≤ a → Go G q n lv st S Post) : Go G q pc lv (vI (cmpI a b) :: st) S Post := by
  refine Go_if_lt d (by unfold cmpI; split <;> (try split) <;> decide) (fun h => kt ?_) (fun h => kf ?_) <;> (unfold cmpI at h; split at h <;> (try split at h) <;> omega)
theorem Go_icmp_ge {a b : Int} (d : Db q pc (.if_icmp .ge) n t) (ha : -2147483648 ≤ a ∧ a < 2147483648) (hb : -2147483648 ≤ b ∧ b < 2147483648) (kt : b ≤ a → Go G q t lv st S Post) (kf : a < b → Go G q n lv st S Post) : Go G q pc lv (vI b :: vI a :: st) S Post := by
  intro p e R s m args below meth c cells slots Q H locs ls X hc hs K hl hP hS
  obtain ⟨off, d, rfl, ht⟩ := d
  exact lv_icmp_ge X.1 X.2.1 d ht (fun h => kt ((iI_le hb ha).mp h) p e R s m args below meth c cells slots Q H locs ls X hc hs K hl hP hS) (fun h => kf (Int.not_le.mp (fun e => h ((iI_le hb ha).mpr e))) p e R s m args below meth c cells slots Q H locs ls X hc hs K hl hP hS)
theorem Go_if_ge {a : Int} (d : Db q pc (.ifCond .ge) n t) (ha : -2147483648 ≤ a ∧ a < 2147483648) (kt : 0 ≤ a → Go G q t lv st S Post) (kf : a < 0 → Go G q n lv st S Post) : Go G q pc lv (vI a :: st) S Post := by
  intro p e R s m args below meth c cells slots Q H locs ls X hc hs K hl hP hS
  obtain ⟨off, d, rfl, ht⟩ := d
  have hb : -2147483648 ≤ (0 : Int) ∧ (0 : Int) < 2147483648 := by omega
  exact lv_if_ge X.1 X.2.1 d ht (fun h => kt ((iI_le hb ha).mp h) p e R s m args below meth c cells slots Q H locs ls X hc hs K hl hP hS) (fun h => kf (Int.not_le.mp (fun e => h ((iI_le hb ha).mpr e))) p e R s m args below meth c cells slots Q H locs ls X hc hs K hl hP hS)
theorem Go_ifc_ge {a b : Int} (d : Db q pc (.ifCond .ge) n t) (kt : b ≤ a → Go G q t lv st S Post) (kf : a < b → Go G q n lv st S Post) : Go G q pc lv (vI (cmpI a b) :: st) S Post := by
  refine Go_if_ge d (by unfold cmpI; split <;> (try split) <;> decide) (fun h => kt ?_) (fun h => kf ?_) <;> (unfold cmpI at h; split at h <;> (try split at h) <;> omega)
theorem Go_icmp_gt {a b : Int} (d : Db q pc (.if_icmp .gt) n t) (ha : -2147483648 ≤ a ∧ a < 2147483648) (hb : -2147483648 ≤ b ∧ b < 2147483648) (kt : b < a → Go G q t lv st S Post) (kf : a ≤ b → Go G q n lv st S Post) : Go G q pc lv (vI b :: vI a :: st) S Post := by
  intro p e R s m args below meth c cells slots Q H locs ls X hc hs K hl hP hS
  obtain ⟨off, d, rfl, ht⟩ := d
  exact lv_icmp_gt X.1 X.2.1 d ht (fun h => kt ((iI_lt hb ha).mp h) p e R s m args below meth c cells slots Q H locs ls X hc hs K hl hP hS) (fun h => kf (Int.not_lt.mp (fun e => h ((iI_lt hb ha).mpr e))) p e R s m args below meth c cells slots Q H locs ls X hc hs K hl hP hS)
theorem Go_if_gt {a : Int} (d : Db q pc (.ifCond .gt) n t) (ha : -2147483648 ≤ a ∧ a < 2147483648) (kt : 0 < a → Go G q t lv st S Post) (kf : a ≤ 0 → Go G q n lv st S Post) : Go G q pc lv (vI a :: st) S Post := by
  intro p e R s m args below meth c cells slots Q H locs ls X hc hs K hl hP hS
  obtain ⟨off, d, rfl, ht⟩ := d
  have hb : -2147483648 ≤ (0 : Int) ∧ (0 : Int) < 2147483648 := by omega
  exact lv_if_gt X.1 X.2.1 d ht (fun h => kt ((iI_lt hb ha).mp h) p e R s m args below meth c cells slots Q H locs ls X hc hs K hl hP hS) (fun h => kf (Int.not_lt.mp (fun e => h ((iI_lt hb ha).mpr e))) p e R s m args below meth c cells slots Q H locs ls X hc hs K hl hP hS)
theorem Go_ifc_gt {a b : Int} (d : Db q pc (.ifCond .gt) n t) (kt : b < a → Go G q t lv st S Post) (kf : a ≤ b → Go G q n lv st S Post) : Go G q pc lv (vI (cmpI a b) :: st) S Post := by
  refine Go_if_gt d (by unfold cmpI; split <;> (try split) <;> decide) (fun h => kt ?_) (fun h => kf ?_) <;> (unfold cmpI at h; split at h <;> (try split at h) <;> omega)
theorem Go_icmp_le {a b : Int} (d : Db q pc (.if_icmp .le) n t) (ha : -2147483648 ≤ a ∧ a < 2147483648) (hb : -2147483648 ≤ b ∧ b < 2147483648) (kt : a ≤ b → Go G q t lv st S Post) (kf : b < a → Go G q n lv st S Post) : Go G q pc lv (vI b :: vI a :: st) S Post := by
  intro p e R s m args below meth c cells slots Q H locs ls X hc hs K hl hP hS
  obtain ⟨off, d, rfl, ht⟩ := d
  exact lv_icmp_le X.1 X.2.1 d ht (fun h => kt ((iI_le ha hb).mp h) p e R s m args below meth c cells slots Q H locs ls X hc hs K hl hP hS) (fun h => kf (Int.not_le.mp (fun e => h ((iI_le ha hb).mpr e))) p e R s m args below meth c cells slots Q H locs ls X hc hs K hl hP hS)
theorem Go_if_le {a : Int} (d : Db q pc (.ifCond .le) n t) (ha : -2147483648 ≤ a ∧ a < 2147483648) (kt : a ≤ 0 → Go G q t lv st S Post) (kf : 0 < a → Go G q n lv st S Post) : Go G q pc lv (vI a :: st) S Post := by
  intro p e R s m args below meth c cells slots Q H locs ls X hc hs K hl hP hS
  obtain ⟨off, d, rfl, ht⟩ := d
  have hb : -2147483648 ≤ (0 : Int) ∧ (0 : Int) < 2147483648 := by omega
  exact lv_if_le X.1 X.2.1 d ht (fun h => kt ((iI_le ha hb).mp h) p e R s m args below meth c cells slots Q H locs ls X hc hs K hl hP hS) (fun h => kf (Int.not_le.mp (fun e => h ((iI_le ha hb).mpr e))) p e R s m args below meth c cells slots Q H locs ls X hc hs K hl hP hS)
theorem Go_ifc_le {a b : Int} (d : Db q pc (.ifCond .le) n t) (kt : a ≤ b → Go G q t lv st S Post) (kf : b < a → Go G q n lv st S Post) : Go G q pc lv (vI (cmpI a b) :: st) S Post := by
  refine Go_if_le d (by unfold cmpI; split <;> (try split) <;> decide) (fun h => kt ?_) (fun h => kf ?_) <;> (unfold cmpI at h; split at h <;> (try split at h) <;> omega)
theorem Go_ifeq_b {P : Prop} [Decidable P] (d : Db q pc (.ifCond .eq) n t) (kt : ¬ P → Go G q t lv st S Post) (kf : P → Go G q n lv st S Post) : Go G q pc lv (vI (bI P) :: st) S Post := by
  refine Go_if_eq d (by unfold bI; split <;> decide) (fun h => kt ?_) (fun h => kf ?_) <;> (unfold bI at h; split at h <;> first | assumption | (exfalso; revert h; decide))
theorem Go_ifne_b {P : Prop} [Decidable P] (d : Db q pc (.ifCond .ne) n t) (kt : P → Go G q t lv st S Post) (kf : ¬ P → Go G q n lv st S Post) : Go G q pc lv (vI (bI P) :: st) S Post := by
  refine Go_if_ne d (by unfold bI; split <;> decide) (fun h => kt ?_) (fun h => kf ?_) <;> (unfold bI at h; split at h <;> first | assumption | (exfalso; revert h; decide))
theorem Go_tswOut {x dflt lo hi : Int} {offs : Array Int} {len : Nat} (d : decode q.2.2.1 pc = .ok (.tableswitch dflt lo hi offs, len)) (hx : -2147483648 ≤ x ∧ x < 2147483648) (h : x < lo ∨ hi < x) (ht : (pc : Int) + dflt = (t : Int)) (k : Go G q t lv st S Post) : Go G q pc lv (vI x :: st) S Post := by
  intro p e R s m args below meth c cells slots Q H locs ls X hc hs K hl hP hS
  exact lv_tableOut X.1 X.2.1 d (by rw [iI_toInt hx]; exact h) ht (k p e R s m args below meth c cells slots Q H locs ls X hc hs K hl hP hS)
theorem Go_tswIn {x dflt lo hi off : Int} {offs : Array Int} {len : Nat} (d : decode q.2.2.1 pc = .ok (.tableswitch dflt lo hi offs, len)) (hx : -2147483648 ≤ x ∧ x < 2147483648) (h1 : lo ≤ x) (h2 : x ≤ hi) (ho : offs[(x - lo).toNat]? = some off) (ht : (pc : Int) + off = (t : Int)) (k : Go G q t lv st S Post) : Go G q pc lv (vI x :: st) S Post := by
  intro p e R s m args below meth c cells slots Q H locs ls X hc hs K hl hP hS
  exact lv_tableIn X.1 X.2.1 d (by rw [iI_toInt hx]; omega) (by rw [iI_toInt hx]; omega) (by rw [iI_toInt hx]; exact ho) ht (k p e R s m args below meth c cells slots Q H locs ls X hc hs K hl hP hS)
theorem Go_lsw {x dflt off : Int} {ps : Array (Int × Int)} {len : Nat} (d : decode q.2.2.1 pc = .ok (.lookupswitch dflt ps, len)) (hp : (ps.toList.zip (ps.toList.drop 1)).all (fun (a, next) => a.1 < next.1) = true) (hx : -2147483648 ≤ x ∧ x < 2147483648) (ho : Op.lookupswitch.offset ps.toList dflt x = off) (ht : (pc : Int) + off = (t : Int)) (k : Go G q t lv st S Post) : Go G q pc lv (vI x :: st) S Post := by
  intro p e R s m args below meth c cells slots Q H locs ls X hc hs K hl hP hS
  exact lv_lookup X.1 X.2.1 d hp (by rw [iI_toInt hx]; exact ho) ht (k p e R s m args below meth c cells slots Q H locs ls X hc hs K hl hP hS)
theorem Go_iret {a : Int} (d : Dk q pc .ireturn 1 n) (hr : q.2.2.2.2.1 = some .int) (h : Post (some (vI a)) S) : Go G q pc lv [vI a] S Post := by
  intro p e R s m args below meth c cells slots Q H locs ls X hc hs K hl hP hS
  exact K _ S H locs pc ls h (Or.inl ⟨_, rfl, d.1, Or.inl hr⟩) hP hS
theorem Go_zret {a : Int} (d : Dk q pc .ireturn 1 n) (hr : q.2.2.2.2.1 = some .boolean) (ha : a = 0 ∨ a = 1) (h : Post (some (vI a)) S) : Go G q pc lv [vI a] S Post := by
  intro p e R s m args below meth c cells slots Q H locs ls X hc hs K hl hP hS
  exact K _ S H locs pc ls h (Or.inl ⟨_, rfl, d.1, Or.inr ⟨hr, by rcases ha with rfl | rfl <;> first | exact Or.inl rfl | exact Or.inr rfl⟩⟩) hP hS
theorem Go_lret {a : Int} (d : Dk q pc .lreturn 1 n) (hr : q.2.2.2.2.1 = some .long) (h : Post (some (vL a)) S) : Go G q pc lv [vL a] S Post := by
  intro p e R s m args below meth c cells slots Q H locs ls X hc hs K hl hP hS
  exact K _ S H locs pc ls h (Or.inr (Or.inl ⟨_, rfl, d.1, hr⟩)) hP hS
theorem Go_vret (d : Dk q pc .return_ 1 n) (hr : q.2.2.2.2.1 = none) (h : Post none S) : Go G q pc lv [] S Post := by
  intro p e R s m args below meth c cells slots Q H locs ls X hc hs K hl hP hS
  exact K _ S H locs pc ls h (Or.inr (Or.inr ⟨rfl, d.1, hr⟩)) hP hS
theorem Go.mono {Post' : Option Value → St → Prop} (h : Go G q pc lv st S Post) (hp : ∀ r S', Post r S' → Post' r S') : Go G q pc lv st S Post' := by
  intro p e R s m args below meth c cells slots Q H locs ls X hc hs K hl hP hS
  exact h p e R s m args below meth c cells slots Q H locs ls X hc hs (fun r S' H' locs' pc' ls' h1 h2 h3 h4 => K r S' H' locs' pc' ls' (hp r S' h1) h2 h3 h4) hl hP hS
def FL (own : String) (idx ci k : Nat) : Prop := ∃ (C : String) (T : u_T) (N : Nat), vwCl[ci]? = some (C, T, N) ∧ k < N ∧ Cond.fieldLink own idx (T k).1 (T k).2.1 (T k).2.2.1 ∈ tb ∧ ∀ w ∈ u_ws C T N, w ∈ tb
def DG (q : MKT) (pc ci k n : Nat) : Prop := ∃ idx : Nat, decode q.2.2.1 pc = .ok (.getfield idx, 3) ∧ FL q.1 idx ci k ∧ pc + 3 = n
def FG (G : GT) (S : St) (c ci k : Nat) (v : Value) : Prop := c < 23 ∧ kd c = ci ∧ (fl G S c)[k]? = some v
theorem Go_get {c0 ci k : Nat} {v : Value} (d : DG q pc ci k n) (hv : FG G S c0 ci k v) (kk : Go G q n lv (v :: st) S Post) : Go G q pc lv (oR G c0 :: st) S Post := by
  intro p e R s m args below meth c cells slots Q H locs ls X hc hs K hl hP hS
  obtain ⟨idx, d, ⟨C, T, N, h1, h2, h3, h4⟩, rfl⟩ := d
  obtain ⟨g1, g2, g3⟩ := hv
  obtain ⟨j, -, hj⟩ := Wd_at (G := G) (S := S) (vs_obj c0 g1)
  subst g2
  exact va_get X.1 X.2.1 X.2.2.2.2.1 h4 X.2.2.2.1 X.2.2.2.2.2.1.1 hP j hj h1 k h2 (X.2.2.2.2.1 _ h3) (fun _ h => h) g3 d (kk p e R s m args below meth c cells slots Q H locs ls X hc hs K hl hP hS)
def FLw (own : String) (idx ci k : Nat) : Prop := ∃ (C : String) (T : u_T) (N : Nat) (ty0 : Nat → FieldType), vwCl[ci]? = some (C, T, N) ∧ k < N ∧ Cond.fieldLink own idx (T k).1 (T k).2.1 (T k).2.2.1 ∈ tb ∧ (∀ w ∈ u_ws C T N, w ∈ tb) ∧ (∀ k, k < N → parseFieldDescriptor (T k).2.2.1 = some (ty0 k)) ∧ (∀ a, a < N → ∀ b, b < N → a ≠ b → (T a).2.1 ≠ (T b).2.1) ∧ (T k).2.2.2 = false
def DP (q : MKT) (pc ci k n : Nat) (ty : FieldType) : Prop := ∃ idx : Nat, decode q.2.2.1 pc = .ok (.putfield idx, 3) ∧ FLw q.1 idx ci k ∧ pc + 3 = n ∧ (∃ (C : String) (T : u_T) (N : Nat), vwCl[ci]? = some (C, T, N) ∧ parseFieldDescriptor (T k).2.2.1 = some ty)
/-- field k of cluster c0 is a number, and what the cell is when it is written -/
def FP (G : GT) (S : St) (c ci k : Nat) (x : Int) : Prop := c < 23 ∧ kd c = ci ∧ ak c k = 0 ∧ k < (fl G S c).length ∧ fl G (st3 S c k 0 x) c = (fl G S c).set k (vI x)
theorem Go_put {c0 ci k : Nat} {x : Int} {ty : FieldType} (d : DP q pc ci k n ty) (hv : FP G S c0 ci k x) (hn : narrow ty (vI x) = vI x) (hfit : fits ty (vI x) = true) (kk : Go G q n lv st (st3 S c0 k 0 x) Post) : Go G q pc lv (vI x :: oR G c0 :: st) S Post := by
  intro p e R s m args below meth c cells slots Q H locs ls X hc hs K hl hP hS
  obtain ⟨idx, d, ⟨C, T, N, ty0, h1, h2, h3, h4, h5, h6, h7⟩, rfl, ⟨C', T', N', z1, z2⟩⟩ := d
  cases Option.some.inj (h1.symm.trans z1)
  obtain ⟨g1, g2, g3, g4, g5⟩ := hv
  obtain ⟨j, hj0, hj⟩ := Wd_at (G := G) (S := S) (vs_obj c0 g1)
  subst g2
  refine va_put X.1 X.2.1 X.2.2.2.2.1 h4 ty0 h5 h6 X.2.2.2.1 X.2.2.2.2.2.1.1 hP (Wd_D X.2.2.2.2.2.1.2.1) hS j hj h1 k h2 (X.2.2.2.2.1 _ h3) (fun _ h => h) h7 z2 hn hfit g4 d (fun H1 locs1 hP1 _ hS1 => ?_)
  have ee : (Wd G S).set j (G.2.1 c0 0, .inr (kd c0, (fl G S c0).set k (vI x))) = Wd G (st3 S c0 k 0 x) := by
    rw [← g5]
    exact Wd_set hj0 (fun p hp hne => mk_fld g3 hp hne)
  rw [show ((c0, 0) : Nat × Nat).1 = c0 from rfl, show ((c0, 0) : Nat × Nat).2 = 0 from rfl, ee] at hP1
  exact kk p e R s m args below meth c cells slots Q H1 locs1 ls X hc hs K hl hP1 hS1
def AI (c j N : Nat) : Prop := c < 23 ∧ j < 16 ∧ ak c j = 1 ∧ ln c j = N ∧ N < 3000
def AL (c j N : Nat) : Prop := c < 23 ∧ j < 16 ∧ ak c j = 2 ∧ ln c j = N ∧ N < 3000
theorem mk_AI {c j N : Nat} (h : AI c j N) : mk G S c (j + 1) = .inl (G.2.2.2.2.1 c j, N, .inl (fun k => iI (S c j k))) := by
  show (Sum.inl (_, ln c j, mkc G S c j) : va_E) = _
  unfold mkc
  rw [if_pos h.2.2.1, h.2.2.2.1]
theorem mk_AL {c j N : Nat} (h : AL c j N) : mk G S c (j + 1) = .inl (G.2.2.2.2.1 c j, N, .inr (.inl (fun k => lI (S c j k)))) := by
  show (Sum.inl (_, ln c j, mkc G S c j) : va_E) = _
  unfold mkc
  rw [if_neg (by rw [h.2.2.1]; decide), if_pos h.2.2.1, h.2.2.2.1]
theorem AI.ty {c j N : Nat} (h : AI c j N) : ∃ k : Nat, (tysG G)[k]? = some (G.2.2.2.2.1 c j, .int) := by
  obtain ⟨k, hk⟩ := tys_at (G := G) h.1 h.2.1 (by rw [h.2.2.1]; decide)
  exact ⟨k, by rw [hk]; unfold aty; rw [if_pos h.2.2.1]⟩
theorem AL.ty {c j N : Nat} (h : AL c j N) : ∃ k : Nat, (tysG G)[k]? = some (G.2.2.2.2.1 c j, .long) := by
  obtain ⟨k, hk⟩ := tys_at (G := G) h.1 h.2.1 (by rw [h.2.2.1]; decide)
  exact ⟨k, by rw [hk]; unfold aty; rw [if_neg (by rw [h.2.2.1]; decide), if_pos h.2.2.1]⟩
theorem AI.at {c j N : Nat} (h : AI c j N) : ∃ k : Nat, vs[k]? = some (c, j + 1) ∧ (Wd G S)[k]? = some (G.2.1 c (j + 1), .inl (G.2.2.2.2.1 c j, N, .inl (fun k => iI (S c j k)))) := by
  obtain ⟨k, h1, h2⟩ := Wd_at (G := G) (S := S) (vs_arr c h.1 j h.2.1 (by rw [h.2.2.1]; decide))
  rw [show ((c, j + 1) : Nat × Nat).1 = c from rfl, show ((c, j + 1) : Nat × Nat).2 = j + 1 from rfl, mk_AI h] at h2
  exact ⟨k, h1, h2⟩
theorem AL.at {c j N : Nat} (h : AL c j N) : ∃ k : Nat, vs[k]? = some (c, j + 1) ∧ (Wd G S)[k]? = some (G.2.1 c (j + 1), .inl (G.2.2.2.2.1 c j, N, .inr (.inl (fun k => lI (S c j k))))) := by
  obtain ⟨k, h1, h2⟩ := Wd_at (G := G) (S := S) (vs_arr c h.1 j h.2.1 (by rw [h.2.2.1]; decide))
  rw [show ((c, j + 1) : Nat × Nat).1 = c from rfl, show ((c, j + 1) : Nat × Nat).2 = j + 1 from rfl, mk_AL h] at h2
  exact ⟨k, h1, h2⟩
theorem AI.set {c j N i k : Nat} {x : Int} (h : AI c j N) (hk : vs[k]? = some (c, j + 1)) : (Wd G S).set k (G.2.1 c (j + 1), .inl (G.2.2.2.2.1 c j, N, .inl (upd (fun k => iI (S c j k)) i (iI x)))) = Wd G (st3 S c j i x) := by
  have e := Wd_set (G := G) (S := S) (S' := st3 S c j i x) hk (fun p hp hne => mk_arr h.1 (by rw [h.2.2.1]; decide) hp hne)
  rw [show ((c, j + 1) : Nat × Nat).1 = c from rfl, show ((c, j + 1) : Nat × Nat).2 = j + 1 from rfl, mk_AI h] at e
  rw [← e]
  congr 6
  funext z
  unfold upd st3
  by_cases hz : z = i
  · rw [if_pos hz, if_pos ⟨rfl, rfl, hz⟩]
  · rw [if_neg hz, if_neg (fun q => hz q.2.2)]
theorem AL.set {c j N i k : Nat} {x : Int} (h : AL c j N) (hk : vs[k]? = some (c, j + 1)) : (Wd G S).set k (G.2.1 c (j + 1), .inl (G.2.2.2.2.1 c j, N, .inr (.inl (vp_updL (fun k => lI (S c j k)) i (lI x))))) = Wd G (st3 S c j i x) := by
  have e := Wd_set (G := G) (S := S) (S' := st3 S c j i x) hk (fun p hp hne => mk_arr h.1 (by rw [h.2.2.1]; decide) hp hne)
  rw [show ((c, j + 1) : Nat × Nat).1 = c from rfl, show ((c, j + 1) : Nat × Nat).2 = j + 1 from rfl, mk_AL h] at e
  rw [← e]
  congr 7
  funext z
  unfold vp_updL st3
  by_cases hz : z = i
  · rw [if_pos hz, if_pos ⟨rfl, rfl, hz⟩]
  · rw [if_neg hz, if_neg (fun q => hz q.2.2)]
theorem Go_iald {c0 j N : Nat} {i : Int} (d : Dk q pc .iaload 1 n) (h : AI c0 j N) (hi : 0 ≤ i ∧ i < (N : Int)) (k : Go G q n lv (vI (S c0 j i.toNat) :: st) S Post) : Go G q pc lv (vI i :: aR G c0 j :: st) S Post := by
  intro p e R s m args below meth c cells slots Q H locs ls X hc hs K hl hP hS
  obtain ⟨d, rfl⟩ := d
  obtain ⟨z, -, hz⟩ := h.at (G := G) (S := S)
  obtain ⟨y, hy⟩ := h.ty (G := G)
  have hN := h.2.2.2.2
  refine va_iald X.1 X.2.1 X.2.2.2.2.2.1.1 hP z y hz hy (iI_in hi (by omega)) d ?_
  rw [iI_cl (by omega)]
  exact k p e R s m args below meth c cells slots Q H locs ls X hc hs K hl hP hS
theorem Go_lald {c0 j N : Nat} {i : Int} (d : Dk q pc .laload 1 n) (h : AL c0 j N) (hi : 0 ≤ i ∧ i < (N : Int)) (k : Go G q n lv (vL (S c0 j i.toNat) :: st) S Post) : Go G q pc lv (vI i :: aR G c0 j :: st) S Post := by
  intro p e R s m args below meth c cells slots Q H locs ls X hc hs K hl hP hS
  obtain ⟨d, rfl⟩ := d
  obtain ⟨z, -, hz⟩ := h.at (G := G) (S := S)
  obtain ⟨y, hy⟩ := h.ty (G := G)
  have hN := h.2.2.2.2
  refine va_lald X.1 X.2.1 X.2.2.2.2.2.1.1 hP z y hz hy (iI_in hi (by omega)) d ?_
  rw [iI_cl (by omega)]
  exact k p e R s m args below meth c cells slots Q H locs ls X hc hs K hl hP hS
theorem Go_iast {c0 j N : Nat} {i x : Int} (d : Dk q pc .iastore 1 n) (h : AI c0 j N) (hi : 0 ≤ i ∧ i < (N : Int)) (k : Go G q n lv st (st3 S c0 j i.toNat x) Post) : Go G q pc lv (vI x :: vI i :: aR G c0 j :: st) S Post := by
  intro p e R s m args below meth c cells slots Q H locs ls X hc hs K hl hP hS
  obtain ⟨d, rfl⟩ := d
  obtain ⟨z, hz0, hz⟩ := h.at (G := G) (S := S)
  obtain ⟨y, hy⟩ := h.ty (G := G)
  have hN := h.2.2.2.2
  refine va_iast X.1 X.2.1 X.2.2.2.2.2.1.1 hP (Wd_D X.2.2.2.2.2.1.2.1) hS z y hz hy (iI_in hi (by omega)) d (fun H1 locs1 hP1 _ hS1 => ?_)
  rw [iI_cl (by omega), h.set hz0] at hP1
  exact k p e R s m args below meth c cells slots Q H1 locs1 ls X hc hs K hl hP1 hS1
theorem Go_last {c0 j N : Nat} {i x : Int} (d : Dk q pc .lastore 1 n) (h : AL c0 j N) (hi : 0 ≤ i ∧ i < (N : Int)) (k : Go G q n lv st (st3 S c0 j i.toNat x) Post) : Go G q pc lv (vL x :: vI i :: aR G c0 j :: st) S Post := by
  intro p e R s m args below meth c cells slots Q H locs ls X hc hs K hl hP hS
  obtain ⟨d, rfl⟩ := d
  obtain ⟨z, hz0, hz⟩ := h.at (G := G) (S := S)
  obtain ⟨y, hy⟩ := h.ty (G := G)
  have hN := h.2.2.2.2
  refine va_last X.1 X.2.1 X.2.2.2.2.2.1.1 hP (Wd_D X.2.2.2.2.2.1.2.1) hS z y hz hy (iI_in hi (by omega)) d (fun H1 locs1 hP1 _ hS1 => ?_)
  rw [iI_cl (by omega), h.set hz0] at hP1
  exact k p e R s m args below meth c cells slots Q H1 locs1 ls X hc hs K hl hP1 hS1
theorem Go_alen {c0 j N : Nat} (d : Dk q pc .arraylength 1 n) (h : AL c0 j N) (k : Go G q n lv (vI (N : Int) :: st) S Post) : Go G q pc lv (aR G c0 j :: st) S Post := by
  intro p e R s m args below meth c cells slots Q H locs ls X hc hs K hl hP hS
  obtain ⟨d, rfl⟩ := d
  obtain ⟨z, -, hz⟩ := h.at (G := G) (S := S)
  obtain ⟨y, hy⟩ := h.ty (G := G)
  exact va_alen X.1 X.2.1 X.2.2.2.2.2.1.1 hP z y hz hy (iI_nat N) d (k p e R s m args below meth c cells slots Q H locs ls X hc hs K hl hP hS)
theorem Go_aald {c0 j N : Nat} {i : Int} (d : Dk q pc .aaload 1 n) (h : c0 < 23 ∧ j < 16 ∧ ak c0 j = 3 ∧ ln c0 j = N) (hi : 0 ≤ i ∧ i < (N : Int)) (k : Go G q n lv (oR G (rf c0 i.toNat) :: st) S Post) : Go G q pc lv (vI i :: aR G c0 j :: st) S Post := by
  intro p e R s m args below meth c cells slots Q H locs ls X hc hs K hl hP hS
  obtain ⟨d, rfl⟩ := d
  obtain ⟨h1, h2, h3, h4⟩ := h
  obtain ⟨z, hz0, hz⟩ := Wd_at (G := G) (S := S) (vs_arr c0 h1 j h2 (by rw [h3]; decide))
  obtain ⟨y, hy⟩ := tys_at (G := G) h1 h2 (by rw [h3]; decide)
  have ee : mk G S c0 (j + 1) = .inl (G.2.2.2.2.1 c0 j, N, .inr (.inr (.inr (.inr (fun k => some (G.2.1 (rf c0 k) 0)))))) := by
    show (Sum.inl (_, ln c0 j, mkc G S c0 j) : va_E) = _
    unfold mkc
    rw [if_neg (by rw [h3]; decide), if_neg (by rw [h3]; decide), h4]
  rw [show ((c0, j + 1) : Nat × Nat).1 = c0 from rfl, show ((c0, j + 1) : Nat × Nat).2 = j + 1 from rfl, ee] at hz
  have hN := ln_small c0 h1 j h2
  have hty : ∃ C : String, aty c0 j = .object C := by
    unfold aty
    rw [if_neg (by rw [h3]; decide), if_neg (by rw [h3]; decide)]
    split
    · exact ⟨_, rfl⟩
    · exact ⟨_, rfl⟩
  obtain ⟨C, hC⟩ := hty
  rw [hC] at hy
  refine va_aldq X.1 X.2.1 X.2.2.2.2.2.1.1 hP z y hz hy (iI_in hi (by omega)) d ?_
  rw [iI_cl (by omega)]
  exact k p e R s m args below meth c cells slots Q H locs ls X hc hs K hl hP hS
theorem Go_sld {i : Int} (hq : q.1 = "MixRoundsLaw") (d : Dk q pc .iaload 1 n) (hL : G.2.2.2.2.2.2.2.1 ≤ 3072) (hi : 0 ≤ i ∧ i < (G.2.2.2.2.2.2.2.1 : Int)) (k : Go G q n lv (vI ((G.2.2.2.2.2.2.2.2 i.toNat).toInt) :: st) S Post) : Go G q pc lv (vI i :: .ref G.2.2.2.2.2.2.1 :: st) S Post := by
  intro p e R s m args below meth c cells slots Q H locs ls X hc hs K hl hP hS
  obtain ⟨d, rfl⟩ := d
  obtain ⟨x1, x2, x3⟩ := X.2.2.2.2.2.2.2 hq
  refine va_sld X.1 X.2.1 x1 x2 x3 hS (iI_in hi (by omega)) d ?_
  rw [iI_cl (by omega), ← iI_of (G.2.2.2.2.2.2.2.2 i.toNat)]
  exact k p e R s m args below meth c cells slots Q H locs ls X hc hs K hl hP hS
theorem Go_slen (hq : q.1 = "MixRoundsLaw") (d : Dk q pc .arraylength 1 n) (k : Go G q n lv (vI (G.2.2.2.2.2.2.2.1 : Int) :: st) S Post) : Go G q pc lv (.ref G.2.2.2.2.2.2.1 :: st) S Post := by
  intro p e R s m args below meth c cells slots Q H locs ls X hc hs K hl hP hS
  obtain ⟨d, rfl⟩ := d
  obtain ⟨x1, x2, x3⟩ := X.2.2.2.2.2.2.2 hq
  refine va_slen X.1 X.2.1 x1 x2 x3 hS d ?_
  rw [show Int32.ofNat G.2.2.2.2.2.2.2.1 = iI (G.2.2.2.2.2.2.2.1 : Int) from iI_nat _]
  exact k p e R s m args below meth c cells slots Q H locs ls X hc hs K hl hP hS
end Rules
end
section
/-! ===== calls ===== -/
section Calls
variable {G : GT} {q : MKT} {pc n : Nat} {lv : List (Option Value)} {st : List Value} {S : St} {Post : Option Value → St → Prop}
/-- a method's own words -/
def CM (y : MKT) : Prop := Cond.code y.2.1 y.2.2.1 y.2.2.2.1 y.2.2.2.2.1 ∈ tb ∧ Cond.initialized y.2.1.cls ∈ tb ∧ (y.2.1.cls ≠ "java/lang/invoke/MethodHandle" ∧ y.2.1.cls ≠ "java/lang/invoke/VarHandle") ∧ y.2.2.2.1 ≤ 11
def DCV (q : MKT) (pc : Nat) (y : MKT) (ci na n : Nat) : Prop := ∃ idx : Nat, decode q.2.2.1 pc = .ok (.invokevirtual idx, 3) ∧ pc + 3 = n ∧ Cond.methodLink q.1 idx y.2.1 ∈ tb ∧ CM y ∧ Cond.instanceMethod y.2.1 ∈ tb ∧ Cond.selects y.2.1.cls y.2.1 y.2.1 ∈ tb ∧ (∃ r : vw_C, vwCl[ci]? = some r ∧ r.1 = y.2.1.cls) ∧ (parseMethodDescriptor y.2.1.desc).map (fun d => d.parameters.length) = some na ∧ y.2.2.2.2.2 + 1 ≤ q.2.2.2.2.2
def DCS (q : MKT) (pc : Nat) (y : MKT) (na n : Nat) : Prop := ∃ idx : Nat, decode q.2.2.1 pc = .ok (.invokestatic idx, 3) ∧ pc + 3 = n ∧ (Cond.methodLink q.1 idx y.2.1 ∈ tb ∨ ∃ host : String, (q.1, idx, y.2.1, host) ∈ NWl) ∧ CM y ∧ Cond.static y.2.1 ∈ tb ∧ (parseMethodDescriptor y.2.1.desc).map (fun d => d.parameters.length) = some na ∧ y.2.2.2.2.2 + 1 ≤ q.2.2.2.2.2
theorem tb_in {y : MKT} (h : CM y) : GoodIn tb (wsG y) := by
  intro w hw
  rcases List.mem_cons.mp hw with rfl | hw
  · exact ⟨h.1, good_of_word (tb_good h.1)⟩
  · exact ⟨hw, good_of_word (tb_good hw)⟩
theorem Pc_blind {av : List Value} : FrameBlind (PcG G av S) := by
  intro a U g mk h
  exact ⟨h.1, h.2.1, h.2.2.calling g mk a⟩
/-- behind a call -/
theorem Go_ran {y : MKT} {av st0 : List Value} {PostC : Option Value → St → Prop} {p : Program} {e : Env} {R : Room} {s : State} {m : MethodId} {args : Array Value} {below : List Frame} {meth : Method} {c : Code} {cells slots : Nat} {Q : State → Prop} {H : Heap} {locs : List Loc} {ls : Array Slot}
    (hr : va_Run p G.1 e R s m args below meth c H locs cells slots 0 0 (F0 m pc ls st0) st (QcG G PostC av.toArray) G.2.2.1) (k : ∀ r S', PostC r S' → Go G q (pc + 3) lv (r.toList ++ st) S' Post)
    (X : OkX G q p R s m args c) (hc : cells ≤ R.cells) (hs : slots ≤ R.slots)
    (K : ∀ (r : Option Value) (S' : St) (H' : Heap) (locs' : List Loc) (pc' : Nat) (ls' : Array Slot), Post r S' → Rt q pc' r → Hd G S' H' → va_S G.2.2.1 s.heap H' locs' → W p G.1 e R s m args below meth c H' locs' cells slots Q (F0 m pc' ls' r.toList))
    (hl : lvH ls q.2.2.2.1 lv) (hS : va_S G.2.2.1 s.heap H locs) : W p G.1 e R s m args below meth c H locs cells slots Q (F0 m pc ls st0) := by
  intro T hT XX
  obtain ⟨v, st₀, t, T', L, h0, X', hL, e1, e2, ⟨⟨r, S', hv, hp, hb⟩, hz, hk⟩, stp⟩ := hr T hT XX
  cases hv
  rw [h0] at hz hk
  have hS2 : va_S G.2.2.1 s.heap T'.heap (locs ++ L) := ⟨Nat.le_trans hS.1 (by rw [e1]; exact hz), fun q h1 h2 => by rw [e1, hk q (Nat.lt_of_lt_of_le h1 hS.1) h2]; exact hS.2.1 q h1 h2, fun q hq => by
      rcases List.mem_append.mp hq with h | h
      · exact hS.2.2 q h
      · exact hL q h⟩
  obtain ⟨t2, a1, b1⟩ := k v S' hp p e R s m args below meth c cells slots Q T'.heap (locs ++ L) ls X hc hs K hl (by rw [e1]; exact hb) hS2 T' rfl X'
  exact ⟨t2, stp t2 a1, b1⟩
set_option maxHeartbeats 2000000 in
theorem Go_callV {y : MKT} {c0 ci na : Nat} {As : List Value} {PostC : Option Value → St → Prop} (d : DCV q pc y ci na n) (h0 : c0 < 23 ∧ kd c0 = ci) (hlen : As.length = na) (hst : (st.map fun v => v.category).sum ≤ 8) (hF : Fn G y (oR G c0 :: As) S PostC) (k : ∀ r S', PostC r S' → Go G q n lv (r.toList ++ st) S' Post) : Go G q pc lv (As.reverse ++ oR G c0 :: st) S Post := by
  intro p e R s m args below meth c cells slots Q H locs ls X hc hs K hl hP hS
  obtain ⟨idx, hd, rfl, w1, w2, w3, w4, ⟨rr, w5, w5'⟩, w6, w7⟩ := d
  obtain ⟨hx, hb, hml, hown, hts, hK, hR, -⟩ := id X
  obtain ⟨v1, v2, v3, v4⟩ := id w2
  obtain ⟨j, -, hj⟩ := Wd_at (G := G) (S := S) (vs_obj c0 h0.1)
  have hci := h0.2
  subst hci
  have hj2 : (Wd G S)[j]? = some (G.2.1 c0 0, .inr (kd c0, fl G S c0)) := hj
  have hrv := va_recv hK.1 hP w5 hj2
  rw [w5'] at hrv
  refine Go_ran (y := y) (av := oR G c0 :: As) (PostC := PostC) ?_ k X hc hs K hl hS
  exact va_runV (As := As) (rest := st) (C := y.2.1.cls) ⟨hx, hb, hml, hown, hts⟩ hF ⟨callB_of (ws' := tb) na hts (tb_in w2) rfl rfl rfl (hts _ v2) (hts _ w1) ⟨v3.1, v3.2, w6⟩ ⟨Nat.le_trans w7 hR.1, by show 8 + (y.2.2.2.1 + 11) + 30 * y.2.2.2.2.2 ≤ R.locals; omega⟩, hts _ w3, hts _ w4⟩
    ⟨Pc_blind, hrv, fun U hU hW => ⟨rfl, by rw [hU]; exact hP, hK.to hW (fun a h1 h2 => by rw [hU]; exact hS.2.1 a h1 h2)⟩⟩ rfl hlen hl.1 rfl (lv_room hst) hd ⟨hc, hs⟩
set_option maxHeartbeats 2000000 in
theorem Go_callS {y : MKT} {na : Nat} {As : List Value} {PostC : Option Value → St → Prop} (d : DCS q pc y na n) (hlen : As.length = na) (hst : (st.map fun v => v.category).sum ≤ 8) (hF : Fn G y As S PostC) (k : ∀ r S', PostC r S' → Go G q n lv (r.toList ++ st) S' Post) : Go G q pc lv (As.reverse ++ st) S Post := by
  intro p e R s m args below meth c cells slots Q H locs ls X hc hs K hl hP hS
  obtain ⟨idx, hd, rfl, w1, w2, w3, w6, w7⟩ := d
  obtain ⟨hx, hb, hml, hown, hts, hK, hR, -⟩ := id X
  obtain ⟨v1, v2, v3, v4⟩ := id w2
  refine Go_ran (y := y) (av := As) (PostC := PostC) ?_ k X hc hs K hl hS
  have hp : PreS s H (PcG G As S) As := ⟨Pc_blind, fun U hU hW => ⟨rfl, by rw [hU]; exact hP, hK.to hW (fun a h1 h2 => by rw [hU]; exact hS.2.1 a h1 h2)⟩⟩
  have hR2 : y.2.2.2.2.2 + 1 ≤ R.frames ∧ 8 + (y.2.2.2.1 + 11) + 30 * y.2.2.2.2.2 ≤ R.locals := ⟨Nat.le_trans w7 hR.1, by omega⟩
  rcases w1 with w1 | ⟨host, w1⟩
  · exact va_runS (As := As) (rest := st) ⟨hx, hb, hml, hown, hts⟩ hF ⟨callB_of (ws' := tb) na hts (tb_in w2) rfl rfl rfl (hts _ v2) (hts _ w1) ⟨v3.1, v3.2, w6⟩ hR2, hts _ w3⟩ hp rfl hlen hl.1 rfl (lv_room hst) hd ⟨hc, hs⟩
  · exact va_runSN (As := As) (rest := st) (host := host) ⟨hx, hb, hml, hown, hts⟩ hF ⟨va_cnB (ws' := tb) na hts (tb_in w2) rfl rfl rfl (hK.2.2.2 _ w1) (hts _ v2) ⟨v3.1, v3.2, w6⟩ hR2, hts _ w3, trivial⟩ hp rfl hlen hl.1 rfl (lv_room hst) hd ⟨hc, hs⟩
/-! what a contract says: a value and nothing changed; a number and a new state; nothing and a new state -/
def PV (v : Value) (S : St) : Option Value → St → Prop := fun r S' => r = some v ∧ S' = S
def PI (f : Int → St → Prop) : Option Value → St → Prop := fun r S' => ∃ z : Int, r = some (vI z) ∧ f z S'
def PL (f : Int → St → Prop) : Option Value → St → Prop := fun r S' => ∃ z : Int, r = some (vL z) ∧ f z S'
def PN (f : St → Prop) : Option Value → St → Prop := fun r S' => r = none ∧ f S'
theorem Go_iretV {a b : Int} (d : Dk q pc .ireturn 1 n) (hr : q.2.2.2.2.1 = some .int) (h : a = b) : Go G q pc lv [vI a] S (PV (vI b) S) := Go_iret d hr ⟨by rw [h], rfl⟩
theorem Go_zretV {a b : Int} (d : Dk q pc .ireturn 1 n) (hr : q.2.2.2.2.1 = some .boolean) (ha : a = 0 ∨ a = 1) (h : a = b) : Go G q pc lv [vI a] S (PV (vI b) S) := Go_zret d hr ha ⟨by rw [h], rfl⟩
theorem Go_lretV {a b : Int} (d : Dk q pc .lreturn 1 n) (hr : q.2.2.2.2.1 = some .long) (h : a = b) : Go G q pc lv [vL a] S (PV (vL b) S) := Go_lret d hr ⟨by rw [h], rfl⟩
theorem Go_iretI {a : Int} {f : Int → St → Prop} (d : Dk q pc .ireturn 1 n) (hr : q.2.2.2.2.1 = some .int) (h : f a S) : Go G q pc lv [vI a] S (PI f) := Go_iret d hr ⟨a, rfl, h⟩
theorem Go_zretI {a : Int} {f : Int → St → Prop} (d : Dk q pc .ireturn 1 n) (hr : q.2.2.2.2.1 = some .boolean) (ha : a = 0 ∨ a = 1) (h : f a S) : Go G q pc lv [vI a] S (PI f) := Go_zret d hr ha ⟨a, rfl, h⟩
theorem Go_lretL {a : Int} {f : Int → St → Prop} (d : Dk q pc .lreturn 1 n) (hr : q.2.2.2.2.1 = some .long) (h : f a S) : Go G q pc lv [vL a] S (PL f) := Go_lret d hr ⟨a, rfl, h⟩
theorem Go_vretN {f : St → Prop} (d : Dk q pc .return_ 1 n) (hr : q.2.2.2.2.1 = none) (h : f S) : Go G q pc lv [] S (PN f) := Go_vret d hr ⟨rfl, h⟩

theorem Go_V0p {y : MKT} {c0 ci : Nat} {v : Value} (d : DCV q pc y ci 0 n) (h0 : c0 < 23 ∧ kd c0 = ci) (hF : Fn G y (oR G c0 :: []) S (PV v S)) (hst : (st.map fun v => v.category).sum ≤ 8) (k : Go G q n lv (v :: st) S Post) : Go G q pc lv (oR G c0 :: st) S Post := Go_callV (As := []) d h0 rfl hst hF (fun r S' h => by obtain ⟨rfl, rfl⟩ := h; exact k)
theorem Go_S0p {y : MKT} {v : Value} (d : DCS q pc y 0 n) (hF : Fn G y [] S (PV v S)) (hst : (st.map fun v => v.category).sum ≤ 8) (k : Go G q n lv (v :: st) S Post) : Go G q pc lv (st) S Post := Go_callS (As := []) d rfl hst hF (fun r S' h => by obtain ⟨rfl, rfl⟩ := h; exact k)
theorem Go_V0i {y : MKT} {c0 ci : Nat} {f : Int → St → Prop} (d : DCV q pc y ci 0 n) (h0 : c0 < 23 ∧ kd c0 = ci) (hF : Fn G y (oR G c0 :: []) S (PI f)) (hst : (st.map fun v => v.category).sum ≤ 8) (k : ∀ z S', f z S' → Go G q n lv (vI z :: st) S' Post) : Go G q pc lv (oR G c0 :: st) S Post := Go_callV (As := []) d h0 rfl hst hF (fun r S' h => by obtain ⟨z, rfl, h⟩ := h; exact k z S' h)
theorem Go_S0i {y : MKT} {f : Int → St → Prop} (d : DCS q pc y 0 n) (hF : Fn G y [] S (PI f)) (hst : (st.map fun v => v.category).sum ≤ 8) (k : ∀ z S', f z S' → Go G q n lv (vI z :: st) S' Post) : Go G q pc lv (st) S Post := Go_callS (As := []) d rfl hst hF (fun r S' h => by obtain ⟨z, rfl, h⟩ := h; exact k z S' h)
theorem Go_V0l {y : MKT} {c0 ci : Nat} {f : Int → St → Prop} (d : DCV q pc y ci 0 n) (h0 : c0 < 23 ∧ kd c0 = ci) (hF : Fn G y (oR G c0 :: []) S (PL f)) (hst : (st.map fun v => v.category).sum ≤ 8) (k : ∀ z S', f z S' → Go G q n lv (vL z :: st) S' Post) : Go G q pc lv (oR G c0 :: st) S Post := Go_callV (As := []) d h0 rfl hst hF (fun r S' h => by obtain ⟨z, rfl, h⟩ := h; exact k z S' h)
theorem Go_S0l {y : MKT} {f : Int → St → Prop} (d : DCS q pc y 0 n) (hF : Fn G y [] S (PL f)) (hst : (st.map fun v => v.category).sum ≤ 8) (k : ∀ z S', f z S' → Go G q n lv (vL z :: st) S' Post) : Go G q pc lv (st) S Post := Go_callS (As := []) d rfl hst hF (fun r S' h => by obtain ⟨z, rfl, h⟩ := h; exact k z S' h)
theorem Go_V0n {y : MKT} {c0 ci : Nat} {f : St → Prop} (d : DCV q pc y ci 0 n) (h0 : c0 < 23 ∧ kd c0 = ci) (hF : Fn G y (oR G c0 :: []) S (PN f)) (hst : (st.map fun v => v.category).sum ≤ 8) (k : ∀ S', f S' → Go G q n lv st S' Post) : Go G q pc lv (oR G c0 :: st) S Post := Go_callV (As := []) d h0 rfl hst hF (fun r S' h => by obtain ⟨rfl, h⟩ := h; exact k S' h)
theorem Go_S0n {y : MKT} {f : St → Prop} (d : DCS q pc y 0 n) (hF : Fn G y [] S (PN f)) (hst : (st.map fun v => v.category).sum ≤ 8) (k : ∀ S', f S' → Go G q n lv st S' Post) : Go G q pc lv (st) S Post := Go_callS (As := []) d rfl hst hF (fun r S' h => by obtain ⟨rfl, h⟩ := h; exact k S' h)
theorem Go_V1p {y : MKT} {c0 ci : Nat} {a1 : Value} {v : Value} (d : DCV q pc y ci 1 n) (h0 : c0 < 23 ∧ kd c0 = ci) (hF : Fn G y (oR G c0 :: [a1]) S (PV v S)) (hst : (st.map fun v => v.category).sum ≤ 8) (k : Go G q n lv (v :: st) S Post) : Go G q pc lv (a1 :: oR G c0 :: st) S Post := Go_callV (As := [a1]) d h0 rfl hst hF (fun r S' h => by obtain ⟨rfl, rfl⟩ := h; exact k)
theorem Go_S1p {y : MKT} {a1 : Value} {v : Value} (d : DCS q pc y 1 n) (hF : Fn G y [a1] S (PV v S)) (hst : (st.map fun v => v.category).sum ≤ 8) (k : Go G q n lv (v :: st) S Post) : Go G q pc lv (a1 :: st) S Post := Go_callS (As := [a1]) d rfl hst hF (fun r S' h => by obtain ⟨rfl, rfl⟩ := h; exact k)
theorem Go_V1i {y : MKT} {c0 ci : Nat} {a1 : Value} {f : Int → St → Prop} (d : DCV q pc y ci 1 n) (h0 : c0 < 23 ∧ kd c0 = ci) (hF : Fn G y (oR G c0 :: [a1]) S (PI f)) (hst : (st.map fun v => v.category).sum ≤ 8) (k : ∀ z S', f z S' → Go G q n lv (vI z :: st) S' Post) : Go G q pc lv (a1 :: oR G c0 :: st) S Post := Go_callV (As := [a1]) d h0 rfl hst hF (fun r S' h => by obtain ⟨z, rfl, h⟩ := h; exact k z S' h)
theorem Go_S1i {y : MKT} {a1 : Value} {f : Int → St → Prop} (d : DCS q pc y 1 n) (hF : Fn G y [a1] S (PI f)) (hst : (st.map fun v => v.category).sum ≤ 8) (k : ∀ z S', f z S' → Go G q n lv (vI z :: st) S' Post) : Go G q pc lv (a1 :: st) S Post := Go_callS (As := [a1]) d rfl hst hF (fun r S' h => by obtain ⟨z, rfl, h⟩ := h; exact k z S' h)
theorem Go_V1l {y : MKT} {c0 ci : Nat} {a1 : Value} {f : Int → St → Prop} (d : DCV q pc y ci 1 n) (h0 : c0 < 23 ∧ kd c0 = ci) (hF : Fn G y (oR G c0 :: [a1]) S (PL f)) (hst : (st.map fun v => v.category).sum ≤ 8) (k : ∀ z S', f z S' → Go G q n lv (vL z :: st) S' Post) : Go G q pc lv (a1 :: oR G c0 :: st) S Post := Go_callV (As := [a1]) d h0 rfl hst hF (fun r S' h => by obtain ⟨z, rfl, h⟩ := h; exact k z S' h)
theorem Go_S1l {y : MKT} {a1 : Value} {f : Int → St → Prop} (d : DCS q pc y 1 n) (hF : Fn G y [a1] S (PL f)) (hst : (st.map fun v => v.category).sum ≤ 8) (k : ∀ z S', f z S' → Go G q n lv (vL z :: st) S' Post) : Go G q pc lv (a1 :: st) S Post := Go_callS (As := [a1]) d rfl hst hF (fun r S' h => by obtain ⟨z, rfl, h⟩ := h; exact k z S' h)
theorem Go_V1n {y : MKT} {c0 ci : Nat} {a1 : Value} {f : St → Prop} (d : DCV q pc y ci 1 n) (h0 : c0 < 23 ∧ kd c0 = ci) (hF : Fn G y (oR G c0 :: [a1]) S (PN f)) (hst : (st.map fun v => v.category).sum ≤ 8) (k : ∀ S', f S' → Go G q n lv st S' Post) : Go G q pc lv (a1 :: oR G c0 :: st) S Post := Go_callV (As := [a1]) d h0 rfl hst hF (fun r S' h => by obtain ⟨rfl, h⟩ := h; exact k S' h)
theorem Go_S1n {y : MKT} {a1 : Value} {f : St → Prop} (d : DCS q pc y 1 n) (hF : Fn G y [a1] S (PN f)) (hst : (st.map fun v => v.category).sum ≤ 8) (k : ∀ S', f S' → Go G q n lv st S' Post) : Go G q pc lv (a1 :: st) S Post := Go_callS (As := [a1]) d rfl hst hF (fun r S' h => by obtain ⟨rfl, h⟩ := h; exact k S' h)
theorem Go_V2p {y : MKT} {c0 ci : Nat} {a1 a2 : Value} {v : Value} (d : DCV q pc y ci 2 n) (h0 : c0 < 23 ∧ kd c0 = ci) (hF : Fn G y (oR G c0 :: [a1, a2]) S (PV v S)) (hst : (st.map fun v => v.category).sum ≤ 8) (k : Go G q n lv (v :: st) S Post) : Go G q pc lv (a2 :: a1 :: oR G c0 :: st) S Post := Go_callV (As := [a1, a2]) d h0 rfl hst hF (fun r S' h => by obtain ⟨rfl, rfl⟩ := h; exact k)
theorem Go_S2p {y : MKT} {a1 a2 : Value} {v : Value} (d : DCS q pc y 2 n) (hF : Fn G y [a1, a2] S (PV v S)) (hst : (st.map fun v => v.category).sum ≤ 8) (k : Go G q n lv (v :: st) S Post) : Go G q pc lv (a2 :: a1 :: st) S Post := Go_callS (As := [a1, a2]) d rfl hst hF (fun r S' h => by obtain ⟨rfl, rfl⟩ := h; exact k)
theorem Go_V2i {y : MKT} {c0 ci : Nat} {a1 a2 : Value} {f : Int → St → Prop} (d : DCV q pc y ci 2 n) (h0 : c0 < 23 ∧ kd c0 = ci) (hF : Fn G y (oR G c0 :: [a1, a2]) S (PI f)) (hst : (st.map fun v => v.category).sum ≤ 8) (k : ∀ z S', f z S' → Go G q n lv (vI z :: st) S' Post) : Go G q pc lv (a2 :: a1 :: oR G c0 :: st) S Post := Go_callV (As := [a1, a2]) d h0 rfl hst hF (fun r S' h => by obtain ⟨z, rfl, h⟩ := h; exact k z S' h)
theorem Go_S2i {y : MKT} {a1 a2 : Value} {f : Int → St → Prop} (d : DCS q pc y 2 n) (hF : Fn G y [a1, a2] S (PI f)) (hst : (st.map fun v => v.category).sum ≤ 8) (k : ∀ z S', f z S' → Go G q n lv (vI z :: st) S' Post) : Go G q pc lv (a2 :: a1 :: st) S Post := Go_callS (As := [a1, a2]) d rfl hst hF (fun r S' h => by obtain ⟨z, rfl, h⟩ := h; exact k z S' h)
theorem Go_V2l {y : MKT} {c0 ci : Nat} {a1 a2 : Value} {f : Int → St → Prop} (d : DCV q pc y ci 2 n) (h0 : c0 < 23 ∧ kd c0 = ci) (hF : Fn G y (oR G c0 :: [a1, a2]) S (PL f)) (hst : (st.map fun v => v.category).sum ≤ 8) (k : ∀ z S', f z S' → Go G q n lv (vL z :: st) S' Post) : Go G q pc lv (a2 :: a1 :: oR G c0 :: st) S Post := Go_callV (As := [a1, a2]) d h0 rfl hst hF (fun r S' h => by obtain ⟨z, rfl, h⟩ := h; exact k z S' h)
theorem Go_S2l {y : MKT} {a1 a2 : Value} {f : Int → St → Prop} (d : DCS q pc y 2 n) (hF : Fn G y [a1, a2] S (PL f)) (hst : (st.map fun v => v.category).sum ≤ 8) (k : ∀ z S', f z S' → Go G q n lv (vL z :: st) S' Post) : Go G q pc lv (a2 :: a1 :: st) S Post := Go_callS (As := [a1, a2]) d rfl hst hF (fun r S' h => by obtain ⟨z, rfl, h⟩ := h; exact k z S' h)
theorem Go_V2n {y : MKT} {c0 ci : Nat} {a1 a2 : Value} {f : St → Prop} (d : DCV q pc y ci 2 n) (h0 : c0 < 23 ∧ kd c0 = ci) (hF : Fn G y (oR G c0 :: [a1, a2]) S (PN f)) (hst : (st.map fun v => v.category).sum ≤ 8) (k : ∀ S', f S' → Go G q n lv st S' Post) : Go G q pc lv (a2 :: a1 :: oR G c0 :: st) S Post := Go_callV (As := [a1, a2]) d h0 rfl hst hF (fun r S' h => by obtain ⟨rfl, h⟩ := h; exact k S' h)
theorem Go_S2n {y : MKT} {a1 a2 : Value} {f : St → Prop} (d : DCS q pc y 2 n) (hF : Fn G y [a1, a2] S (PN f)) (hst : (st.map fun v => v.category).sum ≤ 8) (k : ∀ S', f S' → Go G q n lv st S' Post) : Go G q pc lv (a2 :: a1 :: st) S Post := Go_callS (As := [a1, a2]) d rfl hst hF (fun r S' h => by obtain ⟨rfl, h⟩ := h; exact k S' h)
theorem Go_V3p {y : MKT} {c0 ci : Nat} {a1 a2 a3 : Value} {v : Value} (d : DCV q pc y ci 3 n) (h0 : c0 < 23 ∧ kd c0 = ci) (hF : Fn G y (oR G c0 :: [a1, a2, a3]) S (PV v S)) (hst : (st.map fun v => v.category).sum ≤ 8) (k : Go G q n lv (v :: st) S Post) : Go G q pc lv (a3 :: a2 :: a1 :: oR G c0 :: st) S Post := Go_callV (As := [a1, a2, a3]) d h0 rfl hst hF (fun r S' h => by obtain ⟨rfl, rfl⟩ := h; exact k)
theorem Go_S3p {y : MKT} {a1 a2 a3 : Value} {v : Value} (d : DCS q pc y 3 n) (hF : Fn G y [a1, a2, a3] S (PV v S)) (hst : (st.map fun v => v.category).sum ≤ 8) (k : Go G q n lv (v :: st) S Post) : Go G q pc lv (a3 :: a2 :: a1 :: st) S Post := Go_callS (As := [a1, a2, a3]) d rfl hst hF (fun r S' h => by obtain ⟨rfl, rfl⟩ := h; exact k)
theorem Go_V3i {y : MKT} {c0 ci : Nat} {a1 a2 a3 : Value} {f : Int → St → Prop} (d : DCV q pc y ci 3 n) (h0 : c0 < 23 ∧ kd c0 = ci) (hF : Fn G y (oR G c0 :: [a1, a2, a3]) S (PI f)) (hst : (st.map fun v => v.category).sum ≤ 8) (k : ∀ z S', f z S' → Go G q n lv (vI z :: st) S' Post) : Go G q pc lv (a3 :: a2 :: a1 :: oR G c0 :: st) S Post := Go_callV (As := [a1, a2, a3]) d h0 rfl hst hF (fun r S' h => by obtain ⟨z, rfl, h⟩ := h; exact k z S' h)
theorem Go_S3i {y : MKT} {a1 a2 a3 : Value} {f : Int → St → Prop} (d : DCS q pc y 3 n) (hF : Fn G y [a1, a2, a3] S (PI f)) (hst : (st.map fun v => v.category).sum ≤ 8) (k : ∀ z S', f z S' → Go G q n lv (vI z :: st) S' Post) : Go G q pc lv (a3 :: a2 :: a1 :: st) S Post := Go_callS (As := [a1, a2, a3]) d rfl hst hF (fun r S' h => by obtain ⟨z, rfl, h⟩ := h; exact k z S' h)
theorem Go_V3l {y : MKT} {c0 ci : Nat} {a1 a2 a3 : Value} {f : Int → St → Prop} (d : DCV q pc y ci 3 n) (h0 : c0 < 23 ∧ kd c0 = ci) (hF : Fn G y (oR G c0 :: [a1, a2, a3]) S (PL f)) (hst : (st.map fun v => v.category).sum ≤ 8) (k : ∀ z S', f z S' → Go G q n lv (vL z :: st) S' Post) : Go G q pc lv (a3 :: a2 :: a1 :: oR G c0 :: st) S Post := Go_callV (As := [a1, a2, a3]) d h0 rfl hst hF (fun r S' h => by obtain ⟨z, rfl, h⟩ := h; exact k z S' h)
theorem Go_S3l {y : MKT} {a1 a2 a3 : Value} {f : Int → St → Prop} (d : DCS q pc y 3 n) (hF : Fn G y [a1, a2, a3] S (PL f)) (hst : (st.map fun v => v.category).sum ≤ 8) (k : ∀ z S', f z S' → Go G q n lv (vL z :: st) S' Post) : Go G q pc lv (a3 :: a2 :: a1 :: st) S Post := Go_callS (As := [a1, a2, a3]) d rfl hst hF (fun r S' h => by obtain ⟨z, rfl, h⟩ := h; exact k z S' h)
theorem Go_V3n {y : MKT} {c0 ci : Nat} {a1 a2 a3 : Value} {f : St → Prop} (d : DCV q pc y ci 3 n) (h0 : c0 < 23 ∧ kd c0 = ci) (hF : Fn G y (oR G c0 :: [a1, a2, a3]) S (PN f)) (hst : (st.map fun v => v.category).sum ≤ 8) (k : ∀ S', f S' → Go G q n lv st S' Post) : Go G q pc lv (a3 :: a2 :: a1 :: oR G c0 :: st) S Post := Go_callV (As := [a1, a2, a3]) d h0 rfl hst hF (fun r S' h => by obtain ⟨rfl, h⟩ := h; exact k S' h)
theorem Go_S3n {y : MKT} {a1 a2 a3 : Value} {f : St → Prop} (d : DCS q pc y 3 n) (hF : Fn G y [a1, a2, a3] S (PN f)) (hst : (st.map fun v => v.category).sum ≤ 8) (k : ∀ S', f S' → Go G q n lv st S' Post) : Go G q pc lv (a3 :: a2 :: a1 :: st) S Post := Go_callS (As := [a1, a2, a3]) d rfl hst hF (fun r S' h => by obtain ⟨rfl, h⟩ := h; exact k S' h)
theorem Go_V4p {y : MKT} {c0 ci : Nat} {a1 a2 a3 a4 : Value} {v : Value} (d : DCV q pc y ci 4 n) (h0 : c0 < 23 ∧ kd c0 = ci) (hF : Fn G y (oR G c0 :: [a1, a2, a3, a4]) S (PV v S)) (hst : (st.map fun v => v.category).sum ≤ 8) (k : Go G q n lv (v :: st) S Post) : Go G q pc lv (a4 :: a3 :: a2 :: a1 :: oR G c0 :: st) S Post := Go_callV (As := [a1, a2, a3, a4]) d h0 rfl hst hF (fun r S' h => by obtain ⟨rfl, rfl⟩ := h; exact k)
theorem Go_S4p {y : MKT} {a1 a2 a3 a4 : Value} {v : Value} (d : DCS q pc y 4 n) (hF : Fn G y [a1, a2, a3, a4] S (PV v S)) (hst : (st.map fun v => v.category).sum ≤ 8) (k : Go G q n lv (v :: st) S Post) : Go G q pc lv (a4 :: a3 :: a2 :: a1 :: st) S Post := Go_callS (As := [a1, a2, a3, a4]) d rfl hst hF (fun r S' h => by obtain ⟨rfl, rfl⟩ := h; exact k)
theorem Go_V4i {y : MKT} {c0 ci : Nat} {a1 a2 a3 a4 : Value} {f : Int → St → Prop} (d : DCV q pc y ci 4 n) (h0 : c0 < 23 ∧ kd c0 = ci) (hF : Fn G y (oR G c0 :: [a1, a2, a3, a4]) S (PI f)) (hst : (st.map fun v => v.category).sum ≤ 8) (k : ∀ z S', f z S' → Go G q n lv (vI z :: st) S' Post) : Go G q pc lv (a4 :: a3 :: a2 :: a1 :: oR G c0 :: st) S Post := Go_callV (As := [a1, a2, a3, a4]) d h0 rfl hst hF (fun r S' h => by obtain ⟨z, rfl, h⟩ := h; exact k z S' h)
theorem Go_S4i {y : MKT} {a1 a2 a3 a4 : Value} {f : Int → St → Prop} (d : DCS q pc y 4 n) (hF : Fn G y [a1, a2, a3, a4] S (PI f)) (hst : (st.map fun v => v.category).sum ≤ 8) (k : ∀ z S', f z S' → Go G q n lv (vI z :: st) S' Post) : Go G q pc lv (a4 :: a3 :: a2 :: a1 :: st) S Post := Go_callS (As := [a1, a2, a3, a4]) d rfl hst hF (fun r S' h => by obtain ⟨z, rfl, h⟩ := h; exact k z S' h)
theorem Go_V4l {y : MKT} {c0 ci : Nat} {a1 a2 a3 a4 : Value} {f : Int → St → Prop} (d : DCV q pc y ci 4 n) (h0 : c0 < 23 ∧ kd c0 = ci) (hF : Fn G y (oR G c0 :: [a1, a2, a3, a4]) S (PL f)) (hst : (st.map fun v => v.category).sum ≤ 8) (k : ∀ z S', f z S' → Go G q n lv (vL z :: st) S' Post) : Go G q pc lv (a4 :: a3 :: a2 :: a1 :: oR G c0 :: st) S Post := Go_callV (As := [a1, a2, a3, a4]) d h0 rfl hst hF (fun r S' h => by obtain ⟨z, rfl, h⟩ := h; exact k z S' h)
theorem Go_S4l {y : MKT} {a1 a2 a3 a4 : Value} {f : Int → St → Prop} (d : DCS q pc y 4 n) (hF : Fn G y [a1, a2, a3, a4] S (PL f)) (hst : (st.map fun v => v.category).sum ≤ 8) (k : ∀ z S', f z S' → Go G q n lv (vL z :: st) S' Post) : Go G q pc lv (a4 :: a3 :: a2 :: a1 :: st) S Post := Go_callS (As := [a1, a2, a3, a4]) d rfl hst hF (fun r S' h => by obtain ⟨z, rfl, h⟩ := h; exact k z S' h)
theorem Go_V4n {y : MKT} {c0 ci : Nat} {a1 a2 a3 a4 : Value} {f : St → Prop} (d : DCV q pc y ci 4 n) (h0 : c0 < 23 ∧ kd c0 = ci) (hF : Fn G y (oR G c0 :: [a1, a2, a3, a4]) S (PN f)) (hst : (st.map fun v => v.category).sum ≤ 8) (k : ∀ S', f S' → Go G q n lv st S' Post) : Go G q pc lv (a4 :: a3 :: a2 :: a1 :: oR G c0 :: st) S Post := Go_callV (As := [a1, a2, a3, a4]) d h0 rfl hst hF (fun r S' h => by obtain ⟨rfl, h⟩ := h; exact k S' h)
theorem Go_S4n {y : MKT} {a1 a2 a3 a4 : Value} {f : St → Prop} (d : DCS q pc y 4 n) (hF : Fn G y [a1, a2, a3, a4] S (PN f)) (hst : (st.map fun v => v.category).sum ≤ 8) (k : ∀ S', f S' → Go G q n lv st S' Post) : Go G q pc lv (a4 :: a3 :: a2 :: a1 :: st) S Post := Go_callS (As := [a1, a2, a3, a4]) d rfl hst hF (fun r S' h => by obtain ⟨rfl, h⟩ := h; exact k S' h)
theorem Go_V5p {y : MKT} {c0 ci : Nat} {a1 a2 a3 a4 a5 : Value} {v : Value} (d : DCV q pc y ci 5 n) (h0 : c0 < 23 ∧ kd c0 = ci) (hF : Fn G y (oR G c0 :: [a1, a2, a3, a4, a5]) S (PV v S)) (hst : (st.map fun v => v.category).sum ≤ 8) (k : Go G q n lv (v :: st) S Post) : Go G q pc lv (a5 :: a4 :: a3 :: a2 :: a1 :: oR G c0 :: st) S Post := Go_callV (As := [a1, a2, a3, a4, a5]) d h0 rfl hst hF (fun r S' h => by obtain ⟨rfl, rfl⟩ := h; exact k)
theorem Go_S5p {y : MKT} {a1 a2 a3 a4 a5 : Value} {v : Value} (d : DCS q pc y 5 n) (hF : Fn G y [a1, a2, a3, a4, a5] S (PV v S)) (hst : (st.map fun v => v.category).sum ≤ 8) (k : Go G q n lv (v :: st) S Post) : Go G q pc lv (a5 :: a4 :: a3 :: a2 :: a1 :: st) S Post := Go_callS (As := [a1, a2, a3, a4, a5]) d rfl hst hF (fun r S' h => by obtain ⟨rfl, rfl⟩ := h; exact k)
theorem Go_V5i {y : MKT} {c0 ci : Nat} {a1 a2 a3 a4 a5 : Value} {f : Int → St → Prop} (d : DCV q pc y ci 5 n) (h0 : c0 < 23 ∧ kd c0 = ci) (hF : Fn G y (oR G c0 :: [a1, a2, a3, a4, a5]) S (PI f)) (hst : (st.map fun v => v.category).sum ≤ 8) (k : ∀ z S', f z S' → Go G q n lv (vI z :: st) S' Post) : Go G q pc lv (a5 :: a4 :: a3 :: a2 :: a1 :: oR G c0 :: st) S Post := Go_callV (As := [a1, a2, a3, a4, a5]) d h0 rfl hst hF (fun r S' h => by obtain ⟨z, rfl, h⟩ := h; exact k z S' h)
theorem Go_S5i {y : MKT} {a1 a2 a3 a4 a5 : Value} {f : Int → St → Prop} (d : DCS q pc y 5 n) (hF : Fn G y [a1, a2, a3, a4, a5] S (PI f)) (hst : (st.map fun v => v.category).sum ≤ 8) (k : ∀ z S', f z S' → Go G q n lv (vI z :: st) S' Post) : Go G q pc lv (a5 :: a4 :: a3 :: a2 :: a1 :: st) S Post := Go_callS (As := [a1, a2, a3, a4, a5]) d rfl hst hF (fun r S' h => by obtain ⟨z, rfl, h⟩ := h; exact k z S' h)
theorem Go_V5l {y : MKT} {c0 ci : Nat} {a1 a2 a3 a4 a5 : Value} {f : Int → St → Prop} (d : DCV q pc y ci 5 n) (h0 : c0 < 23 ∧ kd c0 = ci) (hF : Fn G y (oR G c0 :: [a1, a2, a3, a4, a5]) S (PL f)) (hst : (st.map fun v => v.category).sum ≤ 8) (k : ∀ z S', f z S' → Go G q n lv (vL z :: st) S' Post) : Go G q pc lv (a5 :: a4 :: a3 :: a2 :: a1 :: oR G c0 :: st) S Post := Go_callV (As := [a1, a2, a3, a4, a5]) d h0 rfl hst hF (fun r S' h => by obtain ⟨z, rfl, h⟩ := h; exact k z S' h)
theorem Go_S5l {y : MKT} {a1 a2 a3 a4 a5 : Value} {f : Int → St → Prop} (d : DCS q pc y 5 n) (hF : Fn G y [a1, a2, a3, a4, a5] S (PL f)) (hst : (st.map fun v => v.category).sum ≤ 8) (k : ∀ z S', f z S' → Go G q n lv (vL z :: st) S' Post) : Go G q pc lv (a5 :: a4 :: a3 :: a2 :: a1 :: st) S Post := Go_callS (As := [a1, a2, a3, a4, a5]) d rfl hst hF (fun r S' h => by obtain ⟨z, rfl, h⟩ := h; exact k z S' h)
theorem Go_V5n {y : MKT} {c0 ci : Nat} {a1 a2 a3 a4 a5 : Value} {f : St → Prop} (d : DCV q pc y ci 5 n) (h0 : c0 < 23 ∧ kd c0 = ci) (hF : Fn G y (oR G c0 :: [a1, a2, a3, a4, a5]) S (PN f)) (hst : (st.map fun v => v.category).sum ≤ 8) (k : ∀ S', f S' → Go G q n lv st S' Post) : Go G q pc lv (a5 :: a4 :: a3 :: a2 :: a1 :: oR G c0 :: st) S Post := Go_callV (As := [a1, a2, a3, a4, a5]) d h0 rfl hst hF (fun r S' h => by obtain ⟨rfl, h⟩ := h; exact k S' h)
theorem Go_S5n {y : MKT} {a1 a2 a3 a4 a5 : Value} {f : St → Prop} (d : DCS q pc y 5 n) (hF : Fn G y [a1, a2, a3, a4, a5] S (PN f)) (hst : (st.map fun v => v.category).sum ≤ 8) (k : ∀ S', f S' → Go G q n lv st S' Post) : Go G q pc lv (a5 :: a4 :: a3 :: a2 :: a1 :: st) S Post := Go_callS (As := [a1, a2, a3, a4, a5]) d rfl hst hF (fun r S' h => by obtain ⟨rfl, h⟩ := h; exact k S' h)
theorem Go_S6p {y : MKT} {a1 a2 a3 a4 a5 a6 : Value} {v : Value} (d : DCS q pc y 6 n) (hF : Fn G y [a1, a2, a3, a4, a5, a6] S (PV v S)) (hst : (st.map fun v => v.category).sum ≤ 8) (k : Go G q n lv (v :: st) S Post) : Go G q pc lv (a6 :: a5 :: a4 :: a3 :: a2 :: a1 :: st) S Post := Go_callS (As := [a1, a2, a3, a4, a5, a6]) d rfl hst hF (fun r S' h => by obtain ⟨rfl, rfl⟩ := h; exact k)
theorem Go_S6i {y : MKT} {a1 a2 a3 a4 a5 a6 : Value} {f : Int → St → Prop} (d : DCS q pc y 6 n) (hF : Fn G y [a1, a2, a3, a4, a5, a6] S (PI f)) (hst : (st.map fun v => v.category).sum ≤ 8) (k : ∀ z S', f z S' → Go G q n lv (vI z :: st) S' Post) : Go G q pc lv (a6 :: a5 :: a4 :: a3 :: a2 :: a1 :: st) S Post := Go_callS (As := [a1, a2, a3, a4, a5, a6]) d rfl hst hF (fun r S' h => by obtain ⟨z, rfl, h⟩ := h; exact k z S' h)
theorem Go_S6l {y : MKT} {a1 a2 a3 a4 a5 a6 : Value} {f : Int → St → Prop} (d : DCS q pc y 6 n) (hF : Fn G y [a1, a2, a3, a4, a5, a6] S (PL f)) (hst : (st.map fun v => v.category).sum ≤ 8) (k : ∀ z S', f z S' → Go G q n lv (vL z :: st) S' Post) : Go G q pc lv (a6 :: a5 :: a4 :: a3 :: a2 :: a1 :: st) S Post := Go_callS (As := [a1, a2, a3, a4, a5, a6]) d rfl hst hF (fun r S' h => by obtain ⟨z, rfl, h⟩ := h; exact k z S' h)
theorem Go_S6n {y : MKT} {a1 a2 a3 a4 a5 a6 : Value} {f : St → Prop} (d : DCS q pc y 6 n) (hF : Fn G y [a1, a2, a3, a4, a5, a6] S (PN f)) (hst : (st.map fun v => v.category).sum ≤ 8) (k : ∀ S', f S' → Go G q n lv st S' Post) : Go G q pc lv (a6 :: a5 :: a4 :: a3 :: a2 :: a1 :: st) S Post := Go_callS (As := [a1, a2, a3, a4, a5, a6]) d rfl hst hF (fun r S' h => by obtain ⟨rfl, h⟩ := h; exact k S' h)
/-! natives and the static rows -/
def DAC (q : MKT) (pc n : Nat) : Prop := ∃ idx : Nat, decode q.2.2.1 pc = .ok (.invokestatic idx, 3) ∧ pc + 3 = n ∧ Cond.methodLink q.1 idx arraycopyName ∈ tb ∧ 1 ≤ q.2.2.2.2.2
theorem w_acN : Cond.native arraycopyName ∈ tb ∧ Cond.static arraycopyName ∈ tb ∧ Cond.initialized "java/lang/System" ∈ tb := ⟨tb_of (by decide +kernel) (by decide +kernel), tb_of (by decide +kernel) (by decide +kernel), tb_of (by decide +kernel) (by decide +kernel)⟩
def cpy3 (S : St) (c j c1 j1 sp dp k : Nat) : St := fun x y i => if x = c1 ∧ y = j1 ∧ dp ≤ i ∧ i < dp + k then S c j (sp + (i - dp)) else S x y i
theorem mk_cpy {c j c1 j1 sp dp k : Nat} (hc : c1 < 23) (ha : ak c1 j1 ≠ 0) {p : Nat × Nat} (hp : p ∈ vs) (hne : p ≠ (c1, j1 + 1)) : mk G (cpy3 S c j c1 j1 sp dp k) p.1 p.2 = mk G S p.1 p.2 := by
  obtain ⟨pc, pt⟩ := p
  have hok := vs_ok _ hp
  dsimp only at hok ⊢
  cases pt with
  | zero =>
    show (Sum.inr (kd pc, fl G (cpy3 S c j c1 j1 sp dp k) pc) : va_E) = Sum.inr (kd pc, fl G S pc)
    have e : fl G (cpy3 S c j c1 j1 sp dp k) pc = fl G S pc := by
      by_cases hcc : pc = c1
      · subst hcc
        unfold ak at ha
        rcases kd_cases pc hc with h | h | h | h | h | h <;> rw [h] at ha <;> simp only [fl, h, fl_Book, fl_Past, fl_Sheet, fl_Tape, fl_Mix, fl_Model] <;>
          (congr <;> exact if_neg (fun e => ha (by rw [← e.2.1]; rfl)))
      · unfold fl
        have hz : ∀ j2 i1, cpy3 S c j c1 j1 sp dp k pc j2 i1 = S pc j2 i1 := fun j2 i1 => if_neg (fun e => hcc e.1)
        split <;> simp only [fl_Book, fl_Past, fl_Sheet, fl_Tape, fl_Mix, fl_Model, hz]
    rw [e]
  | succ t =>
    show (Sum.inl (G.2.2.2.2.1 pc t, ln pc t, mkc G (cpy3 S c j c1 j1 sp dp k) pc t) : va_E) = Sum.inl (G.2.2.2.2.1 pc t, ln pc t, mkc G S pc t)
    have e : mkc G (cpy3 S c j c1 j1 sp dp k) pc t = mkc G S pc t := by
      have hz : ∀ i, cpy3 S c j c1 j1 sp dp k pc t i = S pc t i := fun i => if_neg (fun q => hne (by rw [q.1, q.2.1]))
      unfold mkc
      simp only [hz]
    rw [e]
theorem AI.cpy {c j N c1 j1 N1 sp dp k z : Nat} (h1 : AI c1 j1 N1) (hk : vs[z]? = some (c1, j1 + 1)) : (Wd G S).set z (G.2.1 c1 (j1 + 1), .inl (G.2.2.2.2.1 c1 j1, N1, .inl (va_cpy (fun k => iI (S c j k)) (fun k => iI (S c1 j1 k)) sp dp k))) = Wd G (cpy3 S c j c1 j1 sp dp k) := by
  have e := Wd_set (G := G) (S := S) (S' := cpy3 S c j c1 j1 sp dp k) hk (fun p hp hne => mk_cpy h1.1 (by rw [h1.2.2.1]; decide) hp hne)
  rw [show ((c1, j1 + 1) : Nat × Nat).1 = c1 from rfl, show ((c1, j1 + 1) : Nat × Nat).2 = j1 + 1 from rfl, mk_AI h1] at e
  rw [← e]
  congr 6
  funext i
  unfold va_cpy cpy3
  by_cases hz : dp ≤ i ∧ i < dp + k
  · rw [if_pos hz, if_pos ⟨rfl, rfl, hz⟩]
  · rw [if_neg hz, if_neg (fun q => hz q.2.2)]
theorem AL.cpy {c j N c1 j1 N1 sp dp k z : Nat} (h1 : AL c1 j1 N1) (hk : vs[z]? = some (c1, j1 + 1)) : (Wd G S).set z (G.2.1 c1 (j1 + 1), .inl (G.2.2.2.2.1 c1 j1, N1, .inr (.inl (va_cpy (fun k => lI (S c j k)) (fun k => lI (S c1 j1 k)) sp dp k)))) = Wd G (cpy3 S c j c1 j1 sp dp k) := by
  have e := Wd_set (G := G) (S := S) (S' := cpy3 S c j c1 j1 sp dp k) hk (fun p hp hne => mk_cpy h1.1 (by rw [h1.2.2.1]; decide) hp hne)
  rw [show ((c1, j1 + 1) : Nat × Nat).1 = c1 from rfl, show ((c1, j1 + 1) : Nat × Nat).2 = j1 + 1 from rfl, mk_AL h1] at e
  rw [← e]
  congr 7
  funext i
  unfold va_cpy cpy3
  by_cases hz : dp ≤ i ∧ i < dp + k
  · rw [if_pos hz, if_pos ⟨rfl, rfl, hz⟩]
  · rw [if_neg hz, if_neg (fun q => hz q.2.2)]

set_option maxHeartbeats 2000000 in
theorem Go_copyI {c0 j N c1 j1 N1 : Nat} {sp dp k : Int} (d : DAC q pc n) (h0 : AI c0 j N) (h1 : AI c1 j1 N1) (hsp : 0 ≤ sp) (hdp : 0 ≤ dp) (hk : 0 ≤ k) (hs1 : sp + k ≤ (N : Int)) (hd1 : dp + k ≤ (N1 : Int)) (hst : (st.map fun v => v.category).sum ≤ 8) (kk : Go G q n lv st (cpy3 S c0 j c1 j1 sp.toNat dp.toNat k.toNat) Post) : Go G q pc lv (vI k :: vI dp :: aR G c1 j1 :: vI sp :: aR G c0 j :: st) S Post := by
  intro p e R s m args below meth c cells slots Q H locs ls X hc hs K hl hP hS
  obtain ⟨idx, hd, rfl, w1, w2⟩ := d
  obtain ⟨hx, hb, hml, hown, hts, hK, hR, -⟩ := id X
  obtain ⟨z0, -, hz0⟩ := h0.at (G := G) (S := S)
  obtain ⟨z1, hz1', hz1⟩ := h1.at (G := G) (S := S)
  obtain ⟨y0, hy0⟩ := h0.ty (G := G)
  obtain ⟨y1, hy1⟩ := h1.ty (G := G)
  have hN := h0.2.2.2.2
  have hN1 := h1.2.2.2.2
  have ng : ∀ x : Int, 0 ≤ x → x < 2147483648 → ¬ iI x < 0 := fun x h h2 => fun e => by have := (iI_lt (a := x) (b := 0) (by omega) (by omega)).mp e; omega
  refine va_copyi hx hb (hml.trans hl.1.symm) hown (hts _ w1) (hts _ w_acN.1) (hts _ w_acN.2.1) (hts _ w_acN.2.2) hK.1 hP (Wd_D hK.2.1) hS z0 z1 y0 y1 hz0 hz1 hy0 hy1 rfl (ng sp hsp (by omega)) (ng dp hdp (by omega)) (ng k hk (by omega)) (by rw [iI_cl (by omega), iI_cl (by omega)]; omega) (by rw [iI_cl (by omega), iI_cl (by omega)]; omega) (fun _ _ => rfl) (Nat.le_trans w2 hR.1) ?_ hd (fun H1 locs1 hP1 _ hS1 => ?_)
  · have : nativeFrameWords "java/lang/System" "arraycopy" 5 = 7 := by decide
    omega
  · rw [iI_cl (by omega), iI_cl (by omega), iI_cl (by omega), AI.cpy h1 hz1'] at hP1
    exact kk p e R s m args below meth c cells slots Q H1 locs1 ls X hc hs K hl hP1 hS1
set_option maxHeartbeats 2000000 in
theorem Go_copyL {c0 j N c1 j1 N1 : Nat} {sp dp k : Int} (d : DAC q pc n) (h0 : AL c0 j N) (h1 : AL c1 j1 N1) (hsp : 0 ≤ sp) (hdp : 0 ≤ dp) (hk : 0 ≤ k) (hs1 : sp + k ≤ (N : Int)) (hd1 : dp + k ≤ (N1 : Int)) (hst : (st.map fun v => v.category).sum ≤ 8) (kk : Go G q n lv st (cpy3 S c0 j c1 j1 sp.toNat dp.toNat k.toNat) Post) : Go G q pc lv (vI k :: vI dp :: aR G c1 j1 :: vI sp :: aR G c0 j :: st) S Post := by
  intro p e R s m args below meth c cells slots Q H locs ls X hc hs K hl hP hS
  obtain ⟨idx, hd, rfl, w1, w2⟩ := d
  obtain ⟨hx, hb, hml, hown, hts, hK, hR, -⟩ := id X
  obtain ⟨z0, -, hz0⟩ := h0.at (G := G) (S := S)
  obtain ⟨z1, hz1', hz1⟩ := h1.at (G := G) (S := S)
  obtain ⟨y0, hy0⟩ := h0.ty (G := G)
  obtain ⟨y1, hy1⟩ := h1.ty (G := G)
  have hN := h0.2.2.2.2
  have hN1 := h1.2.2.2.2
  have ng : ∀ x : Int, 0 ≤ x → x < 2147483648 → ¬ iI x < 0 := fun x h h2 => fun e => by have := (iI_lt (a := x) (b := 0) (by omega) (by omega)).mp e; omega
  refine va_copyl hx hb (hml.trans hl.1.symm) hown (hts _ w1) (hts _ w_acN.1) (hts _ w_acN.2.1) (hts _ w_acN.2.2) hK.1 hP (Wd_D hK.2.1) hS z0 z1 y0 y1 hz0 hz1 hy0 hy1 rfl (ng sp hsp (by omega)) (ng dp hdp (by omega)) (ng k hk (by omega)) (by rw [iI_cl (by omega), iI_cl (by omega)]; omega) (by rw [iI_cl (by omega), iI_cl (by omega)]; omega) (fun _ _ => rfl) (Nat.le_trans w2 hR.1) ?_ hd (fun H1 locs1 hP1 _ hS1 => ?_)
  · have : nativeFrameWords "java/lang/System" "arraycopy" 5 = 7 := by decide
    omega
  · rw [iI_cl (by omega), iI_cl (by omega), iI_cl (by omega), AL.cpy h1 hz1'] at hP1
    exact kk p e R s m args below meth c cells slots Q H1 locs1 ls X hc hs K hl hP1 hS1
end Calls
end
