section
-- ===== PART A: goes FIRST, ahead of the names: the tables' words, and 'selects' of the private methods out of them =====
/-- a private method of a class that the tables say can be made, by its rows of tables_1 -/
def lw_okq (q : MethodName × Nat) : Prop := (q.1.cls ≠ "java/lang/invoke/MethodHandle" ∧ q.1.cls ≠ "java/lang/invoke/VarHandle") ∧ Cond.instantiable q.1.cls q.2 ∈ tables_1 ∧ Cond.privateMethod q.1 ∈ tables_1 ∧ Cond.instanceMethod q.1 ∈ tables_1
theorem lw_p0 : lw_okq (⟨"MixRounds$Book", "add", "(II)V"⟩, 13) := ⟨⟨by decide +kernel, by decide +kernel⟩, List.mem_of_getElem? (i := 20) (by decide +kernel), List.mem_of_getElem? (i := 205) (by decide +kernel), List.mem_of_getElem? (i := 206) (by decide +kernel)⟩
theorem lw_p1 : lw_okq (⟨"MixRounds$Book", "goRound", "(I)I"⟩, 13) := ⟨⟨by decide +kernel, by decide +kernel⟩, List.mem_of_getElem? (i := 20) (by decide +kernel), List.mem_of_getElem? (i := 212) (by decide +kernel), List.mem_of_getElem? (i := 213) (by decide +kernel)⟩
theorem lw_p2 : lw_okq (⟨"MixRounds$Book", "ownWaiting", "()I"⟩, 13) := ⟨⟨by decide +kernel, by decide +kernel⟩, List.mem_of_getElem? (i := 20) (by decide +kernel), List.mem_of_getElem? (i := 222) (by decide +kernel), List.mem_of_getElem? (i := 223) (by decide +kernel)⟩
theorem lw_p3 : lw_okq (⟨"MixRounds$Book", "letOut", "(I)V"⟩, 13) := ⟨⟨by decide +kernel, by decide +kernel⟩, List.mem_of_getElem? (i := 20) (by decide +kernel), List.mem_of_getElem? (i := 230) (by decide +kernel), List.mem_of_getElem? (i := 231) (by decide +kernel)⟩
theorem lw_p4 : lw_okq (⟨"MixRounds$Tape", "skipBlanks", "(I)I"⟩, 5) := ⟨⟨by decide +kernel, by decide +kernel⟩, List.mem_of_getElem? (i := 106) (by decide +kernel), List.mem_of_getElem? (i := 411) (by decide +kernel), List.mem_of_getElem? (i := 412) (by decide +kernel)⟩
theorem lw_p5 : lw_okq (⟨"MixRounds$Tape", "signAt", "(I)I"⟩, 5) := ⟨⟨by decide +kernel, by decide +kernel⟩, List.mem_of_getElem? (i := 106) (by decide +kernel), List.mem_of_getElem? (i := 415) (by decide +kernel), List.mem_of_getElem? (i := 416) (by decide +kernel)⟩
theorem lw_p6 : lw_okq (⟨"MixRounds$Tape", "senderAt", "(I)I"⟩, 5) := ⟨⟨by decide +kernel, by decide +kernel⟩, List.mem_of_getElem? (i := 106) (by decide +kernel), List.mem_of_getElem? (i := 419) (by decide +kernel), List.mem_of_getElem? (i := 420) (by decide +kernel)⟩
theorem lw_p7 : lw_okq (⟨"MixRounds$Tape", "figureAt", "(I)I"⟩, 5) := ⟨⟨by decide +kernel, by decide +kernel⟩, List.mem_of_getElem? (i := 106) (by decide +kernel), List.mem_of_getElem? (i := 423) (by decide +kernel), List.mem_of_getElem? (i := 424) (by decide +kernel)⟩
theorem lw_p8 : lw_okq (⟨"MixRounds", "play", "(I)Z"⟩, 7) := ⟨⟨by decide +kernel, by decide +kernel⟩, List.mem_of_getElem? (i := 12) (by decide +kernel), List.mem_of_getElem? (i := 428) (by decide +kernel), List.mem_of_getElem? (i := 429) (by decide +kernel)⟩
theorem lw_p9 : lw_okq (⟨"MixRounds", "tickIfHeard", "()Z"⟩, 7) := ⟨⟨by decide +kernel, by decide +kernel⟩, List.mem_of_getElem? (i := 12) (by decide +kernel), List.mem_of_getElem? (i := 432) (by decide +kernel), List.mem_of_getElem? (i := 433) (by decide +kernel)⟩
theorem lw_p10 : lw_okq (⟨"MixRounds", "takeIfRoom", "(II)Z"⟩, 7) := ⟨⟨by decide +kernel, by decide +kernel⟩, List.mem_of_getElem? (i := 12) (by decide +kernel), List.mem_of_getElem? (i := 436) (by decide +kernel), List.mem_of_getElem? (i := 437) (by decide +kernel)⟩
theorem lw_p11 : lw_okq (⟨"MixRounds", "driftOnce", "()V"⟩, 7) := ⟨⟨by decide +kernel, by decide +kernel⟩, List.mem_of_getElem? (i := 12) (by decide +kernel), List.mem_of_getElem? (i := 444) (by decide +kernel), List.mem_of_getElem? (i := 445) (by decide +kernel)⟩
theorem lw_p12 : lw_okq (⟨"MixRounds", "fitsPolicy", "(LMixRounds$Sheet;III)Z"⟩, 7) := ⟨⟨by decide +kernel, by decide +kernel⟩, List.mem_of_getElem? (i := 12) (by decide +kernel), List.mem_of_getElem? (i := 506) (by decide +kernel), List.mem_of_getElem? (i := 507) (by decide +kernel)⟩
theorem lw_p13 : lw_okq (⟨"MixRounds", "staying", "(II)I"⟩, 7) := ⟨⟨by decide +kernel, by decide +kernel⟩, List.mem_of_getElem? (i := 12) (by decide +kernel), List.mem_of_getElem? (i := 512) (by decide +kernel), List.mem_of_getElem? (i := 513) (by decide +kernel)⟩
theorem lw_p14 : lw_okq (⟨"MixRoundsModel", "isFull", "()Z"⟩, 16) := ⟨⟨by decide +kernel, by decide +kernel⟩, List.mem_of_getElem? (i := 550) (by decide +kernel), List.mem_of_getElem? (i := 616) (by decide +kernel), List.mem_of_getElem? (i := 617) (by decide +kernel)⟩
theorem lw_p15 : lw_okq (⟨"MixRoundsModel", "standing", "()I"⟩, 16) := ⟨⟨by decide +kernel, by decide +kernel⟩, List.mem_of_getElem? (i := 550) (by decide +kernel), List.mem_of_getElem? (i := 620) (by decide +kernel), List.mem_of_getElem? (i := 621) (by decide +kernel)⟩
def lw_privs_1 : List (MethodName × Nat) := [(⟨"MixRounds$Book", "add", "(II)V"⟩, 13), (⟨"MixRounds$Book", "goRound", "(I)I"⟩, 13), (⟨"MixRounds$Book", "ownWaiting", "()I"⟩, 13), (⟨"MixRounds$Book", "letOut", "(I)V"⟩, 13), (⟨"MixRounds$Tape", "skipBlanks", "(I)I"⟩, 5), (⟨"MixRounds$Tape", "signAt", "(I)I"⟩, 5), (⟨"MixRounds$Tape", "senderAt", "(I)I"⟩, 5), (⟨"MixRounds$Tape", "figureAt", "(I)I"⟩, 5), (⟨"MixRounds", "play", "(I)Z"⟩, 7), (⟨"MixRounds", "tickIfHeard", "()Z"⟩, 7), (⟨"MixRounds", "takeIfRoom", "(II)Z"⟩, 7), (⟨"MixRounds", "driftOnce", "()V"⟩, 7), (⟨"MixRounds", "fitsPolicy", "(LMixRounds$Sheet;III)Z"⟩, 7), (⟨"MixRounds", "staying", "(II)I"⟩, 7), (⟨"MixRoundsModel", "isFull", "()Z"⟩, 16), (⟨"MixRoundsModel", "standing", "()I"⟩, 16)]
theorem lw_r1 : ∀ q ∈ lw_privs_1, lw_okq q := List.forall_mem_cons.mpr ⟨lw_p0, List.forall_mem_cons.mpr ⟨lw_p1, List.forall_mem_cons.mpr ⟨lw_p2, List.forall_mem_cons.mpr ⟨lw_p3, List.forall_mem_cons.mpr ⟨lw_p4, List.forall_mem_cons.mpr ⟨lw_p5, List.forall_mem_cons.mpr ⟨lw_p6, List.forall_mem_cons.mpr ⟨lw_p7, List.forall_mem_cons.mpr ⟨lw_p8, List.forall_mem_cons.mpr ⟨lw_p9, List.forall_mem_cons.mpr ⟨lw_p10, List.forall_mem_cons.mpr ⟨lw_p11, List.forall_mem_cons.mpr ⟨lw_p12, List.forall_mem_cons.mpr ⟨lw_p13, List.forall_mem_cons.mpr ⟨lw_p14, List.forall_mem_cons.mpr ⟨lw_p15, fun _ h => absurd h List.not_mem_nil⟩⟩⟩⟩⟩⟩⟩⟩⟩⟩⟩⟩⟩⟩⟩⟩
theorem lw_p16 : lw_okq (⟨"MixRoundsModel", "stands", "(I)Z"⟩, 16) := ⟨⟨by decide +kernel, by decide +kernel⟩, List.mem_of_getElem? (i := 550) (by decide +kernel), List.mem_of_getElem? (i := 624) (by decide +kernel), List.mem_of_getElem? (i := 625) (by decide +kernel)⟩
theorem lw_p17 : lw_okq (⟨"MixRoundsModel", "of", "(II)I"⟩, 16) := ⟨⟨by decide +kernel, by decide +kernel⟩, List.mem_of_getElem? (i := 550) (by decide +kernel), List.mem_of_getElem? (i := 628) (by decide +kernel), List.mem_of_getElem? (i := 629) (by decide +kernel)⟩
theorem lw_p18 : lw_okq (⟨"MixRoundsModel", "notes", "()V"⟩, 16) := ⟨⟨by decide +kernel, by decide +kernel⟩, List.mem_of_getElem? (i := 550) (by decide +kernel), List.mem_of_getElem? (i := 632) (by decide +kernel), List.mem_of_getElem? (i := 633) (by decide +kernel)⟩
theorem lw_p19 : lw_okq (⟨"MixRoundsModel", "comes", "(II)I"⟩, 16) := ⟨⟨by decide +kernel, by decide +kernel⟩, List.mem_of_getElem? (i := 550) (by decide +kernel), List.mem_of_getElem? (i := 636) (by decide +kernel), List.mem_of_getElem? (i := 637) (by decide +kernel)⟩
theorem lw_p20 : lw_okq (⟨"MixRoundsModel", "adds", "(II)V"⟩, 16) := ⟨⟨by decide +kernel, by decide +kernel⟩, List.mem_of_getElem? (i := 550) (by decide +kernel), List.mem_of_getElem? (i := 640) (by decide +kernel), List.mem_of_getElem? (i := 641) (by decide +kernel)⟩
theorem lw_p21 : lw_okq (⟨"MixRoundsModel", "begins", "(IZI)Z"⟩, 16) := ⟨⟨by decide +kernel, by decide +kernel⟩, List.mem_of_getElem? (i := 550) (by decide +kernel), List.mem_of_getElem? (i := 644) (by decide +kernel), List.mem_of_getElem? (i := 645) (by decide +kernel)⟩
theorem lw_p22 : lw_okq (⟨"MixRoundsModel", "goesRound", "()I"⟩, 16) := ⟨⟨by decide +kernel, by decide +kernel⟩, List.mem_of_getElem? (i := 550) (by decide +kernel), List.mem_of_getElem? (i := 648) (by decide +kernel), List.mem_of_getElem? (i := 649) (by decide +kernel)⟩
theorem lw_p23 : lw_okq (⟨"MixRoundsModel", "draws", "()I"⟩, 16) := ⟨⟨by decide +kernel, by decide +kernel⟩, List.mem_of_getElem? (i := 550) (by decide +kernel), List.mem_of_getElem? (i := 652) (by decide +kernel), List.mem_of_getElem? (i := 653) (by decide +kernel)⟩
theorem lw_p24 : lw_okq (⟨"MixRoundsModel", "share", "(II)I"⟩, 16) := ⟨⟨by decide +kernel, by decide +kernel⟩, List.mem_of_getElem? (i := 550) (by decide +kernel), List.mem_of_getElem? (i := 660) (by decide +kernel), List.mem_of_getElem? (i := 661) (by decide +kernel)⟩
theorem lw_p25 : lw_okq (⟨"MixRoundsModel", "standsAt", "(I)I"⟩, 16) := ⟨⟨by decide +kernel, by decide +kernel⟩, List.mem_of_getElem? (i := 550) (by decide +kernel), List.mem_of_getElem? (i := 664) (by decide +kernel), List.mem_of_getElem? (i := 665) (by decide +kernel)⟩
theorem lw_p26 : lw_okq (⟨"MixRoundsModel", "ticks", "()I"⟩, 16) := ⟨⟨by decide +kernel, by decide +kernel⟩, List.mem_of_getElem? (i := 550) (by decide +kernel), List.mem_of_getElem? (i := 672) (by decide +kernel), List.mem_of_getElem? (i := 673) (by decide +kernel)⟩
theorem lw_p27 : lw_okq (⟨"MixRoundsModel", "isLetter", "(I)Z"⟩, 16) := ⟨⟨by decide +kernel, by decide +kernel⟩, List.mem_of_getElem? (i := 550) (by decide +kernel), List.mem_of_getElem? (i := 694) (by decide +kernel), List.mem_of_getElem? (i := 695) (by decide +kernel)⟩
theorem lw_p28 : lw_okq (⟨"MixRoundsModel", "isRound", "(I)Z"⟩, 16) := ⟨⟨by decide +kernel, by decide +kernel⟩, List.mem_of_getElem? (i := 550) (by decide +kernel), List.mem_of_getElem? (i := 706) (by decide +kernel), List.mem_of_getElem? (i := 707) (by decide +kernel)⟩
theorem lw_p29 : lw_okq (⟨"MixRoundsModel", "roundOf", "(II)I"⟩, 16) := ⟨⟨by decide +kernel, by decide +kernel⟩, List.mem_of_getElem? (i := 550) (by decide +kernel), List.mem_of_getElem? (i := 711) (by decide +kernel), List.mem_of_getElem? (i := 712) (by decide +kernel)⟩
theorem lw_p30 : lw_okq (⟨"MixRoundsModel", "wasInside", "(II)Z"⟩, 16) := ⟨⟨by decide +kernel, by decide +kernel⟩, List.mem_of_getElem? (i := 550) (by decide +kernel), List.mem_of_getElem? (i := 715) (by decide +kernel), List.mem_of_getElem? (i := 716) (by decide +kernel)⟩
theorem lw_p31 : lw_okq (⟨"MixRoundsModel", "isOwn", "(I)Z"⟩, 16) := ⟨⟨by decide +kernel, by decide +kernel⟩, List.mem_of_getElem? (i := 550) (by decide +kernel), List.mem_of_getElem? (i := 719) (by decide +kernel), List.mem_of_getElem? (i := 720) (by decide +kernel)⟩
def lw_privs_2 : List (MethodName × Nat) := [(⟨"MixRoundsModel", "stands", "(I)Z"⟩, 16), (⟨"MixRoundsModel", "of", "(II)I"⟩, 16), (⟨"MixRoundsModel", "notes", "()V"⟩, 16), (⟨"MixRoundsModel", "comes", "(II)I"⟩, 16), (⟨"MixRoundsModel", "adds", "(II)V"⟩, 16), (⟨"MixRoundsModel", "begins", "(IZI)Z"⟩, 16), (⟨"MixRoundsModel", "goesRound", "()I"⟩, 16), (⟨"MixRoundsModel", "draws", "()I"⟩, 16), (⟨"MixRoundsModel", "share", "(II)I"⟩, 16), (⟨"MixRoundsModel", "standsAt", "(I)I"⟩, 16), (⟨"MixRoundsModel", "ticks", "()I"⟩, 16), (⟨"MixRoundsModel", "isLetter", "(I)Z"⟩, 16), (⟨"MixRoundsModel", "isRound", "(I)Z"⟩, 16), (⟨"MixRoundsModel", "roundOf", "(II)I"⟩, 16), (⟨"MixRoundsModel", "wasInside", "(II)Z"⟩, 16), (⟨"MixRoundsModel", "isOwn", "(I)Z"⟩, 16)]
theorem lw_r2 : ∀ q ∈ lw_privs_2, lw_okq q := List.forall_mem_cons.mpr ⟨lw_p16, List.forall_mem_cons.mpr ⟨lw_p17, List.forall_mem_cons.mpr ⟨lw_p18, List.forall_mem_cons.mpr ⟨lw_p19, List.forall_mem_cons.mpr ⟨lw_p20, List.forall_mem_cons.mpr ⟨lw_p21, List.forall_mem_cons.mpr ⟨lw_p22, List.forall_mem_cons.mpr ⟨lw_p23, List.forall_mem_cons.mpr ⟨lw_p24, List.forall_mem_cons.mpr ⟨lw_p25, List.forall_mem_cons.mpr ⟨lw_p26, List.forall_mem_cons.mpr ⟨lw_p27, List.forall_mem_cons.mpr ⟨lw_p28, List.forall_mem_cons.mpr ⟨lw_p29, List.forall_mem_cons.mpr ⟨lw_p30, List.forall_mem_cons.mpr ⟨lw_p31, fun _ h => absurd h List.not_mem_nil⟩⟩⟩⟩⟩⟩⟩⟩⟩⟩⟩⟩⟩⟩⟩⟩
theorem lw_p32 : lw_okq (⟨"MixRoundsModel", "letterOut", "(II)I"⟩, 16) := ⟨⟨by decide +kernel, by decide +kernel⟩, List.mem_of_getElem? (i := 550) (by decide +kernel), List.mem_of_getElem? (i := 727) (by decide +kernel), List.mem_of_getElem? (i := 728) (by decide +kernel)⟩
theorem lw_p33 : lw_okq (⟨"MixRoundsModel", "whole", "()J"⟩, 16) := ⟨⟨by decide +kernel, by decide +kernel⟩, List.mem_of_getElem? (i := 550) (by decide +kernel), List.mem_of_getElem? (i := 731) (by decide +kernel), List.mem_of_getElem? (i := 732) (by decide +kernel)⟩
theorem lw_p34 : lw_okq (⟨"MixRoundsModel", "chanceOf", "(JIII)J"⟩, 16) := ⟨⟨by decide +kernel, by decide +kernel⟩, List.mem_of_getElem? (i := 550) (by decide +kernel), List.mem_of_getElem? (i := 736) (by decide +kernel), List.mem_of_getElem? (i := 737) (by decide +kernel)⟩
theorem lw_p35 : lw_okq (⟨"MixRoundsModel", "leftOf", "(JII)J"⟩, 16) := ⟨⟨by decide +kernel, by decide +kernel⟩, List.mem_of_getElem? (i := 550) (by decide +kernel), List.mem_of_getElem? (i := 740) (by decide +kernel), List.mem_of_getElem? (i := 741) (by decide +kernel)⟩
theorem lw_p36 : lw_okq (⟨"MixRoundsModel", "senderOf", "(JIII)J"⟩, 16) := ⟨⟨by decide +kernel, by decide +kernel⟩, List.mem_of_getElem? (i := 550) (by decide +kernel), List.mem_of_getElem? (i := 760) (by decide +kernel), List.mem_of_getElem? (i := 761) (by decide +kernel)⟩
theorem lw_p37 : lw_okq (⟨"MixRoundsModel", "goesThrough", "(Z)Z"⟩, 16) := ⟨⟨by decide +kernel, by decide +kernel⟩, List.mem_of_getElem? (i := 550) (by decide +kernel), List.mem_of_getElem? (i := 787) (by decide +kernel), List.mem_of_getElem? (i := 788) (by decide +kernel)⟩
theorem lw_p38 : lw_okq (⟨"MixRoundsModel", "here", "()I"⟩, 16) := ⟨⟨by decide +kernel, by decide +kernel⟩, List.mem_of_getElem? (i := 550) (by decide +kernel), List.mem_of_getElem? (i := 791) (by decide +kernel), List.mem_of_getElem? (i := 792) (by decide +kernel)⟩
theorem lw_p39 : lw_okq (⟨"MixRoundsModel", "event", "()I"⟩, 16) := ⟨⟨by decide +kernel, by decide +kernel⟩, List.mem_of_getElem? (i := 550) (by decide +kernel), List.mem_of_getElem? (i := 795) (by decide +kernel), List.mem_of_getElem? (i := 796) (by decide +kernel)⟩
theorem lw_p40 : lw_okq (⟨"MixRoundsModel", "why", "(IIII)I"⟩, 16) := ⟨⟨by decide +kernel, by decide +kernel⟩, List.mem_of_getElem? (i := 550) (by decide +kernel), List.mem_of_getElem? (i := 837) (by decide +kernel), List.mem_of_getElem? (i := 838) (by decide +kernel)⟩
theorem lw_p41 : lw_okq (⟨"MixRoundsModel", "isSo", "(III)Z"⟩, 16) := ⟨⟨by decide +kernel, by decide +kernel⟩, List.mem_of_getElem? (i := 550) (by decide +kernel), List.mem_of_getElem? (i := 852) (by decide +kernel), List.mem_of_getElem? (i := 853) (by decide +kernel)⟩
def lw_privs_3 : List (MethodName × Nat) := [(⟨"MixRoundsModel", "letterOut", "(II)I"⟩, 16), (⟨"MixRoundsModel", "whole", "()J"⟩, 16), (⟨"MixRoundsModel", "chanceOf", "(JIII)J"⟩, 16), (⟨"MixRoundsModel", "leftOf", "(JII)J"⟩, 16), (⟨"MixRoundsModel", "senderOf", "(JIII)J"⟩, 16), (⟨"MixRoundsModel", "goesThrough", "(Z)Z"⟩, 16), (⟨"MixRoundsModel", "here", "()I"⟩, 16), (⟨"MixRoundsModel", "event", "()I"⟩, 16), (⟨"MixRoundsModel", "why", "(IIII)I"⟩, 16), (⟨"MixRoundsModel", "isSo", "(III)Z"⟩, 16)]
theorem lw_r3 : ∀ q ∈ lw_privs_3, lw_okq q := List.forall_mem_cons.mpr ⟨lw_p32, List.forall_mem_cons.mpr ⟨lw_p33, List.forall_mem_cons.mpr ⟨lw_p34, List.forall_mem_cons.mpr ⟨lw_p35, List.forall_mem_cons.mpr ⟨lw_p36, List.forall_mem_cons.mpr ⟨lw_p37, List.forall_mem_cons.mpr ⟨lw_p38, List.forall_mem_cons.mpr ⟨lw_p39, List.forall_mem_cons.mpr ⟨lw_p40, List.forall_mem_cons.mpr ⟨lw_p41, fun _ h => absurd h List.not_mem_nil⟩⟩⟩⟩⟩⟩⟩⟩⟩⟩
def lw_privs : List (MethodName × Nat) := lw_privs_1 ++ (lw_privs_2 ++ (lw_privs_3))
def lw_tbl : List Cond := k2_sels lw_privs ++ tables_1
theorem lw_privs_ok : ∀ q ∈ lw_privs, lw_okq q := by
  show ∀ q ∈ lw_privs_1 ++ (lw_privs_2 ++ (lw_privs_3)), lw_okq q
  exact List.forall_mem_append.mpr ⟨lw_r1, List.forall_mem_append.mpr ⟨lw_r2, lw_r3⟩⟩
end
section
def RX0 : String := "MixRounds$Book"
def TX0 : u_T := fun k => match k with
  | 0 => ("MixRounds$Book", "told", "[I", true)
  | 1 => ("MixRounds$Book", "draw", "I", false)
  | 2 => ("MixRounds$Book", "letters", "I", false)
  | 3 => ("MixRounds$Book", "senders", "[I", true)
  | 4 => ("MixRounds$Book", "receivers", "[I", true)
  | 5 => ("MixRounds$Book", "firsts", "[I", true)
  | 6 => ("MixRounds$Book", "wentRounds", "[I", true)
  | 7 => ("MixRounds$Book", "wentPlaces", "[I", true)
  | 8 => ("MixRounds$Book", "waiting", "I", false)
  | 9 => ("MixRounds$Book", "waiters", "[I", true)
  | 10 => ("MixRounds$Book", "rounds", "I", false)
  | 11 => ("MixRounds$Book", "facts", "[I", true)
  | _ => ("MixRounds$Book", "outs", "[I", true)
def tyX0 : Nat → FieldType := fun k => match k with
  | 0 => .array .int
  | 1 => .int
  | 2 => .int
  | 3 => .array .int
  | 4 => .array .int
  | 5 => .array .int
  | 6 => .array .int
  | 7 => .array .int
  | 8 => .int
  | 9 => .array .int
  | 10 => .int
  | 11 => .array .int
  | _ => .array .int
abbrev wsX00 : List Cond := u_ws RX0 TX0 13
theorem nmX0 : ∀ a, a < 13 → ∀ b, b < 13 → a ≠ b → (TX0 a).2.1 ≠ (TX0 b).2.1 := by decide +kernel
theorem tyX0_ok : ∀ k, k < 13 → parseFieldDescriptor (TX0 k).2.2.1 = some (tyX0 k) := by decide +kernel
abbrev cX0_init : ByteArray := prog_2_method_1_code
def yX0_init : MethodName := ⟨RX0, "<init>", "()V"⟩
abbrev cX0_become : ByteArray := prog_2_method_2_code
def yX0_become : MethodName := ⟨RX0, "become", "(LMixRounds$Book;)V"⟩
abbrev cX0_clear : ByteArray := prog_2_method_3_code
def yX0_clear : MethodName := ⟨RX0, "clear", "()V"⟩
abbrev cX0_isFull : ByteArray := prog_2_method_4_code
def yX0_isFull : MethodName := ⟨RX0, "isFull", "()Z"⟩
abbrev cX0_takesLetter : ByteArray := prog_2_method_5_code
def yX0_takesLetter : MethodName := ⟨RX0, "takesLetter", "()Z"⟩
abbrev cX0_hasLetter : ByteArray := prog_2_method_6_code
def yX0_hasLetter : MethodName := ⟨RX0, "hasLetter", "(I)Z"⟩
abbrev cX0_hasRound : ByteArray := prog_2_method_7_code
def yX0_hasRound : MethodName := ⟨RX0, "hasRound", "(I)Z"⟩
abbrev cX0_hasOut : ByteArray := prog_2_method_8_code
def yX0_hasOut : MethodName := ⟨RX0, "hasOut", "(II)Z"⟩
abbrev cX0_fact : ByteArray := prog_2_method_9_code
def yX0_fact : MethodName := ⟨RX0, "fact", "(II)I"⟩
abbrev cX0_outLetter : ByteArray := prog_2_method_10_code
def yX0_outLetter : MethodName := ⟨RX0, "outLetter", "(II)I"⟩
abbrev cX0_isOwnOut : ByteArray := prog_2_method_11_code
def yX0_isOwnOut : MethodName := ⟨RX0, "isOwnOut", "(II)Z"⟩
abbrev cX0_senderOf : ByteArray := prog_2_method_12_code
def yX0_senderOf : MethodName := ⟨RX0, "senderOf", "(I)I"⟩
abbrev cX0_receiverOf : ByteArray := prog_2_method_13_code
def yX0_receiverOf : MethodName := ⟨RX0, "receiverOf", "(I)I"⟩
abbrev cX0_firstOf : ByteArray := prog_2_method_14_code
def yX0_firstOf : MethodName := ⟨RX0, "firstOf", "(I)I"⟩
abbrev cX0_nextDraw : ByteArray := prog_2_method_15_code
def yX0_nextDraw : MethodName := ⟨RX0, "nextDraw", "()I"⟩
abbrev cX0_takeLetter : ByteArray := prog_2_method_16_code
def yX0_takeLetter : MethodName := ⟨RX0, "takeLetter", "(II)I"⟩
abbrev cX0_hearTick : ByteArray := prog_2_method_17_code
def yX0_hearTick : MethodName := ⟨RX0, "hearTick", "()I"⟩
abbrev cX0_leaving : ByteArray := prog_2_method_18_code
def yX0_leaving : MethodName := ⟨RX0, "leaving", "(I[IIZ)I"⟩
abbrev cX0_add : ByteArray := prog_2_method_19_code
def yX0_add : MethodName := ⟨RX0, "add", "(II)V"⟩
abbrev cX0_goRound : ByteArray := prog_2_method_20_code
def yX0_goRound : MethodName := ⟨RX0, "goRound", "(I)I"⟩
abbrev cX0_ownWaiting : ByteArray := prog_2_method_21_code
def yX0_ownWaiting : MethodName := ⟨RX0, "ownWaiting", "()I"⟩
abbrev cX0_letOut : ByteArray := prog_2_method_22_code
def yX0_letOut : MethodName := ⟨RX0, "letOut", "(I)V"⟩
def RX1 : String := "MixRounds$Past"
def TX1 : u_T := fun k => match k with
  | 0 => ("MixRounds$Past", "books", "[LMixRounds$Book;", true)
  | 1 => ("MixRounds$Past", "oldest", "I", false)
  | _ => ("MixRounds$Past", "known", "I", false)
def tyX1 : Nat → FieldType := fun k => match k with
  | 0 => .array (.object "MixRounds$Book")
  | 1 => .int
  | _ => .int
abbrev wsX10 : List Cond := u_ws RX1 TX1 3
theorem nmX1 : ∀ a, a < 3 → ∀ b, b < 3 → a ≠ b → (TX1 a).2.1 ≠ (TX1 b).2.1 := by decide +kernel
theorem tyX1_ok : ∀ k, k < 3 → parseFieldDescriptor (TX1 k).2.2.1 = some (tyX1 k) := by decide +kernel
abbrev cX1_init : ByteArray := prog_3_method_1_code
def yX1_init : MethodName := ⟨RX1, "<init>", "()V"⟩
abbrev cX1_remember : ByteArray := prog_3_method_2_code
def yX1_remember : MethodName := ⟨RX1, "remember", "(LMixRounds$Book;)V"⟩
abbrev cX1_bringBack : ByteArray := prog_3_method_3_code
def yX1_bringBack : MethodName := ⟨RX1, "bringBack", "(LMixRounds$Book;)V"⟩
abbrev cX1_become : ByteArray := prog_3_method_4_code
def yX1_become : MethodName := ⟨RX1, "become", "(LMixRounds$Past;)V"⟩
def RX2 : String := "MixRounds$Sheet"
def TX2 : u_T := fun k => match k with
  | 0 => ("MixRounds$Sheet", "lane", "I", false)
  | 1 => ("MixRounds$Sheet", "size", "I", false)
  | _ => ("MixRounds$Sheet", "items", "[J", true)
def tyX2 : Nat → FieldType := fun k => match k with
  | 0 => .int
  | 1 => .int
  | _ => .array .long
abbrev wsX20 : List Cond := u_ws RX2 TX2 3
theorem nmX2 : ∀ a, a < 3 → ∀ b, b < 3 → a ≠ b → (TX2 a).2.1 ≠ (TX2 b).2.1 := by decide +kernel
theorem tyX2_ok : ∀ k, k < 3 → parseFieldDescriptor (TX2 k).2.2.1 = some (tyX2 k) := by decide +kernel
abbrev cX2_init : ByteArray := prog_4_method_1_code
def yX2_init : MethodName := ⟨RX2, "<init>", "()V"⟩
abbrev cX2_isMissing : ByteArray := prog_4_method_2_code
def yX2_isMissing : MethodName := ⟨RX2, "isMissing", "()Z"⟩
abbrev cX2_renew : ByteArray := prog_4_method_3_code
def yX2_renew : MethodName := ⟨RX2, "renew", "(II)V"⟩
abbrev cX2_holds : ByteArray := prog_4_method_4_code
def yX2_holds : MethodName := ⟨RX2, "holds", "(II)Z"⟩
abbrev cX2_fault : ByteArray := prog_4_method_5_code
def yX2_fault : MethodName := ⟨RX2, "fault", "(III)I"⟩
abbrev cX2_tellsPairs : ByteArray := prog_4_method_6_code
def yX2_tellsPairs : MethodName := ⟨RX2, "tellsPairs", "(II)Z"⟩
abbrev cX2_at : ByteArray := prog_4_method_7_code
def yX2_at : MethodName := ⟨RX2, "at", "(I)J"⟩
abbrev cX2_put : ByteArray := prog_4_method_8_code
def yX2_put : MethodName := ⟨RX2, "put", "(IJ)V"⟩
def RX3 : String := "MixRounds$Tape"
def TX3 : u_T := fun k => match k with
  | 0 => ("MixRounds$Tape", "signs", "[I", true)
  | 1 => ("MixRounds$Tape", "length", "I", false)
  | 2 => ("MixRounds$Tape", "eventSenders", "[I", true)
  | 3 => ("MixRounds$Tape", "eventReceivers", "[I", true)
  | _ => ("MixRounds$Tape", "events", "I", false)
def tyX3 : Nat → FieldType := fun k => match k with
  | 0 => .array .int
  | 1 => .int
  | 2 => .array .int
  | 3 => .array .int
  | _ => .int
abbrev wsX30 : List Cond := u_ws RX3 TX3 5
theorem nmX3 : ∀ a, a < 5 → ∀ b, b < 5 → a ≠ b → (TX3 a).2.1 ≠ (TX3 b).2.1 := by decide +kernel
theorem tyX3_ok : ∀ k, k < 5 → parseFieldDescriptor (TX3 k).2.2.1 = some (tyX3 k) := by decide +kernel
abbrev cX3_init : ByteArray := prog_5_method_1_code
def yX3_init : MethodName := ⟨RX3, "<init>", "()V"⟩
abbrev cX3_add : ByteArray := prog_5_method_2_code
def yX3_add : MethodName := ⟨RX3, "add", "(I)V"⟩
abbrev cX3_parse : ByteArray := prog_5_method_3_code
def yX3_parse : MethodName := ⟨RX3, "parse", "()I"⟩
abbrev cX3_skipBlanks : ByteArray := prog_5_method_4_code
def yX3_skipBlanks : MethodName := ⟨RX3, "skipBlanks", "(I)I"⟩
abbrev cX3_signAt : ByteArray := prog_5_method_5_code
def yX3_signAt : MethodName := ⟨RX3, "signAt", "(I)I"⟩
abbrev cX3_senderAt : ByteArray := prog_5_method_6_code
def yX3_senderAt : MethodName := ⟨RX3, "senderAt", "(I)I"⟩
abbrev cX3_figureAt : ByteArray := prog_5_method_7_code
def yX3_figureAt : MethodName := ⟨RX3, "figureAt", "(I)I"⟩
def RX4 : String := "MixRounds$Watcher"
def TX4 : u_T := fun k => match k with
  | _ => ("", "", "", false)
def tyX4 : Nat → FieldType := fun k => match k with
  | _ => .int
abbrev wsX40 : List Cond := u_ws RX4 TX4 0
theorem nmX4 : ∀ a, a < 0 → ∀ b, b < 0 → a ≠ b → (TX4 a).2.1 ≠ (TX4 b).2.1 := by decide +kernel
theorem tyX4_ok : ∀ k, k < 0 → parseFieldDescriptor (TX4 k).2.2.1 = some (tyX4 k) := by decide +kernel
abbrev cX4_share : ByteArray := prog_6_method_2_code
def yX4_share : MethodName := ⟨RX4, "share", "(LMixRounds$Book;I)J"⟩
abbrev cX4_kept : ByteArray := prog_6_method_3_code
def yX4_kept : MethodName := ⟨RX4, "kept", "(LMixRounds$Book;I)J"⟩
abbrev cX4_whole : ByteArray := prog_6_method_4_code
def yX4_whole : MethodName := ⟨RX4, "whole", "(LMixRounds$Book;II)J"⟩
abbrev cX4_left : ByteArray := prog_6_method_5_code
def yX4_left : MethodName := ⟨RX4, "left", "(LMixRounds$Book;II)J"⟩
abbrev cX4_weight : ByteArray := prog_6_method_6_code
def yX4_weight : MethodName := ⟨RX4, "weight", "(LMixRounds$Book;II)J"⟩
abbrev cX4_senderWeight : ByteArray := prog_6_method_7_code
def yX4_senderWeight : MethodName := ⟨RX4, "senderWeight", "(LMixRounds$Book;II)J"⟩
abbrev cX4_expectedWeight : ByteArray := prog_6_method_8_code
def yX4_expectedWeight : MethodName := ⟨RX4, "expectedWeight", "(LMixRounds$Book;II)J"⟩
abbrev cX4_fresh : ByteArray := prog_6_method_9_code
def yX4_fresh : MethodName := ⟨RX4, "fresh", "(LMixRounds$Book;II)I"⟩
abbrev cX4_outsTo : ByteArray := prog_6_method_10_code
def yX4_outsTo : MethodName := ⟨RX4, "outsTo", "(LMixRounds$Book;IIZ)I"⟩
abbrev cX4_possible : ByteArray := prog_6_method_11_code
def yX4_possible : MethodName := ⟨RX4, "possible", "(LMixRounds$Book;II)I"⟩
abbrev cX4_likeliest : ByteArray := prog_6_method_12_code
def yX4_likeliest : MethodName := ⟨RX4, "likeliest", "(LMixRounds$Book;II)I"⟩
def RX5 : String := "MixRounds"
def TX5 : u_T := fun k => match k with
  | 0 => ("MixRounds", "book", "LMixRounds$Book;", true)
  | 1 => ("MixRounds", "past", "LMixRounds$Past;", true)
  | 2 => ("MixRounds", "imageBook", "LMixRounds$Book;", true)
  | 3 => ("MixRounds", "imagePast", "LMixRounds$Past;", true)
  | 4 => ("MixRounds", "imaged", "Z", false)
  | 5 => ("MixRounds", "tape", "LMixRounds$Tape;", true)
  | _ => ("MixRounds", "sheets", "[LMixRounds$Sheet;", true)
def tyX5 : Nat → FieldType := fun k => match k with
  | 0 => .object "MixRounds$Book"
  | 1 => .object "MixRounds$Past"
  | 2 => .object "MixRounds$Book"
  | 3 => .object "MixRounds$Past"
  | 4 => .boolean
  | 5 => .object "MixRounds$Tape"
  | _ => .array (.object "MixRounds$Sheet")
abbrev wsX50 : List Cond := u_ws RX5 TX5 7
theorem nmX5 : ∀ a, a < 7 → ∀ b, b < 7 → a ≠ b → (TX5 a).2.1 ≠ (TX5 b).2.1 := by decide +kernel
theorem tyX5_ok : ∀ k, k < 7 → parseFieldDescriptor (TX5 k).2.2.1 = some (tyX5 k) := by decide +kernel
abbrev cX5_init : ByteArray := prog_1_method_1_code
def yX5_init : MethodName := ⟨RX5, "<init>", "()V"⟩
abbrev cX5_come : ByteArray := prog_1_method_2_code
def yX5_come : MethodName := ⟨RX5, "come", "(II)I"⟩
abbrev cX5_tick : ByteArray := prog_1_method_3_code
def yX5_tick : MethodName := ⟨RX5, "tick", "()I"⟩
abbrev cX5_tell : ByteArray := prog_1_method_4_code
def yX5_tell : MethodName := ⟨RX5, "tell", "(II)I"⟩
abbrev cX5_begin : ByteArray := prog_1_method_5_code
def yX5_begin : MethodName := ⟨RX5, "begin", "()I"⟩
abbrev cX5_letter : ByteArray := prog_1_method_6_code
def yX5_letter : MethodName := ⟨RX5, "letter", "(II)I"⟩
abbrev cX5_inside : ByteArray := prog_1_method_7_code
def yX5_inside : MethodName := ⟨RX5, "inside", "(I)I"⟩
abbrev cX5_round : ByteArray := prog_1_method_8_code
def yX5_round : MethodName := ⟨RX5, "round", "(II)I"⟩
abbrev cX5_out : ByteArray := prog_1_method_9_code
def yX5_out : MethodName := ⟨RX5, "out", "(III)I"⟩
abbrev cX5_count : ByteArray := prog_1_method_10_code
def yX5_count : MethodName := ⟨RX5, "count", "(I)I"⟩
abbrev cX5_chance : ByteArray := prog_1_method_11_code
def yX5_chance : MethodName := ⟨RX5, "chance", "(IIII)J"⟩
abbrev cX5_sender : ByteArray := prog_1_method_12_code
def yX5_sender : MethodName := ⟨RX5, "sender", "(IIII)J"⟩
abbrev cX5_stays : ByteArray := prog_1_method_13_code
def yX5_stays : MethodName := ⟨RX5, "stays", "(II)J"⟩
abbrev cX5_expected : ByteArray := prog_1_method_14_code
def yX5_expected : MethodName := ⟨RX5, "expected", "(III)J"⟩
abbrev cX5_blend : ByteArray := prog_1_method_15_code
def yX5_blend : MethodName := ⟨RX5, "blend", "()I"⟩
abbrev cX5_type : ByteArray := prog_1_method_16_code
def yX5_type : MethodName := ⟨RX5, "type", "(I)I"⟩
abbrev cX5_read : ByteArray := prog_1_method_17_code
def yX5_read : MethodName := ⟨RX5, "read", "()I"⟩
abbrev cX5_drift : ByteArray := prog_1_method_18_code
def yX5_drift : MethodName := ⟨RX5, "drift", "(I)I"⟩
abbrev cX5_undo : ByteArray := prog_1_method_19_code
def yX5_undo : MethodName := ⟨RX5, "undo", "()I"⟩
abbrev cX5_seed : ByteArray := prog_1_method_20_code
def yX5_seed : MethodName := ⟨RX5, "seed", "(I)I"⟩
abbrev cX5_image : ByteArray := prog_1_method_21_code
def yX5_image : MethodName := ⟨RX5, "image", "()I"⟩
abbrev cX5_restore : ByteArray := prog_1_method_22_code
def yX5_restore : MethodName := ⟨RX5, "restore", "()I"⟩
abbrev cX5_fits : ByteArray := prog_1_method_23_code
def yX5_fits : MethodName := ⟨RX5, "fits", "(IIII)I"⟩
abbrev cX5_film : ByteArray := prog_1_method_24_code
def yX5_film : MethodName := ⟨RX5, "film", "(IIII)I"⟩
abbrev cX5_sheet : ByteArray := prog_1_method_25_code
def yX5_sheet : MethodName := ⟨RX5, "sheet", "(III)I"⟩
abbrev cX5_drop : ByteArray := prog_1_method_26_code
def yX5_drop : MethodName := ⟨RX5, "drop", "(I)I"⟩
abbrev cX5_item : ByteArray := prog_1_method_27_code
def yX5_item : MethodName := ⟨RX5, "item", "(IIIJ)I"⟩
abbrev cX5_copy : ByteArray := prog_1_method_28_code
def yX5_copy : MethodName := ⟨RX5, "copy", "(IIIII)I"⟩
abbrev cX5_within : ByteArray := prog_1_method_29_code
def yX5_within : MethodName := ⟨RX5, "within", "(III)Z"⟩
abbrev cX5_isPart : ByteArray := prog_1_method_30_code
def yX5_isPart : MethodName := ⟨RX5, "isPart", "(I)Z"⟩
abbrev cX5_isSheet : ByteArray := prog_1_method_31_code
def yX5_isSheet : MethodName := ⟨RX5, "isSheet", "(I)Z"⟩
abbrev cX5_isLane : ByteArray := prog_1_method_32_code
def yX5_isLane : MethodName := ⟨RX5, "isLane", "(I)Z"⟩
abbrev cX5_lowest : ByteArray := prog_1_method_33_code
def yX5_lowest : MethodName := ⟨RX5, "lowest", "(JJI)J"⟩
abbrev cX5_greatestDivisor : ByteArray := prog_1_method_34_code
def yX5_greatestDivisor : MethodName := ⟨RX5, "greatestDivisor", "(JJ)J"⟩
abbrev cX5_play : ByteArray := prog_1_method_35_code
def yX5_play : MethodName := ⟨RX5, "play", "(I)Z"⟩
abbrev cX5_tickIfHeard : ByteArray := prog_1_method_36_code
def yX5_tickIfHeard : MethodName := ⟨RX5, "tickIfHeard", "()Z"⟩
abbrev cX5_takeIfRoom : ByteArray := prog_1_method_37_code
def yX5_takeIfRoom : MethodName := ⟨RX5, "takeIfRoom", "(II)Z"⟩
abbrev cX5_driftOnce : ByteArray := prog_1_method_38_code
def yX5_driftOnce : MethodName := ⟨RX5, "driftOnce", "()V"⟩
abbrev cX5_fitsPolicy : ByteArray := prog_1_method_39_code
def yX5_fitsPolicy : MethodName := ⟨RX5, "fitsPolicy", "(LMixRounds$Sheet;III)Z"⟩
abbrev cX5_staying : ByteArray := prog_1_method_40_code
def yX5_staying : MethodName := ⟨RX5, "staying", "(II)I"⟩
def RX6 : String := "MixRoundsModel"
def TX6 : u_T := fun k => match k with
  | 0 => ("MixRoundsModel", "now", "[I", true)
  | 1 => ("MixRoundsModel", "had", "[I", true)
  | 2 => ("MixRoundsModel", "lost", "[I", true)
  | 3 => ("MixRoundsModel", "tape", "[I", true)
  | 4 => ("MixRoundsModel", "taped", "I", false)
  | 5 => ("MixRoundsModel", "place", "I", false)
  | 6 => ("MixRoundsModel", "events", "I", false)
  | 7 => ("MixRoundsModel", "ahead", "[I", true)
  | 8 => ("MixRoundsModel", "undos", "I", false)
  | 9 => ("MixRoundsModel", "kept", "[I", true)
  | 10 => ("MixRoundsModel", "keptAhead", "[I", true)
  | 11 => ("MixRoundsModel", "keptUndos", "I", false)
  | 12 => ("MixRoundsModel", "lanes", "[I", true)
  | 13 => ("MixRoundsModel", "sizes", "[I", true)
  | 14 => ("MixRoundsModel", "items", "[J", true)
  | _ => ("MixRoundsModel", "moved", "[J", true)
def tyX6 : Nat → FieldType := fun k => match k with
  | 0 => .array .int
  | 1 => .array .int
  | 2 => .array .int
  | 3 => .array .int
  | 4 => .int
  | 5 => .int
  | 6 => .int
  | 7 => .array .int
  | 8 => .int
  | 9 => .array .int
  | 10 => .array .int
  | 11 => .int
  | 12 => .array .int
  | 13 => .array .int
  | 14 => .array .long
  | _ => .array .long
abbrev wsX60 : List Cond := u_ws RX6 TX6 16
theorem nmX6 : ∀ a, a < 16 → ∀ b, b < 16 → a ≠ b → (TX6 a).2.1 ≠ (TX6 b).2.1 := by decide +kernel
theorem tyX6_ok : ∀ k, k < 16 → parseFieldDescriptor (TX6 k).2.2.1 = some (tyX6 k) := by decide +kernel
abbrev cX6_in : ByteArray := prog_8_method_2_code
def yX6_in : MethodName := ⟨RX6, "in", "(JJJ)Z"⟩
abbrev cX6_init : ByteArray := prog_8_method_3_code
def yX6_init : MethodName := ⟨RX6, "<init>", "()V"⟩
abbrev cX6_of : ByteArray := prog_8_method_4_code
def yX6_of : MethodName := ⟨RX6, "of", "(II)I"⟩
abbrev cX6_isLetter : ByteArray := prog_8_method_5_code
def yX6_isLetter : MethodName := ⟨RX6, "isLetter", "(I)Z"⟩
abbrev cX6_isRound : ByteArray := prog_8_method_6_code
def yX6_isRound : MethodName := ⟨RX6, "isRound", "(I)Z"⟩
abbrev cX6_stands : ByteArray := prog_8_method_7_code
def yX6_stands : MethodName := ⟨RX6, "stands", "(I)Z"⟩
abbrev cX6_isOwn : ByteArray := prog_8_method_8_code
def yX6_isOwn : MethodName := ⟨RX6, "isOwn", "(I)Z"⟩
abbrev cX6_standing : ByteArray := prog_8_method_9_code
def yX6_standing : MethodName := ⟨RX6, "standing", "()I"⟩
abbrev cX6_standsAt : ByteArray := prog_8_method_10_code
def yX6_standsAt : MethodName := ⟨RX6, "standsAt", "(I)I"⟩
abbrev cX6_draws : ByteArray := prog_8_method_11_code
def yX6_draws : MethodName := ⟨RX6, "draws", "()I"⟩
abbrev cX6_adds : ByteArray := prog_8_method_12_code
def yX6_adds : MethodName := ⟨RX6, "adds", "(II)V"⟩
abbrev cX6_share : ByteArray := prog_8_method_13_code
def yX6_share : MethodName := ⟨RX6, "share", "(II)I"⟩
abbrev cX6_goesRound : ByteArray := prog_8_method_14_code
def yX6_goesRound : MethodName := ⟨RX6, "goesRound", "()I"⟩
abbrev cX6_isFull : ByteArray := prog_8_method_15_code
def yX6_isFull : MethodName := ⟨RX6, "isFull", "()Z"⟩
abbrev cX6_begins : ByteArray := prog_8_method_16_code
def yX6_begins : MethodName := ⟨RX6, "begins", "(IZI)Z"⟩
abbrev cX6_comes : ByteArray := prog_8_method_17_code
def yX6_comes : MethodName := ⟨RX6, "comes", "(II)I"⟩
abbrev cX6_ticks : ByteArray := prog_8_method_18_code
def yX6_ticks : MethodName := ⟨RX6, "ticks", "()I"⟩
abbrev cX6_isSender : ByteArray := prog_8_method_19_code
def yX6_isSender : MethodName := ⟨RX6, "isSender", "(I)Z"⟩
abbrev cX6_come : ByteArray := prog_8_method_20_code
def yX6_come : MethodName := ⟨RX6, "come", "(II)I"⟩
abbrev cX6_tick : ByteArray := prog_8_method_21_code
def yX6_tick : MethodName := ⟨RX6, "tick", "()I"⟩
abbrev cX6_isTold : ByteArray := prog_8_method_22_code
def yX6_isTold : MethodName := ⟨RX6, "isTold", "(II)Z"⟩
abbrev cX6_tell : ByteArray := prog_8_method_23_code
def yX6_tell : MethodName := ⟨RX6, "tell", "(II)I"⟩
abbrev cX6_begin : ByteArray := prog_8_method_24_code
def yX6_begin : MethodName := ⟨RX6, "begin", "()I"⟩
abbrev cX6_letter : ByteArray := prog_8_method_25_code
def yX6_letter : MethodName := ⟨RX6, "letter", "(II)I"⟩
abbrev cX6_inside : ByteArray := prog_8_method_26_code
def yX6_inside : MethodName := ⟨RX6, "inside", "(I)I"⟩
abbrev cX6_wasInside : ByteArray := prog_8_method_27_code
def yX6_wasInside : MethodName := ⟨RX6, "wasInside", "(II)Z"⟩
abbrev cX6_roundOf : ByteArray := prog_8_method_28_code
def yX6_roundOf : MethodName := ⟨RX6, "roundOf", "(II)I"⟩
abbrev cX6_round : ByteArray := prog_8_method_29_code
def yX6_round : MethodName := ⟨RX6, "round", "(II)I"⟩
abbrev cX6_letterOut : ByteArray := prog_8_method_30_code
def yX6_letterOut : MethodName := ⟨RX6, "letterOut", "(II)I"⟩
abbrev cX6_whole : ByteArray := prog_8_method_31_code
def yX6_whole : MethodName := ⟨RX6, "whole", "()J"⟩
abbrev cX6_leftOf : ByteArray := prog_8_method_32_code
def yX6_leftOf : MethodName := ⟨RX6, "leftOf", "(JII)J"⟩
abbrev cX6_chanceOf : ByteArray := prog_8_method_33_code
def yX6_chanceOf : MethodName := ⟨RX6, "chanceOf", "(JIII)J"⟩
abbrev cX6_senderOf : ByteArray := prog_8_method_34_code
def yX6_senderOf : MethodName := ⟨RX6, "senderOf", "(JIII)J"⟩
abbrev cX6_fraction : ByteArray := prog_8_method_35_code
def yX6_fraction : MethodName := ⟨RX6, "fraction", "(JJI)J"⟩
abbrev cX6_out : ByteArray := prog_8_method_36_code
def yX6_out : MethodName := ⟨RX6, "out", "(III)I"⟩
abbrev cX6_count : ByteArray := prog_8_method_37_code
def yX6_count : MethodName := ⟨RX6, "count", "(I)I"⟩
abbrev cX6_chance : ByteArray := prog_8_method_38_code
def yX6_chance : MethodName := ⟨RX6, "chance", "(IIII)J"⟩
abbrev cX6_sender : ByteArray := prog_8_method_39_code
def yX6_sender : MethodName := ⟨RX6, "sender", "(IIII)J"⟩
abbrev cX6_stays : ByteArray := prog_8_method_40_code
def yX6_stays : MethodName := ⟨RX6, "stays", "(II)J"⟩
abbrev cX6_expected : ByteArray := prog_8_method_41_code
def yX6_expected : MethodName := ⟨RX6, "expected", "(III)J"⟩
abbrev cX6_blend : ByteArray := prog_8_method_42_code
def yX6_blend : MethodName := ⟨RX6, "blend", "()I"⟩
abbrev cX6_type : ByteArray := prog_8_method_43_code
def yX6_type : MethodName := ⟨RX6, "type", "(I)I"⟩
abbrev cX6_here : ByteArray := prog_8_method_44_code
def yX6_here : MethodName := ⟨RX6, "here", "()I"⟩
abbrev cX6_event : ByteArray := prog_8_method_45_code
def yX6_event : MethodName := ⟨RX6, "event", "()I"⟩
abbrev cX6_goesThrough : ByteArray := prog_8_method_46_code
def yX6_goesThrough : MethodName := ⟨RX6, "goesThrough", "(Z)Z"⟩
abbrev cX6_read : ByteArray := prog_8_method_47_code
def yX6_read : MethodName := ⟨RX6, "read", "()I"⟩
abbrev cX6_drift : ByteArray := prog_8_method_48_code
def yX6_drift : MethodName := ⟨RX6, "drift", "(I)I"⟩
abbrev cX6_seed : ByteArray := prog_8_method_49_code
def yX6_seed : MethodName := ⟨RX6, "seed", "(I)I"⟩
abbrev cX6_notes : ByteArray := prog_8_method_50_code
def yX6_notes : MethodName := ⟨RX6, "notes", "()V"⟩
abbrev cX6_undo : ByteArray := prog_8_method_51_code
def yX6_undo : MethodName := ⟨RX6, "undo", "()I"⟩
abbrev cX6_image : ByteArray := prog_8_method_52_code
def yX6_image : MethodName := ⟨RX6, "image", "()I"⟩
abbrev cX6_restore : ByteArray := prog_8_method_53_code
def yX6_restore : MethodName := ⟨RX6, "restore", "()I"⟩
abbrev cX6_isSheet : ByteArray := prog_8_method_54_code
def yX6_isSheet : MethodName := ⟨RX6, "isSheet", "(I)Z"⟩
abbrev cX6_cut : ByteArray := prog_8_method_55_code
def yX6_cut : MethodName := ⟨RX6, "cut", "(JI)J"⟩
abbrev cX6_sheet : ByteArray := prog_8_method_56_code
def yX6_sheet : MethodName := ⟨RX6, "sheet", "(III)I"⟩
abbrev cX6_drop : ByteArray := prog_8_method_57_code
def yX6_drop : MethodName := ⟨RX6, "drop", "(I)I"⟩
abbrev cX6_why : ByteArray := prog_8_method_58_code
def yX6_why : MethodName := ⟨RX6, "why", "(IIII)I"⟩
abbrev cX6_item : ByteArray := prog_8_method_59_code
def yX6_item : MethodName := ⟨RX6, "item", "(IIIJ)I"⟩
abbrev cX6_copy : ByteArray := prog_8_method_60_code
def yX6_copy : MethodName := ⟨RX6, "copy", "(IIIII)I"⟩
abbrev cX6_isSo : ByteArray := prog_8_method_61_code
def yX6_isSo : MethodName := ⟨RX6, "isSo", "(III)Z"⟩
abbrev cX6_fits : ByteArray := prog_8_method_62_code
def yX6_fits : MethodName := ⟨RX6, "fits", "(IIII)I"⟩
abbrev cX6_film : ByteArray := prog_8_method_63_code
def yX6_film : MethodName := ⟨RX6, "film", "(IIII)I"⟩
def RJx8e188 : String := "java/lang/Cloneable"
def TJx8e188 : u_T := fun k => match k with
  | _ => ("", "", "", false)
def tyJx8e188 : Nat → FieldType := fun k => match k with
  | _ => .int
abbrev wsJx8e1880 : List Cond := u_ws RJx8e188 TJx8e188 0
theorem nmJx8e188 : ∀ a, a < 0 → ∀ b, b < 0 → a ≠ b → (TJx8e188 a).2.1 ≠ (TJx8e188 b).2.1 := by decide +kernel
theorem tyJx8e188_ok : ∀ k, k < 0 → parseFieldDescriptor (TJx8e188 k).2.2.1 = some (tyJx8e188 k) := by decide +kernel
def RJ9 : String := "java/lang/Math"
def TJ9 : u_T := fun k => match k with
  | _ => ("", "", "", false)
def tyJ9 : Nat → FieldType := fun k => match k with
  | _ => .int
abbrev wsJ90 : List Cond := u_ws RJ9 TJ9 0
theorem nmJ9 : ∀ a, a < 0 → ∀ b, b < 0 → a ≠ b → (TJ9 a).2.1 ≠ (TJ9 b).2.1 := by decide +kernel
theorem tyJ9_ok : ∀ k, k < 0 → parseFieldDescriptor (TJ9 k).2.2.1 = some (tyJ9 k) := by decide +kernel
abbrev cJ9_max_7cf53 : ByteArray := prog_10_method_65_code
def yJ9_max_7cf53 : MethodName := ⟨RJ9, "max", "(II)I"⟩
def RJ10 : String := "java/lang/System"
def TJ10 : u_T := fun k => match k with
  | _ => ("", "", "", false)
def tyJ10 : Nat → FieldType := fun k => match k with
  | _ => .int
abbrev wsJ100 : List Cond := u_ws RJ10 TJ10 0
theorem nmJ10 : ∀ a, a < 0 → ∀ b, b < 0 → a ≠ b → (TJ10 a).2.1 ≠ (TJ10 b).2.1 := by decide +kernel
theorem tyJ10_ok : ∀ k, k < 0 → parseFieldDescriptor (TJ10 k).2.2.1 = some (tyJ10 k) := by decide +kernel
def RJ7 : String := "java/util/Arrays"
def TJ7 : u_T := fun k => match k with
  | _ => ("", "", "", false)
def tyJ7 : Nat → FieldType := fun k => match k with
  | _ => .int
abbrev wsJ70 : List Cond := u_ws RJ7 TJ7 0
theorem nmJ7 : ∀ a, a < 0 → ∀ b, b < 0 → a ≠ b → (TJ7 a).2.1 ≠ (TJ7 b).2.1 := by decide +kernel
theorem tyJ7_ok : ∀ k, k < 0 → parseFieldDescriptor (TJ7 k).2.2.1 = some (tyJ7 k) := by decide +kernel
abbrev cJ7_fill_d0a16 : ByteArray := prog_12_method_101_code
def yJ7_fill_d0a16 : MethodName := ⟨RJ7, "fill", "([JJ)V"⟩
def RL : String := "MixRoundsLaw"
abbrev cL_law : ByteArray := code
def yL_law : MethodName := ⟨RL, "law", "([I)Z"⟩
abbrev vwCl : List vw_C := [(RX0, TX0, 13), (RX1, TX1, 3), (RX2, TX2, 3), (RX3, TX3, 5), (RX5, TX5, 7), (RX6, TX6, 16)]
def NWl : List (String × Nat × MethodName × String) := [("MixRounds$Book", 78, ⟨"MixRounds", "within", "(III)Z"⟩, "MixRounds"), ("MixRounds$Tape", 41, ⟨"MixRounds", "within", "(III)Z"⟩, "MixRounds")]
end
section
/-! ===== numbers: machine ints by whole numbers ===== -/
def iI (z : Int) : Int32 := Int32.ofInt z
def lI (z : Int) : Int64 := Int64.ofInt z
abbrev vI (z : Int) : Value := .int (iI z)
abbrev vL (z : Int) : Value := .long (lI z)
theorem iI_of (x : Int32) : iI x.toInt = x := Int32.ofInt_toInt x
theorem lI_of (x : Int64) : lI x.toInt = x := Int64.ofInt_toInt x
theorem i32_rg (x : Int32) : -2147483648 ≤ x.toInt ∧ x.toInt < 2147483648 := ⟨Int32.le_toInt x, Int32.toInt_lt x⟩
theorem i64_rg (x : Int64) : -9223372036854775808 ≤ x.toInt ∧ x.toInt < 9223372036854775808 := ⟨Int64.le_toInt x, Int64.toInt_lt x⟩
theorem iI_toInt {a : Int} (h : -2147483648 ≤ a ∧ a < 2147483648) : (iI a).toInt = a := Int32.toInt_ofInt_of_le h.1 h.2
theorem lI_toInt {a : Int} (h : -9223372036854775808 ≤ a ∧ a < 9223372036854775808) : (lI a).toInt = a := Int64.toInt_ofInt_of_le h.1 h.2
theorem iI_add (a b : Int) : iI a + iI b = iI (a + b) := (Int32.ofInt_add a b).symm
theorem iI_sub (a b : Int) : iI a - iI b = iI (a - b) := (Int32.ofInt_sub a b).symm
theorem iI_mul (a b : Int) : iI a * iI b = iI (a * b) := (Int32.ofInt_mul a b).symm
theorem lI_add (a b : Int) : lI a + lI b = lI (a + b) := (Int64.ofInt_add a b).symm
theorem lI_sub (a b : Int) : lI a - lI b = lI (a - b) := (Int64.ofInt_sub a b).symm
theorem lI_mul (a b : Int) : lI a * lI b = lI (a * b) := (Int64.ofInt_mul a b).symm
theorem iI_lt {a b : Int} (ha : -2147483648 ≤ a ∧ a < 2147483648) (hb : -2147483648 ≤ b ∧ b < 2147483648) : iI a < iI b ↔ a < b := by rw [Int32.lt_iff_toInt_lt, iI_toInt ha, iI_toInt hb]
theorem iI_le {a b : Int} (ha : -2147483648 ≤ a ∧ a < 2147483648) (hb : -2147483648 ≤ b ∧ b < 2147483648) : iI a ≤ iI b ↔ a ≤ b := by rw [Int32.le_iff_toInt_le, iI_toInt ha, iI_toInt hb]
theorem iI_eq {a b : Int} (ha : -2147483648 ≤ a ∧ a < 2147483648) (hb : -2147483648 ≤ b ∧ b < 2147483648) : iI a = iI b ↔ a = b := by rw [← Int32.toInt_inj, iI_toInt ha, iI_toInt hb]
theorem lI_lt {a b : Int} (ha : -9223372036854775808 ≤ a ∧ a < 9223372036854775808) (hb : -9223372036854775808 ≤ b ∧ b < 9223372036854775808) : lI a < lI b ↔ a < b := by rw [Int64.lt_iff_toInt_lt, lI_toInt ha, lI_toInt hb]
theorem lI_eq {a b : Int} (ha : -9223372036854775808 ≤ a ∧ a < 9223372036854775808) (hb : -9223372036854775808 ≤ b ∧ b < 9223372036854775808) : lI a = lI b ↔ a = b := by rw [← Int64.toInt_inj, lI_toInt ha, lI_toInt hb]
theorem iI_cl {a : Int} (h : -2147483648 ≤ a ∧ a < 2147483648) : (iI a).toNatClampNeg = a.toNat := Int32.toNatClampNeg_ofInt_of_le h.1 h.2
theorem iI_in {a : Int} {n : Nat} (h : 0 ≤ a ∧ a < n) (hn : n < 2147483648) : vp_in (iI a) n := vp_in_iff.mpr (by rw [iI_toInt (by omega)]; exact h)
theorem iI_0 : iI 0 = 0 := rfl
theorem lI_0 : lI 0 = 0 := rfl
theorem iI_div {a b : Int} (ha : 0 ≤ a ∧ a < 2147483648) (hb : 0 < b ∧ b < 2147483648) : iI a / iI b = iI (a / b) := by
  have h1 : Int32.minValue.toInt = -2147483648 := rfl
  have h2 : Int32.maxValue.toInt = 2147483647 := rfl
  rw [← Int.tdiv_eq_ediv_of_nonneg ha.1]
  exact (Int32.ofInt_tdiv (by omega) (by omega) (by omega) (by omega)).symm
theorem iI_rem {a b : Int} (ha : 0 ≤ a ∧ a < 2147483648) (hb : 0 < b ∧ b < 2147483648) : iI a - iI a / iI b * iI b = iI (a % b) := by
  rw [iI_div ha hb, iI_mul, iI_sub, Int.emod_def, Int.mul_comm]
theorem lI_div {a b : Int} (ha : 0 ≤ a ∧ a < 9223372036854775808) (hb : 0 < b ∧ b < 9223372036854775808) : lI a / lI b = lI (a / b) := by
  have h1 : Int64.minValue.toInt = -9223372036854775808 := rfl
  have h2 : Int64.maxValue.toInt = 9223372036854775807 := rfl
  rw [← Int.tdiv_eq_ediv_of_nonneg ha.1]
  exact (Int64.ofInt_tdiv (by omega) (by omega) (by omega) (by omega)).symm
theorem lI_rem {a b : Int} (ha : 0 ≤ a ∧ a < 9223372036854775808) (hb : 0 < b ∧ b < 9223372036854775808) : lI a - lI a / lI b * lI b = lI (a % b) := by
  rw [lI_div ha hb, lI_mul, lI_sub, Int.emod_def, Int.mul_comm]
theorem iI_l {a : Int} (h : -2147483648 ≤ a ∧ a < 2147483648) : (iI a).toInt64 = lI a := by
  have h1 : Int32.minValue.toInt = -2147483648 := rfl
  have h2 : Int32.maxValue.toInt = 2147483647 := rfl
  exact Int32.toInt64_ofInt (by omega) (by omega)
theorem lI_i (a : Int) : (lI a).toInt32 = iI a := Int64.toInt32_ofInt
theorem iI_nat (n : Nat) : nI n = iI (n : Int) := (Int32.ofInt_eq_ofNat).symm
theorem iI_bits (a : Int) : (iI a).toBitVec.toNat = (a % 4294967296).toNat := by
  show (BitVec.ofInt 32 a).toNat = _
  rw [BitVec.toNat_ofInt]
  rfl
theorem iI_and (a : Int) (k : Nat) {mk : Int} (hm : (iI mk).toBitVec.toNat = 2 ^ k - 1) (hk : k ≤ 31) : iI a &&& iI mk = iI (a % ((2 ^ k : Nat) : Int)) := by
  rw [pk_and (iI a) k hm, iI_bits, iI_nat]
  congr 1
  have h32 : (4294967296 : Nat) = 2 ^ k * 2 ^ (32 - k) := by rw [← Nat.pow_add, show k + (32 - k) = 32 by omega]
  have h1 : (0 : Int) ≤ a % 4294967296 := Int.emod_nonneg _ (by decide)
  rw [Int.natCast_emod, Int.toNat_of_nonneg h1]
  have h2 : (((2 ^ k : Nat) : Int)) ∣ (4294967296 : Int) := ⟨((2 ^ (32 - k) : Nat) : Int), by rw [← Int.natCast_mul, ← h32]; rfl⟩
  exact Int.emod_emod_of_dvd a h2
theorem iI_shr16 {a : Int} (h : 0 ≤ a ∧ a < 2147483648) : iI a >>> (iI 16 &&& 31) = iI (a / 65536) := by
  obtain ⟨n, rfl⟩ := Int.eq_ofNat_of_zero_le h.1
  rw [← iI_nat, pk_shrN (by omega) _ 16 (by decide), iI_nat]
  rfl
theorem iI_shl1 : ∀ k : Nat, k < 4 → iI 1 <<< (iI (k : Int) &&& 31) = iI ((2 ^ k : Nat) : Int) := by decide +kernel
def orI (a b : Int) : Int := ((a.toNat ||| b.toNat : Nat) : Int)
theorem iI_or {a b : Int} (ha : 0 ≤ a ∧ a < 2147483648) (hb : 0 ≤ b ∧ b < 2147483648) : iI a ||| iI b = iI (orI a b) := by
  obtain ⟨n, rfl⟩ := Int.eq_ofNat_of_zero_le ha.1
  obtain ⟨k, rfl⟩ := Int.eq_ofNat_of_zero_le hb.1
  rw [← iI_nat, ← iI_nat]
  show nI n ||| nI k = iI ((n ||| k : Nat) : Int)
  rw [← iI_nat]
  apply Int32.toBitVec.inj
  apply BitVec.eq_of_toNat_eq
  show ((nI n).toBitVec ||| (nI k).toBitVec).toNat = _
  have h1 : n ||| k < 2 ^ 31 := Nat.or_lt_two_pow (by omega) (by omega)
  rw [BitVec.toNat_or, pk_tn (by omega), pk_tn (by omega), pk_tn (by omega)]
def w8 (a : Int) : Int := (Int8.ofInt a).toInt
def w16 (a : Int) : Int := (Int16.ofInt a).toInt
theorem iI_b (a : Int) : (iI a).toInt8.toInt32 = iI (w8 a) := by
  rw [show (iI a).toInt8 = Int8.ofInt a from Int32.toInt8_ofInt]
  exact (Int32.toInt_inj.mp (by rw [iI_toInt ⟨by have := Int8.le_toInt (Int8.ofInt a); unfold w8; omega, by have := Int8.toInt_lt (Int8.ofInt a); unfold w8; omega⟩]; simp [w8])).symm
theorem iI_s (a : Int) : (iI a).toInt16.toInt32 = iI (w16 a) := by
  rw [show (iI a).toInt16 = Int16.ofInt a from Int32.toInt16_ofInt]
  exact (Int32.toInt_inj.mp (by rw [iI_toInt ⟨by have := Int16.le_toInt (Int16.ofInt a); unfold w16; omega, by have := Int16.toInt_lt (Int16.ofInt a); unfold w16; omega⟩]; simp [w16])).symm
theorem w8_rg (a : Int) : -128 ≤ w8 a ∧ w8 a < 128 := ⟨Int8.le_toInt _, Int8.toInt_lt _⟩
theorem w16_rg (a : Int) : -32768 ≤ w16 a ∧ w16 a < 32768 := ⟨Int16.le_toInt _, Int16.toInt_lt _⟩
def cmpI (a b : Int) : Int := if b < a then 1 else if a = b then 0 else -1
theorem lI_cmp {a b : Int} (ha : -9223372036854775808 ≤ a ∧ a < 9223372036854775808) (hb : -9223372036854775808 ≤ b ∧ b < 9223372036854775808) : lg_cmp (lI a) (lI b) = iI (cmpI a b) := by
  unfold lg_cmp cmpI
  simp only [GT.gt, lI_lt hb ha, lI_eq ha hb]
  split
  · rfl
  · split <;> rfl
def bI (p : Prop) [Decidable p] : Int := if p then 1 else 0
theorem bI_pos {p : Prop} [Decidable p] (h : p) : bI p = 1 := if_pos h
theorem bI_neg {p : Prop} [Decidable p] (h : ¬ p) : bI p = 0 := if_neg h
theorem bI_01 (p : Prop) [Decidable p] : bI p = 0 ∨ bI p = 1 := by unfold bI; split <;> simp

/-! ===== the state: cluster c (0 the class, 1 .. 14 its books, 15 16 its pasts, 17 its tape, 18 .. 21 its sheets, 22 the reference), field j, place i ===== -/
abbrev St : Type := Nat → Nat → Nat → Int
abbrev GT : Type := Launch × (Nat → Nat → Nat) × (Nat → Prop) × va_G × (Nat → Nat → ClassId) × (Nat → Nat) × Nat × Nat × (Nat → Int32)
abbrev MKT : Type := String × MethodName × ByteArray × Nat × Option FieldType × Nat
def oR (G : GT) (c : Nat) : Value := .ref (G.2.1 c 0)
def aR (G : GT) (c j : Nat) : Value := .ref (G.2.1 c (j + 1))
def kd (c : Nat) : Nat := if c = 0 then 4 else if c ≤ 14 then 0 else if c ≤ 16 then 1 else if c = 17 then 3 else if c ≤ 21 then 2 else 5
def fl_Book (G : GT) (S : St) (c : Nat) : List Value := [aR G c 0, vI (S c 1 0), vI (S c 2 0), aR G c 3, aR G c 4, aR G c 5, aR G c 6, aR G c 7, vI (S c 8 0), aR G c 9, vI (S c 10 0), aR G c 11, aR G c 12]
def fl_Past (G : GT) (S : St) (c : Nat) : List Value := [aR G c 0, vI (S c 1 0), vI (S c 2 0)]
def fl_Sheet (G : GT) (S : St) (c : Nat) : List Value := [vI (S c 0 0), vI (S c 1 0), aR G c 2]
def fl_Tape (G : GT) (S : St) (c : Nat) : List Value := [aR G c 0, vI (S c 1 0), aR G c 2, aR G c 3, vI (S c 4 0)]
def fl_Mix (G : GT) (S : St) (c : Nat) : List Value := [oR G 1, oR G 15, oR G 8, oR G 16, vI (S c 4 0), oR G 17, aR G c 6]
def fl_Model (G : GT) (S : St) (c : Nat) : List Value := [aR G c 0, aR G c 1, aR G c 2, aR G c 3, vI (S c 4 0), vI (S c 5 0), vI (S c 6 0), aR G c 7, vI (S c 8 0), aR G c 9, aR G c 10, vI (S c 11 0), aR G c 12, aR G c 13, aR G c 14, aR G c 15]
def fl (G : GT) (S : St) (c : Nat) : List Value := match kd c with
  | 0 => fl_Book G S c
  | 1 => fl_Past G S c
  | 2 => fl_Sheet G S c
  | 3 => fl_Tape G S c
  | 4 => fl_Mix G S c
  | _ => fl_Model G S c
def lnk (k j : Nat) : Nat := match k, j with
  | 0, 0 => 4
  | 0, 3 => 79
  | 0, 4 => 79
  | 0, 5 => 79
  | 0, 6 => 79
  | 0, 7 => 79
  | 0, 9 => 15
  | 0, 11 => 72
  | 0, 12 => 180
  | 1, 0 => 6
  | 2, 2 => 24
  | 3, 0 => 90
  | 3, 2 => 90
  | 3, 3 => 90
  | 4, 6 => 4
  | 5, 0 => 402
  | 5, 1 => 12
  | 5, 2 => 12
  | 5, 3 => 90
  | 5, 7 => 2412
  | 5, 9 => 402
  | 5, 10 => 2412
  | 5, 12 => 4
  | 5, 13 => 4
  | 5, 14 => 96
  | 5, 15 => 24
  | _, _ => 0
def akk (k j : Nat) : Nat := match k, j with
  | 0, 0 => 1
  | 0, 3 => 1
  | 0, 4 => 1
  | 0, 5 => 1
  | 0, 6 => 1
  | 0, 7 => 1
  | 0, 9 => 1
  | 0, 11 => 1
  | 0, 12 => 1
  | 1, 0 => 3
  | 2, 2 => 2
  | 3, 0 => 1
  | 3, 2 => 1
  | 3, 3 => 1
  | 4, 6 => 3
  | 5, 0 => 1
  | 5, 1 => 1
  | 5, 2 => 1
  | 5, 3 => 1
  | 5, 7 => 1
  | 5, 9 => 1
  | 5, 10 => 1
  | 5, 12 => 1
  | 5, 13 => 1
  | 5, 14 => 2
  | 5, 15 => 2
  | _, _ => 0
def ln (c j : Nat) : Nat := lnk (kd c) j
def ak (c j : Nat) : Nat := akk (kd c) j
def rf (c k : Nat) : Nat := if c = 0 then 18 + k else if c = 15 then 2 + k else 9 + k
def aty (c j : Nat) : FieldType := if ak c j = 1 then .int else if ak c j = 2 then .long else if c = 0 then .object "MixRounds$Sheet" else .object "MixRounds$Book"
def mkc (G : GT) (S : St) (c j : Nat) : (Nat → Int32) ⊕ (Nat → Int64) ⊕ (Nat → UInt32) ⊕ (Nat → UInt64) ⊕ (Nat → Option Nat) := if ak c j = 1 then .inl (fun k => iI (S c j k)) else if ak c j = 2 then .inr (.inl (fun k => lI (S c j k))) else .inr (.inr (.inr (.inr (fun k => some (G.2.1 (rf c k) 0)))))
def mk (G : GT) (S : St) (c t : Nat) : va_E := match t with
  | 0 => .inr (kd c, fl G S c)
  | j + 1 => .inl (G.2.2.2.2.1 c j, ln c j, mkc G S c j)
def vs : List (Nat × Nat) := [(0, 0), (0, 7), (1, 0), (1, 1), (1, 4), (1, 5), (1, 6), (1, 7), (1, 8), (1, 10), (1, 12), (1, 13), (2, 0), (2, 1), (2, 4), (2, 5), (2, 6), (2, 7), (2, 8), (2, 10), (2, 12), (2, 13), (3, 0), (3, 1), (3, 4), (3, 5), (3, 6), (3, 7), (3, 8), (3, 10), (3, 12), (3, 13), (4, 0), (4, 1), (4, 4), (4, 5), (4, 6), (4, 7), (4, 8), (4, 10), (4, 12), (4, 13), (5, 0), (5, 1), (5, 4), (5, 5), (5, 6), (5, 7), (5, 8), (5, 10), (5, 12), (5, 13), (6, 0), (6, 1), (6, 4), (6, 5), (6, 6), (6, 7), (6, 8), (6, 10), (6, 12), (6, 13), (7, 0), (7, 1), (7, 4), (7, 5), (7, 6), (7, 7), (7, 8), (7, 10), (7, 12), (7, 13), (8, 0), (8, 1), (8, 4), (8, 5), (8, 6), (8, 7), (8, 8), (8, 10), (8, 12), (8, 13), (9, 0), (9, 1), (9, 4), (9, 5), (9, 6), (9, 7), (9, 8), (9, 10), (9, 12), (9, 13), (10, 0), (10, 1), (10, 4), (10, 5), (10, 6), (10, 7), (10, 8), (10, 10), (10, 12), (10, 13), (11, 0), (11, 1), (11, 4), (11, 5), (11, 6), (11, 7), (11, 8), (11, 10), (11, 12), (11, 13), (12, 0), (12, 1), (12, 4), (12, 5), (12, 6), (12, 7), (12, 8), (12, 10), (12, 12), (12, 13), (13, 0), (13, 1), (13, 4), (13, 5), (13, 6), (13, 7), (13, 8), (13, 10), (13, 12), (13, 13), (14, 0), (14, 1), (14, 4), (14, 5), (14, 6), (14, 7), (14, 8), (14, 10), (14, 12), (14, 13), (15, 0), (15, 1), (16, 0), (16, 1), (17, 0), (17, 1), (17, 3), (17, 4), (18, 0), (18, 3), (19, 0), (19, 3), (20, 0), (20, 3), (21, 0), (21, 3), (22, 0), (22, 1), (22, 2), (22, 3), (22, 4), (22, 8), (22, 10), (22, 11), (22, 13), (22, 14), (22, 15), (22, 16)]
def Wd (G : GT) (S : St) : va_W := vs.map fun q => (G.2.1 q.1 q.2, mk G S q.1 q.2)
def tysG (G : GT) : List (ClassId × FieldType) := vs.filterMap fun q => if q.2 = 0 then none else some (G.2.2.2.2.1 q.1 (q.2 - 1), aty q.1 (q.2 - 1))
def st3 (S : St) (c j i : Nat) (x : Int) : St := fun c1 j1 i1 => if c1 = c ∧ j1 = j ∧ i1 = i then x else S c1 j1 i1
theorem vs_nd : vs.Nodup := by decide +kernel
theorem vs_obj : ∀ c, c < 23 → (c, 0) ∈ vs := by decide +kernel
theorem vs_arr0 : ∀ c, c < 23 → ∀ j, j < 16 → (ak c j = 0 ∨ (c, j + 1) ∈ vs) := by decide +kernel
theorem vs_arr (c : Nat) (hc : c < 23) (j : Nat) (hj : j < 16) (h : ak c j ≠ 0) : (c, j + 1) ∈ vs := (vs_arr0 c hc j hj).resolve_left h
theorem vs_ok : ∀ q ∈ vs, q.1 < 23 ∧ (q.2 = 0 ∨ (q.2 - 1 < 16 ∧ ak q.1 (q.2 - 1) ≠ 0)) := by decide +kernel
theorem ln_small : ∀ c, c < 23 → ∀ j, j < 16 → ln c j < 3000 := by decide +kernel
def RhoOk (G : GT) : Prop := (∀ p ∈ vs, ∀ q ∈ vs, G.2.1 p.1 p.2 = G.2.1 q.1 q.2 → p = q) ∧ ∀ q ∈ vs, G.2.2.1 (G.2.1 q.1 q.2)
theorem Wd_at {G : GT} {S : St} {q : Nat × Nat} (h : q ∈ vs) : ∃ k : Nat, vs[k]? = some q ∧ (Wd G S)[k]? = some (G.2.1 q.1 q.2, mk G S q.1 q.2) := by
  obtain ⟨k, hk⟩ := List.getElem?_of_mem h
  exact ⟨k, hk, by rw [Wd, List.getElem?_map, hk]; rfl⟩
theorem Wd_D {G : GT} {S : St} (h : RhoOk G) : va_D G.2.2.1 (Wd G S) := by
  refine ⟨fun i j p q hi hj e => ?_, fun k q hk => ?_⟩
  · rw [Wd, List.getElem?_map] at hi hj
    cases h1 : vs[i]? with
    | none => rw [h1] at hi; cases hi
    | some a =>
      cases h2 : vs[j]? with
      | none => rw [h2] at hj; cases hj
      | some b =>
        rw [h1] at hi; rw [h2] at hj
        cases hi; cases hj
        have e2 := h.1 a (List.mem_of_getElem? h1) b (List.mem_of_getElem? h2) e
        subst e2
        obtain ⟨li, gi⟩ := List.getElem?_eq_some_iff.mp h1
        obtain ⟨lj, gj⟩ := List.getElem?_eq_some_iff.mp h2
        exact (List.getElem?_inj li vs_nd).mp (h1.trans h2.symm)
  · rw [Wd, List.getElem?_map] at hk
    cases h1 : vs[k]? with
    | none => rw [h1] at hk; cases hk
    | some a =>
      rw [h1] at hk; cases hk
      exact h.2 a (List.mem_of_getElem? h1)
/-- one cell written -/
theorem Wd_set {G : GT} {S S' : St} {k : Nat} {q : Nat × Nat} (hk : vs[k]? = some q) (h : ∀ p ∈ vs, p ≠ q → mk G S' p.1 p.2 = mk G S p.1 p.2) : (Wd G S).set k (G.2.1 q.1 q.2, mk G S' q.1 q.2) = Wd G S' := by
  apply List.ext_getElem?
  intro i
  rw [List.getElem?_set]
  obtain ⟨lk, gk⟩ := List.getElem?_eq_some_iff.mp hk
  by_cases hi : k = i
  · subst hi
    have hl : k < (Wd G S).length := by rw [Wd, List.length_map]; exact lk
    rw [if_pos rfl, if_pos hl]
    simp only [Wd, List.getElem?_map, hk]
    rfl
  · rw [if_neg hi]
    simp only [Wd, List.getElem?_map]
    cases h1 : vs[i]? with
    | none => rfl
    | some a =>
      obtain ⟨li, gi⟩ := List.getElem?_eq_some_iff.mp h1
      have hne : a ≠ q := fun e => hi ((List.getElem?_inj lk vs_nd).mp (hk.trans ((congrArg some e.symm).trans h1.symm)))
      show some (_, mk G S a.1 a.2) = some (_, mk G S' a.1 a.2)
      rw [h a (List.mem_of_getElem? h1) hne]
theorem st3_s (S : St) (c j i : Nat) (x : Int) : st3 S c j i x c j i = x := if_pos ⟨rfl, rfl, rfl⟩
theorem st3_c {S : St} {c j i c1 j1 i1 : Nat} {x : Int} (h : c1 ≠ c) : st3 S c j i x c1 j1 i1 = S c1 j1 i1 := if_neg (fun q => h q.1)
theorem st3_j {S : St} {c j i c1 j1 i1 : Nat} {x : Int} (h : j1 ≠ j) : st3 S c j i x c1 j1 i1 = S c1 j1 i1 := if_neg (fun q => h q.2.1)
theorem st3_i {S : St} {c j i c1 j1 i1 : Nat} {x : Int} (h : i1 ≠ i) : st3 S c j i x c1 j1 i1 = S c1 j1 i1 := if_neg (fun q => h q.2.2)
theorem kd_cases (c : Nat) (h : c < 23) : kd c = 0 ∨ kd c = 1 ∨ kd c = 2 ∨ kd c = 3 ∨ kd c = 4 ∨ kd c = 5 := by
  have : ∀ c, c < 23 → kd c = 0 ∨ kd c = 1 ∨ kd c = 2 ∨ kd c = 3 ∨ kd c = 4 ∨ kd c = 5 := by decide +kernel
  exact this c h
theorem kd_book {c : Nat} (h : 1 ≤ c ∧ c ≤ 14) : kd c = 0 := by unfold kd; rw [if_neg (by omega), if_pos (by omega)]
theorem kd_past {c : Nat} (h : 15 ≤ c ∧ c ≤ 16) : kd c = 1 := by unfold kd; rw [if_neg (by omega), if_neg (by omega), if_pos (by omega)]
theorem kd_sheet {c : Nat} (h : 18 ≤ c ∧ c ≤ 21) : kd c = 2 := by unfold kd; rw [if_neg (by omega), if_neg (by omega), if_neg (by omega), if_neg (by omega), if_pos (by omega)]
/-- an element written: the other cells stay -/
theorem mk_arr {G : GT} {S : St} {c j i : Nat} {x : Int} (hc : c < 23) (ha : ak c j ≠ 0) {p : Nat × Nat} (hp : p ∈ vs) (hne : p ≠ (c, j + 1)) : mk G (st3 S c j i x) p.1 p.2 = mk G S p.1 p.2 := by
  obtain ⟨pc, pt⟩ := p
  have hok := vs_ok _ hp
  dsimp only at hok ⊢
  cases pt with
  | zero =>
    show (Sum.inr (kd pc, fl G (st3 S c j i x) pc) : va_E) = Sum.inr (kd pc, fl G S pc)
    have e : fl G (st3 S c j i x) pc = fl G S pc := by
      by_cases hcc : pc = c
      · subst hcc
        unfold ak at ha
        rcases kd_cases pc hc with h | h | h | h | h | h <;> rw [h] at ha <;> simp only [fl, h, fl_Book, fl_Past, fl_Sheet, fl_Tape, fl_Mix, fl_Model] <;>
          (congr <;> exact st3_j (fun e => ha (by rw [← e]; rfl)))
      · unfold fl
        have hz : ∀ j1 i1, st3 S c j i x pc j1 i1 = S pc j1 i1 := fun j1 i1 => st3_c hcc
        split <;> simp only [fl_Book, fl_Past, fl_Sheet, fl_Tape, fl_Mix, fl_Model, hz]
    rw [e]
  | succ t =>
    show (Sum.inl (G.2.2.2.2.1 pc t, ln pc t, mkc G (st3 S c j i x) pc t) : va_E) = Sum.inl (G.2.2.2.2.1 pc t, ln pc t, mkc G S pc t)
    have e : mkc G (st3 S c j i x) pc t = mkc G S pc t := by
      have hz : ∀ k, st3 S c j i x pc t k = S pc t k := fun k => if_neg (fun q => hne (by rw [q.1, q.2.1]))
      unfold mkc
      simp only [hz]
    rw [e]
/-- a field written: the other cells stay -/
theorem mk_fld {G : GT} {S : St} {c j : Nat} {x : Int} (ha : ak c j = 0) {p : Nat × Nat} (hp : p ∈ vs) (hne : p ≠ (c, 0)) : mk G (st3 S c j 0 x) p.1 p.2 = mk G S p.1 p.2 := by
  obtain ⟨pc, pt⟩ := p
  have hok := vs_ok _ hp
  dsimp only at hok ⊢
  cases pt with
  | zero =>
    have hcc : pc ≠ c := fun e => hne (by rw [e])
    show (Sum.inr (kd pc, fl G (st3 S c j 0 x) pc) : va_E) = Sum.inr (kd pc, fl G S pc)
    have hz : ∀ j1 i1, st3 S c j 0 x pc j1 i1 = S pc j1 i1 := fun j1 i1 => st3_c hcc
    have e : fl G (st3 S c j 0 x) pc = fl G S pc := by
      unfold fl
      split <;> simp only [fl_Book, fl_Past, fl_Sheet, fl_Tape, fl_Mix, fl_Model, hz]
    rw [e]
  | succ t =>
    have e : mkc G (st3 S c j 0 x) pc t = mkc G S pc t := by
      have hz : ∀ k, st3 S c j 0 x pc t k = S pc t k := by
        intro k
        refine if_neg (fun q => ?_)
        rcases hok.2 with h | h
        · cases h
        · apply h.2
          rw [q.1, show t + 1 - 1 = t from rfl, q.2.1]
          exact ha
      unfold mkc
      simp only [hz]
    show (Sum.inl (G.2.2.2.2.1 pc t, ln pc t, mkc G (st3 S c j 0 x) pc t) : va_E) = Sum.inl (G.2.2.2.2.1 pc t, ln pc t, mkc G S pc t)
    rw [e]
theorem tys_at {G : GT} {c j : Nat} (hc : c < 23) (hj : j < 16) (ha : ak c j ≠ 0) : ∃ k : Nat, (tysG G)[k]? = some (G.2.2.2.2.1 c j, aty c j) := by
  apply List.getElem?_of_mem
  exact List.mem_filterMap.mpr ⟨(c, j + 1), vs_arr c hc j hj ha, by simp⟩

/-! ===== the judgement ===== -/
def tb : List Cond := lw_tbl.filter goodWord
theorem tb_of {w : Cond} (h : w ∈ lw_tbl) (g : goodWord w = true) : w ∈ tb := List.mem_filter.mpr ⟨h, g⟩
theorem tb_at {w : Cond} (i : Nat) (h : lw_tbl[i]? = some w) (g : goodWord w = true) : w ∈ tb := tb_of (List.mem_of_getElem? h) g
theorem tb_good {w : Cond} (h : w ∈ tb) : goodWord w = true := (List.mem_filter.mp h).2
def NW (U : State) : Prop := ∀ x ∈ NWl, va_Nw (.methodLinkNest x.1 x.2.1 x.2.2.1 x.2.2.2) U
def leastJ (j : Nat) : Int := if j = 1 then 1 else 0
def mostJ (j : Nat) : Int := if j = 0 then 3 else if j = 1 then 8 else if j = 2 then 4 else 3
def Hd (G : GT) (S : St) (H : Heap) : Prop := va_P G.2.2.2.1 vwCl (Wd G S) H
def SZ (G : GT) (U : State) : Prop := (va_Z "MixRounds" "LEAST" "[I" (.ref (G.2.2.2.2.2.1 0)) G.2.2.1 U U.heap ∧ va_T .int (G.2.2.2.2.2.1 0) 4 (fun j => vI (leastJ j)) G.2.2.1 U U.heap) ∧ (va_Z "MixRounds" "MOST" "[I" (.ref (G.2.2.2.2.2.1 1)) G.2.2.1 U U.heap ∧ va_T .int (G.2.2.2.2.2.1 1) 4 (fun j => vI (mostJ j)) G.2.2.1 U U.heap)
def Kd (G : GT) (U : State) : Prop := va_K G.2.2.2.1 vwCl (tysG G) U ∧ RhoOk G ∧ SZ G U ∧ NW U
theorem SZ.to {G : GT} {u U : State} (h : SZ G u) (hvm : u.vm.Alike U.vm) (hS : ∀ a : Nat, a < u.heap.size → ¬ G.2.2.1 a → U.heap[a]? = u.heap[a]?) : SZ G U :=
  ⟨⟨(h.1.1.kept hS).moved hvm, (h.1.2.kept hS).moved hvm⟩, ⟨(h.2.1.kept hS).moved hvm, (h.2.2.kept hS).moved hvm⟩⟩
theorem Kd.to {G : GT} {u U : State} (h : Kd G u) (hW : u.WarmedH U.vm) (hS : ∀ a : Nat, a < u.heap.size → ¬ G.2.2.1 a → U.heap[a]? = u.heap[a]?) : Kd G U := ⟨h.1.moved hW.alike, h.2.1, h.2.2.1.to hW.alike hS, fun x hx => va_Nw.warmM hW (h.2.2.2 x hx)⟩
theorem Kd.calling {G : GT} {U : State} (h : Kd G U) (g : JFrame) (mk : MethodId) (a : Array Value) : Kd G (U.calling g mk a) := ⟨va_K.moved (u := U) (U := U.calling g mk a) (Vm.Alike.refl U.vm) h.1, h.2.1, SZ.to (u := U) (U := U.calling g mk a) h.2.2.1 (Vm.Alike.refl U.vm) (fun _ _ _ => rfl), fun x hx => va_Nw.same (u := U) (U := U.calling g mk a) rfl rfl (h.2.2.2 x hx)⟩
def OkX (G : GT) (q : MKT) (p : Program) (R : Room) (s : State) (m : MethodId) (args : Array Value) (c : Code) : Prop :=
  p.tables.exec = Jvm.exec ∧ c.code = q.2.2.1 ∧ c.maxLocals = q.2.2.2.1 ∧ s.vm.findClass q.1 = some m.cls ∧ (∀ w ∈ tb, w.before args s = true) ∧ Kd G s ∧ (q.2.2.2.2.2 ≤ R.frames ∧ 40 * q.2.2.2.2.2 ≤ R.locals) ∧
  (q.1 = "MixRoundsLaw" → va_X G.2.2.2.2.2.2.1 G.2.2.2.2.2.2.2.1 G.2.2.2.2.2.2.2.2 s s.heap ∧ G.2.2.2.2.2.2.1 < s.heap.size ∧ ¬ G.2.2.1 G.2.2.2.2.2.2.1)
def Rt (q : MKT) (pc : Nat) (r : Option Value) : Prop :=
  (∃ z, r = some (.int z) ∧ decode q.2.2.1 pc = .ok (.ireturn, 1) ∧ (q.2.2.2.2.1 = some .int ∨ (q.2.2.2.2.1 = some .boolean ∧ (z = 0 ∨ z = 1)))) ∨ (∃ z, r = some (.long z) ∧ decode q.2.2.1 pc = .ok (.lreturn, 1) ∧ q.2.2.2.2.1 = some .long) ∨ (r = none ∧ decode q.2.2.1 pc = .ok (.return_, 1) ∧ q.2.2.2.2.1 = none)
/-- the locals by their places -/
def lvL : Nat → List (Option Value) → List (Nat × Value)
  | _, [] => []
  | i, none :: r => lvL (i + 1) r
  | i, some v :: r => (i, v) :: lvL (i + 1) r
def lg : Nat → List (Option Value) → Option Value
  | _, [] => none
  | 0, a :: _ => a
  | i + 1, _ :: r => lg i r
def ls1 (v : Value) : Nat → List (Option Value) → List (Option Value)
  | _, [] => []
  | 0, _ :: r => some v :: r
  | i + 1, a :: r => a :: ls1 v i r
theorem lvL_mem : ∀ (lv : List (Option Value)) (k : Nat) (q : Nat × Value), q ∈ lvL k lv ↔ ∃ i, q.1 = k + i ∧ lg i lv = some q.2 := by
  intro lv
  induction lv with
  | nil => intro k q; simp [lvL, lg]
  | cons a r ih =>
    intro k q
    have key : (∃ i, q.1 = k + i ∧ lg i (a :: r) = some q.2) ↔ ((q.1 = k ∧ a = some q.2) ∨ ∃ i, q.1 = k + 1 + i ∧ lg i r = some q.2) := by
      constructor
      · rintro ⟨i, h1, h2⟩
        cases i with
        | zero => exact Or.inl ⟨h1, h2⟩
        | succ i => exact Or.inr ⟨i, by omega, h2⟩
      · rintro (⟨h1, h2⟩ | ⟨i, h1, h2⟩)
        · exact ⟨0, h1, h2⟩
        · exact ⟨i + 1, by omega, h2⟩
    rw [key, ← ih]
    cases a with
    | none => simp [lvL]
    | some v =>
      simp only [lvL, List.mem_cons]
      constructor
      · rintro (h | h)
        · subst h; exact Or.inl ⟨rfl, rfl⟩
        · exact Or.inr h
      · rintro (⟨h1, h2⟩ | h)
        · left
          obtain ⟨q1, q2⟩ := q
          cases h2; cases h1; rfl
        · exact Or.inr h
def lvH (ls : Array Slot) (n : Nat) (lv : List (Option Value)) : Prop := lv_has ls n (lvL 0 lv)
theorem lvH.at {ls : Array Slot} {n i : Nat} {lv : List (Option Value)} {v : Value} (h : lvH ls n lv) (hl : lg i lv = some v) : ls[i]? = some (.val v) :=
  h.2.2 (i, v) ((lvL_mem lv 0 (i, v)).mpr ⟨i, by simp, hl⟩)
/-- no second half of a long is overwritten: what stands ahead of place i is no long -/
def nl (i : Nat) (lv : List (Option Value)) : Bool := match i with
  | 0 => true
  | j + 1 => match lg j lv with
    | some v => v.category == 1
    | none => true
theorem lg_ls1 (v : Value) : ∀ (lv : List (Option Value)) (i k : Nat), lg k (ls1 v i lv) = if k = i ∧ k < lv.length then some v else lg k lv := by
  intro lv
  induction lv with
  | nil => intro i k; simp [ls1, lg]
  | cons a r ih =>
    intro i k
    cases i with
    | zero =>
      cases k with
      | zero => simp [ls1, lg]
      | succ k => simp [ls1, lg]
    | succ i =>
      cases k with
      | zero => simp [ls1, lg]
      | succ k => simp only [ls1, lg, ih, List.length_cons]; simp
theorem lvH.cut1 {ls' : Array Slot} {n i : Nat} {lv : List (Option Value)} {v : Value} (hn : nl i lv = true) (h : lv_has ls' n ((i, v) :: (lvL 0 lv).filter (fun q => !(q.1 == i) && !(q.1 + 1 == i && q.2.category == 2)))) : lvH ls' n (ls1 v i lv) := by
  refine ⟨h.1, h.2.1, fun q hq => ?_⟩
  obtain ⟨k, hk, hv⟩ := (lvL_mem _ 0 q).mp hq
  rw [Nat.zero_add] at hk
  apply h.2.2
  rw [lg_ls1] at hv
  split at hv
  next hc =>
    obtain ⟨q1, q2⟩ := q
    dsimp only at hk hv
    cases hv
    rw [hk, hc.1]
    exact List.mem_cons_self
  next hc =>
    by_cases hki : k = i
    · exfalso
      subst hki
      have : ¬ k < lv.length := fun hl => hc ⟨rfl, hl⟩
      have hz : ∀ (lv : List (Option Value)) (k : Nat), ¬ k < lv.length → lg k lv = none := by
        intro lv
        induction lv with
        | nil => intro k _; cases k <;> rfl
        | cons a r ih =>
          intro k hk
          cases k with
          | zero => simp at hk
          | succ k => exact ih k (by simpa using hk)
      rw [hz lv k this] at hv
      cases hv
    · refine List.mem_cons_of_mem _ (List.mem_filter.mpr ⟨(lvL_mem lv 0 q).mpr ⟨k, by omega, hv⟩, ?_⟩)
      simp only [Bool.and_eq_true, Bool.not_eq_true', beq_eq_false_iff_ne, Bool.and_eq_false_iff]
      refine ⟨by omega, ?_⟩
      by_cases h1 : q.1 + 1 = i
      · right
        have h2 : i = k + 1 := by omega
        rw [h2] at hn
        unfold nl at hn
        dsimp only at hn
        rw [hv] at hn
        dsimp only at hn
        have := (beq_iff_eq).mp hn
        rw [this]
        decide
      · left
        exact h1

def Go (G : GT) (q : MKT) (pc : Nat) (lv : List (Option Value)) (st : List Value) (S : St) (Post : Option Value → St → Prop) : Prop :=
  ∀ (p : Program) (e : Env) (R : Room) (s : State) (m : MethodId) (args : Array Value) (below : List Frame) (meth : Method) (c : Code) (cells slots : Nat) (Q : State → Prop) (H : Heap) (locs : List Loc) (ls : Array Slot),
    OkX G q p R s m args c → cells ≤ R.cells → slots ≤ R.slots →
    (∀ (r : Option Value) (S' : St) (H' : Heap) (locs' : List Loc) (pc' : Nat) (ls' : Array Slot), Post r S' → Rt q pc' r → Hd G S' H' → va_S G.2.2.1 s.heap H' locs' → W p G.1 e R s m args below meth c H' locs' cells slots Q (F0 m pc' ls' r.toList)) →
    lvH ls q.2.2.2.1 lv → Hd G S H → va_S G.2.2.1 s.heap H locs → W p G.1 e R s m args below meth c H locs cells slots Q (F0 m pc ls st)
def rmG (n : Nat) : Room := { frames := n, cells := 0, slots := 0, locals := 40 * n }
def wsG (q : MKT) : List Cond := .code q.2.1 q.2.2.1 q.2.2.2.1 q.2.2.2.2.1 :: tb
def QcG (G : GT) (Post : Option Value → St → Prop) : Array Value → State → Outcome → State → Prop := fun _ s oc t => (∃ (r : Option Value) (S' : St), oc = .returned r ∧ Post r S' ∧ Hd G S' t.heap) ∧ va_F G.2.2.1 s t
def PcG (G : GT) (av : List Value) (S : St) : Array Value → State → Prop := va_Pc av (fun U => Hd G S U.heap ∧ Kd G U)
/-- a method's contract: from S it returns, with Post -/
def Fn (G : GT) (q : MKT) (av : List Value) (S : St) (Post : Option Value → St → Prop) : Prop := Met G.1 q.2.1 (wsG q) (rmG q.2.2.2.2.2) (PcG G av S) (QcG G Post) 0 0 G.2.2.1
def lvE : List Value → List (Option Value)
  | [] => []
  | v :: r => if v.category = 2 then some v :: none :: lvE r else some v :: lvE r
theorem lvE_mem : ∀ (av : List Value) (k : Nat) (n : Nat) (q : Nat × Value), q ∈ lvL k (lvE av ++ List.replicate n none) → q ∈ lv_args k av := by
  intro av
  induction av with
  | nil =>
    intro k n q h
    exfalso
    have hz : ∀ (n k : Nat), lvL k (List.replicate n none) = [] := by
      intro n
      induction n with
      | zero => intro k; rfl
      | succ n ih => intro k; simp only [List.replicate_succ, lvL]; exact ih (k + 1)
    simp only [lvE, List.nil_append, hz] at h
    cases h
  | cons v r ih =>
    intro k n q h
    unfold lvE at h
    unfold lv_args
    by_cases hc : v.category = 2
    · rw [if_pos hc] at h ⊢
      simp only [List.cons_append, lvL, List.mem_cons] at h ⊢
      rcases h with h | h
      · exact Or.inl h
      · exact Or.inr (ih _ _ _ h)
    · rw [if_neg hc] at h ⊢
      simp only [List.cons_append, lvL, List.mem_cons] at h ⊢
      rcases h with h | h
      · exact Or.inl h
      · exact Or.inr (ih _ _ _ h)
set_option maxHeartbeats 4000000 in
theorem Fn.of {G : GT} {q : MKT} {av : List Value} {S : St} {Post : Option Value → St → Prop} (lv : List (Option Value)) (n : Nat) (hlv : lvE av ++ List.replicate n none = lv) (hy : plainName q.2.1.cls = true) (hown : q.1 = q.2.1.cls) (hlen : (lg_sl av).length ≤ q.2.2.2.1) (hnl : q.1 ≠ "MixRoundsLaw")
    (h : Go G q 0 lv [] S Post) : Fn G q av S Post := by
  refine Met.ofW (cc := q.2.2.1) (maxL := q.2.2.2.1) (ret := q.2.2.2.2.1) hy rfl ?_
  intro p e s m args below meth c s₁ B hml hv
  obtain ⟨rfl, hP, hK⟩ := hv
  have hts : ∀ w ∈ tb, w.before av.toArray s = true := fun w hw => atoms_spec (ws := wsG q) B.pre w (List.mem_cons_of_mem _ hw)
  have hr : meth.sig.returnType = q.2.2.2.2.1 := B.returns
  have hlocks := B.notSynchronized
  have hl := lv_entry av (n := q.2.2.2.1) hlen
  rw [lg_entry_eq]
  generalize (lg_sl av ++ List.replicate (q.2.2.2.1 - (lg_sl av).length) Slot.unset).toArray = ls at hl ⊢
  have hl2 : lvH ls q.2.2.2.1 lv := by
    refine ⟨hl.1, hl.2.1, fun z hz => ?_⟩
    rw [← hlv] at hz
    exact hl.2.2 z (lvE_mem av 0 n z hz)
  refine h p e (rmG q.2.2.2.2.2) s m av.toArray below meth c 0 0 _ s.heap [] ls ⟨B.exec, B.bytes, hml, by rw [hown]; exact findClass_of_methodNamed B.named, hts, hK, ⟨Nat.le_refl _, Nat.le_refl _⟩, fun hq => absurd hq hnl⟩ (Nat.le_refl 0) (Nat.le_refl 0) ?_ hl2 hP va_S.rf
  intro r S' H' locs' pc' ls' hpost hrt hP' hS'
  rcases hrt with ⟨z, rfl, hd, ht⟩ | ⟨z, rfl, hd, ht⟩ | ⟨rfl, hd, ht⟩
  · rcases ht with ht | ⟨ht, hz⟩
    · exact W.iret B.exec B.bytes (hr.trans ht) (fun t ht2 _ => ⟨⟨_, S', rfl, hpost, by rw [ht2]; exact hP'⟩, hS'.F ht2⟩) (fun x hx => hS'.2.2 x hx) hd
    · exact W.zret B.exec B.bytes (hr.trans ht) (by rcases hz with rfl | rfl <;> rfl) (fun t ht2 _ => ⟨⟨_, S', rfl, hpost, by rw [ht2]; exact hP'⟩, hS'.F ht2⟩) (fun x hx => hS'.2.2 x hx) hd
  · exact W.lret B.exec B.bytes (hr.trans ht) (fun t ht2 _ => ⟨⟨_, S', rfl, hpost, by rw [ht2]; exact hP'⟩, hS'.F ht2⟩) (fun x hx => hS'.2.2 x hx) hd
  · exact W.vret B.exec B.bytes (hr.trans ht) (fun t ht2 _ => ⟨⟨_, S', rfl, hpost, by rw [ht2]; exact hP'⟩, hS'.F ht2⟩) (fun x hx => hS'.2.2 x hx) hd
end
section
/-! ===== a rule an instruction ===== -/
section Rules
variable {G : GT} {q : MKT} {pc n t : Nat} {lv : List (Option Value)} {st : List Value} {S : St} {Post : Option Value → St → Prop}
def Dk (q : MKT) (pc : Nat) (i : Instr) (len n : Nat) : Prop := decode q.2.2.1 pc = .ok (i, len) ∧ pc + len = n
def DlI (q : MKT) (pc i n : Nat) : Prop := (∃ k : Fin 4, decode q.2.2.1 pc = .ok (.iload_n k, 1) ∧ (k : Nat) = i ∧ pc + 1 = n) ∨ (decode q.2.2.1 pc = .ok (.iload i, 2) ∧ pc + 2 = n)
def DlL (q : MKT) (pc i n : Nat) : Prop := (∃ k : Fin 4, decode q.2.2.1 pc = .ok (.lload_n k, 1) ∧ (k : Nat) = i ∧ pc + 1 = n) ∨ (decode q.2.2.1 pc = .ok (.lload i, 2) ∧ pc + 2 = n)
def DlA (q : MKT) (pc i n : Nat) : Prop := (∃ k : Fin 4, decode q.2.2.1 pc = .ok (.aload_n k, 1) ∧ (k : Nat) = i ∧ pc + 1 = n) ∨ (decode q.2.2.1 pc = .ok (.aload i, 2) ∧ pc + 2 = n)
def DsI (q : MKT) (pc i n : Nat) : Prop := ((∃ k : Fin 4, decode q.2.2.1 pc = .ok (.istore_n k, 1) ∧ (k : Nat) = i ∧ pc + 1 = n) ∨ (decode q.2.2.1 pc = .ok (.istore i, 2) ∧ pc + 2 = n)) ∧ i < q.2.2.2.1
def DsL (q : MKT) (pc i n : Nat) : Prop := ((∃ k : Fin 4, decode q.2.2.1 pc = .ok (.lstore_n k, 1) ∧ (k : Nat) = i ∧ pc + 1 = n) ∨ (decode q.2.2.1 pc = .ok (.lstore i, 2) ∧ pc + 2 = n)) ∧ i + 1 < q.2.2.2.1
def DsA (q : MKT) (pc i n : Nat) : Prop := ((∃ k : Fin 4, decode q.2.2.1 pc = .ok (.astore_n k, 1) ∧ (k : Nat) = i ∧ pc + 1 = n) ∨ (decode q.2.2.1 pc = .ok (.astore i, 2) ∧ pc + 2 = n)) ∧ i < q.2.2.2.1
def Dc (q : MKT) (pc : Nat) (z : Int) (n : Nat) : Prop := (decode q.2.2.1 pc = .ok (.iconst z, 1) ∧ pc + 1 = n) ∨ (decode q.2.2.1 pc = .ok (.bipush z, 2) ∧ (Int8.ofInt z).toInt32 = iI z ∧ pc + 2 = n) ∨ (decode q.2.2.1 pc = .ok (.sipush z, 3) ∧ (Int16.ofInt z).toInt32 = iI z ∧ pc + 3 = n) ∨ (∃ idx : Nat, decode q.2.2.1 pc = .ok (.ldc idx, 2) ∧ Cond.constant q.1 idx (iI z) ∈ tb ∧ pc + 2 = n)
def DcL (q : MKT) (pc : Nat) (z : Int) (n : Nat) : Prop := (∃ f : Fin 2, decode q.2.2.1 pc = .ok (.lconst f, 1) ∧ Int64.ofNat (f : Nat) = lI z ∧ pc + 1 = n) ∨ (∃ idx : Nat, decode q.2.2.1 pc = .ok (.ldc2_w idx, 3) ∧ Cond.constantLong q.1 idx (lI z) ∈ tb ∧ pc + 3 = n)
def Dinc (q : MKT) (pc i : Nat) (z : Int) (n : Nat) : Prop := decode q.2.2.1 pc = .ok (.iinc i z, 3) ∧ pc + 3 = n ∧ i < q.2.2.2.1
def Db (q : MKT) (pc : Nat) (f : Int → Instr) (n t : Nat) : Prop := ∃ off : Int, decode q.2.2.1 pc = .ok (f off, 3) ∧ pc + 3 = n ∧ (pc : Int) + off = (t : Int)

theorem Go_iload {i : Nat} {a : Int} (d : DlI q pc i n) (h : lg i lv = some (vI a)) (k : Go G q n lv (vI a :: st) S Post) : Go G q pc lv st S Post := by
  intro p e R s m args below meth c cells slots Q H locs ls X hc hs K hl hP hS
  rcases d with ⟨f, d, hi, rfl⟩ | ⟨d, rfl⟩
  · exact lv_iload_n X.1 X.2.1 d hi (hl.at h) (k p e R s m args below meth c cells slots Q H locs ls X hc hs K hl hP hS)
  · exact lv_iload X.1 X.2.1 d (hl.at h) (k p e R s m args below meth c cells slots Q H locs ls X hc hs K hl hP hS)
theorem Go_lload {i : Nat} {a : Int} (d : DlL q pc i n) (h : lg i lv = some (vL a)) (k : Go G q n lv (vL a :: st) S Post) : Go G q pc lv st S Post := by
  intro p e R s m args below meth c cells slots Q H locs ls X hc hs K hl hP hS
  rcases d with ⟨f, d, hi, rfl⟩ | ⟨d, rfl⟩
  · exact lv_lload_n X.1 X.2.1 d hi (hl.at h) (k p e R s m args below meth c cells slots Q H locs ls X hc hs K hl hP hS)
  · exact lv_lload X.1 X.2.1 d (hl.at h) (k p e R s m args below meth c cells slots Q H locs ls X hc hs K hl hP hS)
theorem Go_aload {i : Nat} {v : Value} (d : DlA q pc i n) (h : lg i lv = some v) (hv : ∃ x, v = .ref x) (k : Go G q n lv (v :: st) S Post) : Go G q pc lv st S Post := by
  intro p e R s m args below meth c cells slots Q H locs ls X hc hs K hl hP hS
  obtain ⟨x, rfl⟩ := hv
  rcases d with ⟨f, d, hi, rfl⟩ | ⟨d, rfl⟩
  · exact lv_aload_n X.1 X.2.1 d hi (hl.at h) (k p e R s m args below meth c cells slots Q H locs ls X hc hs K hl hP hS)
  · exact lv_aload X.1 X.2.1 d (hl.at h) (k p e R s m args below meth c cells slots Q H locs ls X hc hs K hl hP hS)
theorem Go_istore {i : Nat} {a : Int} {lv1 : List (Option Value)} (d : DsI q pc i n) (hn : nl i lv = true) (h : ls1 (vI a) i lv = lv1) (k : Go G q n lv1 st S Post) : Go G q pc lv (vI a :: st) S Post := by
  intro p e R s m args below meth c cells slots Q H locs ls X hc hs K hl hP hS
  subst h
  obtain ⟨d, hi2⟩ := d
  rcases d with ⟨f, d, hi, rfl⟩ | ⟨d, rfl⟩
  · exact lv_istore_n X.1 X.2.1 d hi hl hi2 rfl (fun ls hl2 => k p e R s m args below meth c cells slots Q H locs ls X hc hs K (lvH.cut1 hn hl2) hP hS)
  · exact lv_istore X.1 X.2.1 d hl hi2 rfl (fun ls hl2 => k p e R s m args below meth c cells slots Q H locs ls X hc hs K (lvH.cut1 hn hl2) hP hS)
theorem Go_astore {i : Nat} {v : Value} {lv1 : List (Option Value)} (d : DsA q pc i n) (hv : ∃ x, v = .ref x) (hn : nl i lv = true) (h : ls1 v i lv = lv1) (k : Go G q n lv1 st S Post) : Go G q pc lv (v :: st) S Post := by
  intro p e R s m args below meth c cells slots Q H locs ls X hc hs K hl hP hS
  subst h
  obtain ⟨x, rfl⟩ := hv
  obtain ⟨d, hi2⟩ := d
  rcases d with ⟨f, d, hi, rfl⟩ | ⟨d, rfl⟩
  · exact lv_astore_n X.1 X.2.1 d hi hl hi2 rfl (fun ls hl2 => k p e R s m args below meth c cells slots Q H locs ls X hc hs K (lvH.cut1 hn hl2) hP hS)
  · exact lv_astore X.1 X.2.1 d hl hi2 rfl (fun ls hl2 => k p e R s m args below meth c cells slots Q H locs ls X hc hs K (lvH.cut1 hn hl2) hP hS)
def ls2 (v : Value) : Nat → List (Option Value) → List (Option Value)
  | _, [] => []
  | 0, [_] => [some v]
  | 0, _ :: _ :: r => some v :: none :: r
  | i + 1, a :: r => a :: ls2 v i r
theorem lg_ls2 (v : Value) : ∀ (lv : List (Option Value)) (i k : Nat) (x : Value), lg k (ls2 v i lv) = some x → (k = i ∧ x = v) ∨ (k ≠ i ∧ k ≠ i + 1 ∧ lg k lv = some x) := by
  intro lv
  induction lv with
  | nil => intro i k x h; simp [ls2, lg] at h
  | cons a r ih =>
    intro i k x h
    cases i with
    | zero =>
      cases r with
      | nil =>
        cases k with
        | zero => simp [ls2, lg] at h; exact Or.inl ⟨rfl, h.symm⟩
        | succ k => simp [ls2, lg] at h
      | cons b r =>
        match k with
        | 0 => simp [ls2, lg] at h; exact Or.inl ⟨rfl, h.symm⟩
        | 1 => simp [ls2, lg] at h
        | k + 2 => simp [ls2, lg] at h; exact Or.inr ⟨by omega, by omega, by simpa [lg] using h⟩
    | succ i =>
      cases k with
      | zero => simp [ls2, lg] at h; exact Or.inr ⟨by omega, by omega, by simpa [lg] using h⟩
      | succ k =>
        simp only [ls2, lg] at h
        rcases ih i k x h with h | h
        · exact Or.inl ⟨by omega, h.2⟩
        · exact Or.inr ⟨by omega, by omega, h.2.2⟩
theorem lvH.cut2 {ls' : Array Slot} {n i : Nat} {lv : List (Option Value)} {v : Value} (hn : nl i lv = true) (h : lv_has ls' n ((i, v) :: (lvL 0 lv).filter (fun q => !(q.1 == i) && (!(q.1 == i + 1) && !(q.1 + 1 == i && q.2.category == 2))))) : lvH ls' n (ls2 v i lv) := by
  refine ⟨h.1, h.2.1, fun q hq => ?_⟩
  obtain ⟨k, hk, hv⟩ := (lvL_mem _ 0 q).mp hq
  rw [Nat.zero_add] at hk
  apply h.2.2
  rcases lg_ls2 _ _ _ _ _ hv with ⟨h1, h2⟩ | ⟨h1, h2, h3⟩
  · obtain ⟨q1, q2⟩ := q
    dsimp only at hk h2
    rw [hk, h1, h2]
    exact List.mem_cons_self
  · refine List.mem_cons_of_mem _ (List.mem_filter.mpr ⟨(lvL_mem lv 0 q).mpr ⟨k, by omega, h3⟩, ?_⟩)
    simp only [Bool.and_eq_true, Bool.not_eq_true', beq_eq_false_iff_ne, Bool.and_eq_false_iff]
    refine ⟨by omega, by omega, ?_⟩
    by_cases h5 : q.1 + 1 = i
    · right
      have h6 : i = k + 1 := by omega
      rw [h6] at hn
      unfold nl at hn
      dsimp only at hn
      rw [h3] at hn
      dsimp only at hn
      have := (beq_iff_eq).mp hn
      rw [this]
      decide
    · left
      exact h5
theorem Go_lstore {i : Nat} {a : Int} {lv1 : List (Option Value)} (d : DsL q pc i n) (hn : nl i lv = true) (h : ls2 (vL a) i lv = lv1) (k : Go G q n lv1 st S Post) : Go G q pc lv (vL a :: st) S Post := by
  intro p e R s m args below meth c cells slots Q H locs ls X hc hs K hl hP hS
  subst h
  obtain ⟨d, hi2⟩ := d
  rcases d with ⟨f, d, hi, rfl⟩ | ⟨d, rfl⟩
  · exact lv_lstore_n X.1 X.2.1 d hi hl hi2 rfl (fun ls hl2 => k p e R s m args below meth c cells slots Q H locs ls X hc hs K (lvH.cut2 hn hl2) hP hS)
  · exact lv_lstore X.1 X.2.1 d hl hi2 rfl (fun ls hl2 => k p e R s m args below meth c cells slots Q H locs ls X hc hs K (lvH.cut2 hn hl2) hP hS)
theorem Go_iinc {i : Nat} {a z : Int} {lv1 : List (Option Value)} (d : Dinc q pc i z n) (hg : lg i lv = some (vI a)) (hn : nl i lv = true) (h : ls1 (vI (a + z)) i lv = lv1) (k : Go G q n lv1 st S Post) : Go G q pc lv st S Post := by
  intro p e R s m args below meth c cells slots Q H locs ls X hc hs K hl hP hS
  subst h
  obtain ⟨d, rfl, hm⟩ := d
  obtain ⟨j, hj⟩ := List.getElem?_of_mem ((lvL_mem lv 0 (i, vI a)).mpr ⟨i, by simp, hg⟩)
  exact lv_iinc X.1 X.2.1 d hl hj (iI_add a z) hm rfl (fun ls hl2 => k p e R s m args below meth c cells slots Q H locs ls X hc hs K (lvH.cut1 hn hl2) hP hS)
theorem Go_const {z : Int} (d : Dc q pc z n) (k : Go G q n lv (vI z :: st) S Post) : Go G q pc lv st S Post := by
  intro p e R s m args below meth c cells slots Q H locs ls X hc hs K hl hP hS
  rcases d with ⟨d, rfl⟩ | ⟨d, h, rfl⟩ | ⟨d, h, rfl⟩ | ⟨idx, d, h, rfl⟩
  · exact lv_iconst X.1 X.2.1 d rfl (k p e R s m args below meth c cells slots Q H locs ls X hc hs K hl hP hS)
  · exact lv_bipush X.1 X.2.1 d h (k p e R s m args below meth c cells slots Q H locs ls X hc hs K hl hP hS)
  · exact lv_sipush X.1 X.2.1 d h (k p e R s m args below meth c cells slots Q H locs ls X hc hs K hl hP hS)
  · exact lv_ldc X.1 X.2.1 X.2.2.2.1 (X.2.2.2.2.1 _ h) d (k p e R s m args below meth c cells slots Q H locs ls X hc hs K hl hP hS)
theorem Go_lconst {z : Int} (d : DcL q pc z n) (k : Go G q n lv (vL z :: st) S Post) : Go G q pc lv st S Post := by
  intro p e R s m args below meth c cells slots Q H locs ls X hc hs K hl hP hS
  rcases d with ⟨f, d, h, rfl⟩ | ⟨idx, d, h, rfl⟩
  · exact lv_lconst X.1 X.2.1 d h (k p e R s m args below meth c cells slots Q H locs ls X hc hs K hl hP hS)
  · exact lv_ldc2 X.1 X.2.1 X.2.2.2.1 (X.2.2.2.2.1 _ h) d (k p e R s m args below meth c cells slots Q H locs ls X hc hs K hl hP hS)
theorem Go_iadd {a b : Int} (d : Dk q pc .iadd 1 n)  (k : Go G q n lv (vI (a + b) :: st) S Post) : Go G q pc lv (vI b :: vI a :: st) S Post := by
  intro p e R s m args below meth c cells slots Q H locs ls X hc hs K hl hP hS
  obtain ⟨d, rfl⟩ := d
  refine lv_iadd X.1 X.2.1 d ?_
  rw [iI_add]
  exact k p e R s m args below meth c cells slots Q H locs ls X hc hs K hl hP hS
theorem Go_isub {a b : Int} (d : Dk q pc .isub 1 n)  (k : Go G q n lv (vI (a - b) :: st) S Post) : Go G q pc lv (vI b :: vI a :: st) S Post := by
  intro p e R s m args below meth c cells slots Q H locs ls X hc hs K hl hP hS
  obtain ⟨d, rfl⟩ := d
  refine lv_isub X.1 X.2.1 d ?_
  rw [iI_sub]
  exact k p e R s m args below meth c cells slots Q H locs ls X hc hs K hl hP hS
theorem Go_imul {a b : Int} (d : Dk q pc .imul 1 n)  (k : Go G q n lv (vI (a * b) :: st) S Post) : Go G q pc lv (vI b :: vI a :: st) S Post := by
  intro p e R s m args below meth c cells slots Q H locs ls X hc hs K hl hP hS
  obtain ⟨d, rfl⟩ := d
  refine lv_imul X.1 X.2.1 d ?_
  rw [iI_mul]
  exact k p e R s m args below meth c cells slots Q H locs ls X hc hs K hl hP hS
theorem Go_ladd {a b : Int} (d : Dk q pc .ladd 1 n)  (k : Go G q n lv (vL (a + b) :: st) S Post) : Go G q pc lv (vL b :: vL a :: st) S Post := by
  intro p e R s m args below meth c cells slots Q H locs ls X hc hs K hl hP hS
  obtain ⟨d, rfl⟩ := d
  refine lv_ladd X.1 X.2.1 d ?_
  rw [lI_add]
  exact k p e R s m args below meth c cells slots Q H locs ls X hc hs K hl hP hS
theorem Go_lsub {a b : Int} (d : Dk q pc .lsub 1 n)  (k : Go G q n lv (vL (a - b) :: st) S Post) : Go G q pc lv (vL b :: vL a :: st) S Post := by
  intro p e R s m args below meth c cells slots Q H locs ls X hc hs K hl hP hS
  obtain ⟨d, rfl⟩ := d
  refine lv_lsub X.1 X.2.1 d ?_
  rw [lI_sub]
  exact k p e R s m args below meth c cells slots Q H locs ls X hc hs K hl hP hS
theorem Go_lmul {a b : Int} (d : Dk q pc .lmul 1 n)  (k : Go G q n lv (vL (a * b) :: st) S Post) : Go G q pc lv (vL b :: vL a :: st) S Post := by
  intro p e R s m args below meth c cells slots Q H locs ls X hc hs K hl hP hS
  obtain ⟨d, rfl⟩ := d
  refine lv_lmul X.1 X.2.1 d ?_
  rw [lI_mul]
  exact k p e R s m args below meth c cells slots Q H locs ls X hc hs K hl hP hS
theorem Go_idiv {a b : Int} (d : Dk q pc .idiv 1 n) (ha : 0 ≤ a ∧ a < 2147483648) (hb : 0 < b ∧ b < 2147483648) (k : Go G q n lv (vI (a / b) :: st) S Post) : Go G q pc lv (vI b :: vI a :: st) S Post := by
  intro p e R s m args below meth c cells slots Q H locs ls X hc hs K hl hP hS
  obtain ⟨d, rfl⟩ := d
  refine lv_idiv X.1 X.2.1 d (fun h => by have := (iI_eq (a := b) (b := 0) (by omega) (by omega)).mp h; omega) ?_
  rw [iI_div ha hb]
  exact k p e R s m args below meth c cells slots Q H locs ls X hc hs K hl hP hS
theorem Go_irem {a b : Int} (d : Dk q pc .irem 1 n) (ha : 0 ≤ a ∧ a < 2147483648) (hb : 0 < b ∧ b < 2147483648) (k : Go G q n lv (vI (a % b) :: st) S Post) : Go G q pc lv (vI b :: vI a :: st) S Post := by
  intro p e R s m args below meth c cells slots Q H locs ls X hc hs K hl hP hS
  obtain ⟨d, rfl⟩ := d
  refine lv_irem X.1 X.2.1 d (fun h => by have := (iI_eq (a := b) (b := 0) (by omega) (by omega)).mp h; omega) ?_
  rw [iI_rem ha hb]
  exact k p e R s m args below meth c cells slots Q H locs ls X hc hs K hl hP hS
theorem Go_ldiv {a b : Int} (d : Dk q pc .ldiv 1 n) (ha : 0 ≤ a ∧ a < 9223372036854775808) (hb : 0 < b ∧ b < 9223372036854775808) (k : Go G q n lv (vL (a / b) :: st) S Post) : Go G q pc lv (vL b :: vL a :: st) S Post := by
  intro p e R s m args below meth c cells slots Q H locs ls X hc hs K hl hP hS
  obtain ⟨d, rfl⟩ := d
  refine lv_ldiv X.1 X.2.1 d (fun h => by have := (lI_eq (a := b) (b := 0) (by omega) (by omega)).mp h; omega) ?_
  rw [lI_div ha hb]
  exact k p e R s m args below meth c cells slots Q H locs ls X hc hs K hl hP hS
theorem Go_lrem {a b : Int} (d : Dk q pc .lrem 1 n) (ha : 0 ≤ a ∧ a < 9223372036854775808) (hb : 0 < b ∧ b < 9223372036854775808) (k : Go G q n lv (vL (a % b) :: st) S Post) : Go G q pc lv (vL b :: vL a :: st) S Post := by
  intro p e R s m args below meth c cells slots Q H locs ls X hc hs K hl hP hS
  obtain ⟨d, rfl⟩ := d
  refine lv_lrem X.1 X.2.1 d (fun h => by have := (lI_eq (a := b) (b := 0) (by omega) (by omega)).mp h; omega) ?_
  rw [lI_rem ha hb]
  exact k p e R s m args below meth c cells slots Q H locs ls X hc hs K hl hP hS
theorem Go_and31 {a : Int} (d : Dk q pc .iand 1 n)  (k : Go G q n lv (vI (a % 32) :: st) S Post) : Go G q pc lv (vI 31 :: vI a :: st) S Post := by
  intro p e R s m args below meth c cells slots Q H locs ls X hc hs K hl hP hS
  obtain ⟨d, rfl⟩ := d
  refine lv_iand X.1 X.2.1 d ?_
  rw [show iI a &&& iI 31 = iI (a % 32) from iI_and a 5 rfl (by decide)]
  exact k p e R s m args below meth c cells slots Q H locs ls X hc hs K hl hP hS
theorem Go_andM {a : Int} (d : Dk q pc .iand 1 n)  (k : Go G q n lv (vI (a % 2147483648) :: st) S Post) : Go G q pc lv (vI 2147483647 :: vI a :: st) S Post := by
  intro p e R s m args below meth c cells slots Q H locs ls X hc hs K hl hP hS
  obtain ⟨d, rfl⟩ := d
  refine lv_iand X.1 X.2.1 d ?_
  rw [show iI a &&& iI 2147483647 = iI (a % 2147483648) from iI_and a 31 rfl (by decide)]
  exact k p e R s m args below meth c cells slots Q H locs ls X hc hs K hl hP hS
theorem Go_shr16 {a : Int} (d : Dk q pc .ishr 1 n) (ha : 0 ≤ a ∧ a < 2147483648) (k : Go G q n lv (vI (a / 65536) :: st) S Post) : Go G q pc lv (vI 16 :: vI a :: st) S Post := by
  intro p e R s m args below meth c cells slots Q H locs ls X hc hs K hl hP hS
  obtain ⟨d, rfl⟩ := d
  refine lv_ishr X.1 X.2.1 d ?_
  rw [iI_shr16 ha]
  exact k p e R s m args below meth c cells slots Q H locs ls X hc hs K hl hP hS
theorem Go_shl1 {b : Nat} (d : Dk q pc .ishl 1 n) (hb : b < 4) (k : Go G q n lv (vI ((2 ^ b : Nat) : Int) :: st) S Post) : Go G q pc lv (vI (b : Int) :: vI 1 :: st) S Post := by
  intro p e R s m args below meth c cells slots Q H locs ls X hc hs K hl hP hS
  obtain ⟨d, rfl⟩ := d
  refine lv_ishl X.1 X.2.1 d ?_
  rw [iI_shl1 b hb]
  exact k p e R s m args below meth c cells slots Q H locs ls X hc hs K hl hP hS
theorem Go_ior {a b : Int} (d : Dk q pc .ior 1 n) (ha : 0 ≤ a ∧ a < 2147483648) (hb : 0 ≤ b ∧ b < 2147483648) (k : Go G q n lv (vI (orI a b) :: st) S Post) : Go G q pc lv (vI b :: vI a :: st) S Post := by
  intro p e R s m args below meth c cells slots Q H locs ls X hc hs K hl hP hS
  obtain ⟨d, rfl⟩ := d
  refine lv_ior X.1 X.2.1 d ?_
  rw [iI_or ha hb]
  exact k p e R s m args below meth c cells slots Q H locs ls X hc hs K hl hP hS
theorem Go_i2l {a : Int} (d : Dk q pc .i2l 1 n) (ha : -2147483648 ≤ a ∧ a < 2147483648) (k : Go G q n lv (vL a :: st) S Post) : Go G q pc lv (vI a :: st) S Post := by
  intro p e R s m args below meth c cells slots Q H locs ls X hc hs K hl hP hS
  obtain ⟨d, rfl⟩ := d
  refine lv_i2l X.1 X.2.1 d (iI_l ha) ?_
  skip
  exact k p e R s m args below meth c cells slots Q H locs ls X hc hs K hl hP hS
theorem Go_l2i {a : Int} (d : Dk q pc .l2i 1 n)  (k : Go G q n lv (vI a :: st) S Post) : Go G q pc lv (vL a :: st) S Post := by
  intro p e R s m args below meth c cells slots Q H locs ls X hc hs K hl hP hS
  obtain ⟨d, rfl⟩ := d
  refine lv_l2i X.1 X.2.1 d (lI_i a) ?_
  skip
  exact k p e R s m args below meth c cells slots Q H locs ls X hc hs K hl hP hS
theorem Go_i2b {a : Int} (d : Dk q pc .i2b 1 n)  (k : Go G q n lv (vI (w8 a) :: st) S Post) : Go G q pc lv (vI a :: st) S Post := by
  intro p e R s m args below meth c cells slots Q H locs ls X hc hs K hl hP hS
  obtain ⟨d, rfl⟩ := d
  refine lv_i2b X.1 X.2.1 d (iI_b a) ?_
  skip
  exact k p e R s m args below meth c cells slots Q H locs ls X hc hs K hl hP hS
theorem Go_i2s {a : Int} (d : Dk q pc .i2s 1 n)  (k : Go G q n lv (vI (w16 a) :: st) S Post) : Go G q pc lv (vI a :: st) S Post := by
  intro p e R s m args below meth c cells slots Q H locs ls X hc hs K hl hP hS
  obtain ⟨d, rfl⟩ := d
  refine lv_i2s X.1 X.2.1 d (iI_s a) ?_
  skip
  exact k p e R s m args below meth c cells slots Q H locs ls X hc hs K hl hP hS
theorem Go_lcmp {a b : Int} (d : Dk q pc .lcmp 1 n) (ha : -9223372036854775808 ≤ a ∧ a < 9223372036854775808) (hb : -9223372036854775808 ≤ b ∧ b < 9223372036854775808) (k : Go G q n lv (vI (cmpI a b) :: st) S Post) : Go G q pc lv (vL b :: vL a :: st) S Post := by
  intro p e R s m args below meth c cells slots Q H locs ls X hc hs K hl hP hS
  obtain ⟨d, rfl⟩ := d
  refine W.lcmp X.1 X.2.1 d ?_
  rw [lI_cmp ha hb]
  exact k p e R s m args below meth c cells slots Q H locs ls X hc hs K hl hP hS
theorem Go_dup {v : Value} (d : Dk q pc .dup 1 n) (hv : v.category = 1) (k : Go G q n lv (v :: v :: st) S Post) : Go G q pc lv (v :: st) S Post := by
  intro p e R s m args below meth c cells slots Q H locs ls X hc hs K hl hP hS
  obtain ⟨d, rfl⟩ := d
  refine lv_dup X.1 X.2.1 d hv ?_
  skip
  exact k p e R s m args below meth c cells slots Q H locs ls X hc hs K hl hP hS
theorem Go_dup2 {u v : Value} (d : Dk q pc .dup2 1 n) (hu : u.category = 1) (hv : v.category = 1) (k : Go G q n lv (u :: v :: u :: v :: st) S Post) : Go G q pc lv (u :: v :: st) S Post := by
  intro p e R s m args below meth c cells slots Q H locs ls X hc hs K hl hP hS
  obtain ⟨d, rfl⟩ := d
  refine lv_dup2_11 X.1 X.2.1 d hu hv ?_
  skip
  exact k p e R s m args below meth c cells slots Q H locs ls X hc hs K hl hP hS
theorem Go_pop {v : Value} (d : Dk q pc .pop 1 n) (hv : v.category = 1) (k : Go G q n lv st S Post) : Go G q pc lv (v :: st) S Post := by
  intro p e R s m args below meth c cells slots Q H locs ls X hc hs K hl hP hS
  obtain ⟨d, rfl⟩ := d
  exact lv_pop X.1 X.2.1 d hv (k p e R s m args below meth c cells slots Q H locs ls X hc hs K hl hP hS)
theorem Go_goto (d : Db q pc .goto n t) (k : Go G q t lv st S Post) : Go G q pc lv st S Post := by
  intro p e R s m args below meth c cells slots Q H locs ls X hc hs K hl hP hS
  obtain ⟨off, d, -, ht⟩ := d
  exact lv_goto X.1 X.2.1 d ht (k p e R s m args below meth c cells slots Q H locs ls X hc hs K hl hP hS)
theorem Go_icmp_eq {a b : Int} (d : Db q pc (.if_icmp .eq) n t) (ha : -2147483648 ≤ a ∧ a < 2147483648) (hb : -2147483648 ≤ b ∧ b < 2147483648) (kt : a = b → Go G q t lv st S Post) (kf : a ≠ b → Go G q n lv st S Post) : Go G q pc lv (vI b :: vI a :: st) S Post := by
  intro p e R s m args below meth c cells slots Q H locs ls X hc hs K hl hP hS
  obtain ⟨off, d, rfl, ht⟩ := d
  exact lv_icmp_eq X.1 X.2.1 d ht (fun h => kt ((iI_eq ha hb).mp h) p e R s m args below meth c cells slots Q H locs ls X hc hs K hl hP hS) (fun h => kf (fun e => h ((iI_eq ha hb).mpr e)) p e R s m args below meth c cells slots Q H locs ls X hc hs K hl hP hS)
theorem Go_if_eq {a : Int} (d : Db q pc (.ifCond .eq) n t) (ha : -2147483648 ≤ a ∧ a < 2147483648) (kt : a = 0 → Go G q t lv st S Post) (kf : a ≠ 0 → Go G q n lv st S Post) : Go G q pc lv (vI a :: st) S Post := by
  intro p e R s m args below meth c cells slots Q H locs ls X hc hs K hl hP hS
  obtain ⟨off, d, rfl, ht⟩ := d
  have hb : -2147483648 ≤ (0 : Int) ∧ (0 : Int) < 2147483648 := by omega
  exact lv_if_eq X.1 X.2.1 d ht (fun h => kt ((iI_eq ha hb).mp h) p e R s m args below meth c cells slots Q H locs ls X hc hs K hl hP hS) (fun h => kf (fun e => h ((iI_eq ha hb).mpr e)) p e R s m args below meth c cells slots Q H locs ls X hc hs K hl hP hS)
theorem Go_ifc_eq {a b : Int} (d : Db q pc (.ifCond .eq) n t) (kt : a = b → Go G q t lv st S Post) (kf : a ≠ b → Go G q n lv st S Post) : Go G q pc lv (vI (cmpI a b) :: st) S Post := by
  refine Go_if_eq d (by unfold cmpI; split <;> (try split) <;> decide) (fun h => kt ?_) (fun h => kf ?_) <;> (unfold cmpI at h; split at h <;> (try split at h) <;> omega)
theorem Go_icmp_ne {a b : Int} (d : Db q pc (.if_icmp .ne) n t) (ha : -2147483648 ≤ a ∧ a < 2147483648) (hb : -2147483648 ≤ b ∧ b < 2147483648) (kt : a ≠ b → Go G q t lv st S Post) (kf : a = b → Go G q n lv st S Post) : Go G q pc lv (vI b :: vI a :: st) S Post := by
  intro p e R s m args below meth c cells slots Q H locs ls X hc hs K hl hP hS
  obtain ⟨off, d, rfl, ht⟩ := d
  exact lv_icmp_ne X.1 X.2.1 d ht (fun h => kt (fun e => h ((iI_eq ha hb).mpr e)) p e R s m args below meth c cells slots Q H locs ls X hc hs K hl hP hS) (fun h => kf ((iI_eq ha hb).mp h) p e R s m args below meth c cells slots Q H locs ls X hc hs K hl hP hS)
theorem Go_if_ne {a : Int} (d : Db q pc (.ifCond .ne) n t) (ha : -2147483648 ≤ a ∧ a < 2147483648) (kt : a ≠ 0 → Go G q t lv st S Post) (kf : a = 0 → Go G q n lv st S Post) : Go G q pc lv (vI a :: st) S Post := by
  intro p e R s m args below meth c cells slots Q H locs ls X hc hs K hl hP hS
  obtain ⟨off, d, rfl, ht⟩ := d
  have hb : -2147483648 ≤ (0 : Int) ∧ (0 : Int) < 2147483648 := by omega
  exact lv_if_ne X.1 X.2.1 d ht (fun h => kt (fun e => h ((iI_eq ha hb).mpr e)) p e R s m args below meth c cells slots Q H locs ls X hc hs K hl hP hS) (fun h => kf ((iI_eq ha hb).mp h) p e R s m args below meth c cells slots Q H locs ls X hc hs K hl hP hS)
theorem Go_ifc_ne {a b : Int} (d : Db q pc (.ifCond .ne) n t) (kt : a ≠ b → Go G q t lv st S Post) (kf : a = b → Go G q n lv st S Post) : Go G q pc lv (vI (cmpI a b) :: st) S Post := by
  refine Go_if_ne d (by unfold cmpI; split <;> (try split) <;> decide) (fun h => kt ?_) (fun h => kf ?_) <;> (unfold cmpI at h; split at h <;> (try split at h) <;> omega)
theorem Go_icmp_lt {a b : Int} (d : Db q pc (.if_icmp .lt) n t) (ha : -2147483648 ≤ a ∧ a < 2147483648) (hb : -2147483648 ≤ b ∧ b < 2147483648) (kt : a < b → Go G q t lv st S Post) (kf : b ≤ a → Go G q n lv st S Post) : Go G q pc lv (vI b :: vI a :: st) S Post := by
  intro p e R s m args below meth c cells slots Q H locs ls X hc hs K hl hP hS
  obtain ⟨off, d, rfl, ht⟩ := d
  exact lv_icmp_lt X.1 X.2.1 d ht (fun h => kt ((iI_lt ha hb).mp h) p e R s m args below meth c cells slots Q H locs ls X hc hs K hl hP hS) (fun h => kf (Int.not_lt.mp (fun e => h ((iI_lt ha hb).mpr e))) p e R s m args below meth c cells slots Q H locs ls X hc hs K hl hP hS)
theorem Go_if_lt {a : Int} (d : Db q pc (.ifCond .lt) n t) (ha : -2147483648 ≤ a ∧ a < 2147483648) (kt : a < 0 → Go G q t lv st S Post) (kf : 0 ≤ a → Go G q n lv st S Post) : Go G q pc lv (vI a :: st) S Post := by
  intro p e R s m args below meth c cells slots Q H locs ls X hc hs K hl hP hS
  obtain ⟨off, d, rfl, ht⟩ := d
  have hb : -2147483648 ≤ (0 : Int) ∧ (0 : Int) < 2147483648 := by omega
  exact lv_if_lt X.1 X.2.1 d ht (fun h => kt ((iI_lt ha hb).mp h) p e R s m args below meth c cells slots Q H locs ls X hc hs K hl hP hS) (fun h => kf (Int.not_lt.mp (fun e => h ((iI_lt ha hb).mpr e))) p e R s m args below meth c cells slots Q H locs ls X hc hs K hl hP hS)
theorem Go_ifc_lt {a b : Int} (d : Db q pc (.ifCond .lt) n t) (kt : a < b → Go G q t lv st S Post) (kf : b ≤ a → Go G q n lv st S Post) : Go G q pc lv (vI (cmpI a b) :: st) S Post := by
  refine Go_if_lt d (by unfold cmpI; split <;> (try split) <;> decide) (fun h => kt ?_) (fun h => kf ?_) <;> (unfold cmpI at h; split at h <;> (try split at h) <;> omega)
theorem Go_icmp_ge {a b : Int} (d : Db q pc (.if_icmp .ge) n t) (ha : -2147483648 ≤ a ∧ a < 2147483648) (hb : -2147483648 ≤ b ∧ b < 2147483648) (kt : b ≤ a → Go G q t lv st S Post) (kf : a < b → Go G q n lv st S Post) : Go G q pc lv (vI b :: vI a :: st) S Post := by
  intro p e R s m args below meth c cells slots Q H locs ls X hc hs K hl hP hS
  obtain ⟨off, d, rfl, ht⟩ := d
  exact lv_icmp_ge X.1 X.2.1 d ht (fun h => kt ((iI_le hb ha).mp h) p e R s m args below meth c cells slots Q H locs ls X hc hs K hl hP hS) (fun h => kf (Int.not_le.mp (fun e => h ((iI_le hb ha).mpr e))) p e R s m args below meth c cells slots Q H locs ls X hc hs K hl hP hS)
theorem Go_if_ge {a : Int} (d : Db q pc (.ifCond .ge) n t) (ha : -2147483648 ≤ a ∧ a < 2147483648) (kt : 0 ≤ a → Go G q t lv st S Post) (kf : a < 0 → Go G q n lv st S Post) : Go G q pc lv (vI a :: st) S Post := by
  intro p e R s m args below meth c cells slots Q H locs ls X hc hs K hl hP hS
  obtain ⟨off, d, rfl, ht⟩ := d
  have hb : -2147483648 ≤ (0 : Int) ∧ (0 : Int) < 2147483648 := by omega
  exact lv_if_ge X.1 X.2.1 d ht (fun h => kt ((iI_le hb ha).mp h) p e R s m args below meth c cells slots Q H locs ls X hc hs K hl hP hS) (fun h => kf (Int.not_le.mp (fun e => h ((iI_le hb ha).mpr e))) p e R s m args below meth c cells slots Q H locs ls X hc hs K hl hP hS)
theorem Go_ifc_ge {a b : Int} (d : Db q pc (.ifCond .ge) n t) (kt : b ≤ a → Go G q t lv st S Post) (kf : a < b → Go G q n lv st S Post) : Go G q pc lv (vI (cmpI a b) :: st) S Post := by
  refine Go_if_ge d (by unfold cmpI; split <;> (try split) <;> decide) (fun h => kt ?_) (fun h => kf ?_) <;> (unfold cmpI at h; split at h <;> (try split at h) <;> omega)
theorem Go_icmp_gt {a b : Int} (d : Db q pc (.if_icmp .gt) n t) (ha : -2147483648 ≤ a ∧ a < 2147483648) (hb : -2147483648 ≤ b ∧ b < 2147483648) (kt : b < a → Go G q t lv st S Post) (kf : a ≤ b → Go G q n lv st S Post) : Go G q pc lv (vI b :: vI a :: st) S Post := by
  intro p e R s m args below meth c cells slots Q H locs ls X hc hs K hl hP hS
  obtain ⟨off, d, rfl, ht⟩ := d
  exact lv_icmp_gt X.1 X.2.1 d ht (fun h => kt ((iI_lt hb ha).mp h) p e R s m args below meth c cells slots Q H locs ls X hc hs K hl hP hS) (fun h => kf (Int.not_lt.mp (fun e => h ((iI_lt hb ha).mpr e))) p e R s m args below meth c cells slots Q H locs ls X hc hs K hl hP hS)
theorem Go_if_gt {a : Int} (d : Db q pc (.ifCond .gt) n t) (ha : -2147483648 ≤ a ∧ a < 2147483648) (kt : 0 < a → Go G q t lv st S Post) (kf : a ≤ 0 → Go G q n lv st S Post) : Go G q pc lv (vI a :: st) S Post := by
  intro p e R s m args below meth c cells slots Q H locs ls X hc hs K hl hP hS
  obtain ⟨off, d, rfl, ht⟩ := d
  have hb : -2147483648 ≤ (0 : Int) ∧ (0 : Int) < 2147483648 := by omega
  exact lv_if_gt X.1 X.2.1 d ht (fun h => kt ((iI_lt hb ha).mp h) p e R s m args below meth c cells slots Q H locs ls X hc hs K hl hP hS) (fun h => kf (Int.not_lt.mp (fun e => h ((iI_lt hb ha).mpr e))) p e R s m args below meth c cells slots Q H locs ls X hc hs K hl hP hS)
theorem Go_ifc_gt {a b : Int} (d : Db q pc (.ifCond .gt) n t) (kt : b < a → Go G q t lv st S Post) (kf : a ≤ b → Go G q n lv st S Post) : Go G q pc lv (vI (cmpI a b) :: st) S Post := by
  refine Go_if_gt d (by unfold cmpI; split <;> (try split) <;> decide) (fun h => kt ?_) (fun h => kf ?_) <;> (unfold cmpI at h; split at h <;> (try split at h) <;> omega)
theorem Go_icmp_le {a b : Int} (d : Db q pc (.if_icmp .le) n t) (ha : -2147483648 ≤ a ∧ a < 2147483648) (hb : -2147483648 ≤ b ∧ b < 2147483648) (kt : a ≤ b → Go G q t lv st S Post) (kf : b < a → Go G q n lv st S Post) : Go G q pc lv (vI b :: vI a :: st) S Post := by
  intro p e R s m args below meth c cells slots Q H locs ls X hc hs K hl hP hS
  obtain ⟨off, d, rfl, ht⟩ := d
  exact lv_icmp_le X.1 X.2.1 d ht (fun h => kt ((iI_le ha hb).mp h) p e R s m args below meth c cells slots Q H locs ls X hc hs K hl hP hS) (fun h => kf (Int.not_le.mp (fun e => h ((iI_le ha hb).mpr e))) p e R s m args below meth c cells slots Q H locs ls X hc hs K hl hP hS)
theorem Go_if_le {a : Int} (d : Db q pc (.ifCond .le) n t) (ha : -2147483648 ≤ a ∧ a < 2147483648) (kt : a ≤ 0 → Go G q t lv st S Post) (kf : 0 < a → Go G q n lv st S Post) : Go G q pc lv (vI a :: st) S Post := by
  intro p e R s m args below meth c cells slots Q H locs ls X hc hs K hl hP hS
  obtain ⟨off, d, rfl, ht⟩ := d
  have hb : -2147483648 ≤ (0 : Int) ∧ (0 : Int) < 2147483648 := by omega
  exact lv_if_le X.1 X.2.1 d ht (fun h => kt ((iI_le ha hb).mp h) p e R s m args below meth c cells slots Q H locs ls X hc hs K hl hP hS) (fun h => kf (Int.not_le.mp (fun e => h ((iI_le ha hb).mpr e))) p e R s m args below meth c cells slots Q H locs ls X hc hs K hl hP hS)
theorem Go_ifc_le {a b : Int} (d : Db q pc (.ifCond .le) n t) (kt : a ≤ b → Go G q t lv st S Post) (kf : b < a → Go G q n lv st S Post) : Go G q pc lv (vI (cmpI a b) :: st) S Post := by
  refine Go_if_le d (by unfold cmpI; split <;> (try split) <;> decide) (fun h => kt ?_) (fun h => kf ?_) <;> (unfold cmpI at h; split at h <;> (try split at h) <;> omega)
theorem Go_ifeq_b {P : Prop} [Decidable P] (d : Db q pc (.ifCond .eq) n t) (kt : ¬ P → Go G q t lv st S Post) (kf : P → Go G q n lv st S Post) : Go G q pc lv (vI (bI P) :: st) S Post := by
  refine Go_if_eq d (by unfold bI; split <;> decide) (fun h => kt ?_) (fun h => kf ?_) <;> (unfold bI at h; split at h <;> first | assumption | (exfalso; revert h; decide))
theorem Go_ifne_b {P : Prop} [Decidable P] (d : Db q pc (.ifCond .ne) n t) (kt : P → Go G q t lv st S Post) (kf : ¬ P → Go G q n lv st S Post) : Go G q pc lv (vI (bI P) :: st) S Post := by
  refine Go_if_ne d (by unfold bI; split <;> decide) (fun h => kt ?_) (fun h => kf ?_) <;> (unfold bI at h; split at h <;> first | assumption | (exfalso; revert h; decide))
theorem Go_tswOut {x dflt lo hi : Int} {offs : Array Int} {len : Nat} (d : decode q.2.2.1 pc = .ok (.tableswitch dflt lo hi offs, len)) (hx : -2147483648 ≤ x ∧ x < 2147483648) (h : x < lo ∨ hi < x) (ht : (pc : Int) + dflt = (t : Int)) (k : Go G q t lv st S Post) : Go G q pc lv (vI x :: st) S Post := by
  intro p e R s m args below meth c cells slots Q H locs ls X hc hs K hl hP hS
  exact lv_tableOut X.1 X.2.1 d (by rw [iI_toInt hx]; exact h) ht (k p e R s m args below meth c cells slots Q H locs ls X hc hs K hl hP hS)
theorem Go_tswIn {x dflt lo hi off : Int} {offs : Array Int} {len : Nat} (d : decode q.2.2.1 pc = .ok (.tableswitch dflt lo hi offs, len)) (hx : -2147483648 ≤ x ∧ x < 2147483648) (h1 : lo ≤ x) (h2 : x ≤ hi) (ho : offs[(x - lo).toNat]? = some off) (ht : (pc : Int) + off = (t : Int)) (k : Go G q t lv st S Post) : Go G q pc lv (vI x :: st) S Post := by
  intro p e R s m args below meth c cells slots Q H locs ls X hc hs K hl hP hS
  exact lv_tableIn X.1 X.2.1 d (by rw [iI_toInt hx]; omega) (by rw [iI_toInt hx]; omega) (by rw [iI_toInt hx]; exact ho) ht (k p e R s m args below meth c cells slots Q H locs ls X hc hs K hl hP hS)
theorem Go_lsw {x dflt off : Int} {ps : Array (Int × Int)} {len : Nat} (d : decode q.2.2.1 pc = .ok (.lookupswitch dflt ps, len)) (hp : (ps.toList.zip (ps.toList.drop 1)).all (fun (a, next) => a.1 < next.1) = true) (hx : -2147483648 ≤ x ∧ x < 2147483648) (ho : Op.lookupswitch.offset ps.toList dflt x = off) (ht : (pc : Int) + off = (t : Int)) (k : Go G q t lv st S Post) : Go G q pc lv (vI x :: st) S Post := by
  intro p e R s m args below meth c cells slots Q H locs ls X hc hs K hl hP hS
  exact lv_lookup X.1 X.2.1 d hp (by rw [iI_toInt hx]; exact ho) ht (k p e R s m args below meth c cells slots Q H locs ls X hc hs K hl hP hS)
def DrI (q : MKT) (pc : Nat) : Prop := decode q.2.2.1 pc = .ok (.ireturn, 1) ∧ q.2.2.2.2.1 = some .int
def DrZ (q : MKT) (pc : Nat) : Prop := decode q.2.2.1 pc = .ok (.ireturn, 1) ∧ q.2.2.2.2.1 = some .boolean
def DrL (q : MKT) (pc : Nat) : Prop := decode q.2.2.1 pc = .ok (.lreturn, 1) ∧ q.2.2.2.2.1 = some .long
def DrV (q : MKT) (pc : Nat) : Prop := decode q.2.2.1 pc = .ok (.return_, 1) ∧ q.2.2.2.2.1 = none
theorem Go_iret {a : Int} (d : DrI q pc) (h : Post (some (vI a)) S) : Go G q pc lv [vI a] S Post := by
  intro p e R s m args below meth c cells slots Q H locs ls X hc hs K hl hP hS
  exact K _ S H locs pc ls h (Or.inl ⟨_, rfl, d.1, Or.inl d.2⟩) hP hS
theorem Go_zret {a : Int} (d : DrZ q pc) (ha : a = 0 ∨ a = 1) (h : Post (some (vI a)) S) : Go G q pc lv [vI a] S Post := by
  intro p e R s m args below meth c cells slots Q H locs ls X hc hs K hl hP hS
  exact K _ S H locs pc ls h (Or.inl ⟨_, rfl, d.1, Or.inr ⟨d.2, by rcases ha with rfl | rfl <;> first | exact Or.inl rfl | exact Or.inr rfl⟩⟩) hP hS
theorem Go_lret {a : Int} (d : DrL q pc) (h : Post (some (vL a)) S) : Go G q pc lv [vL a] S Post := by
  intro p e R s m args below meth c cells slots Q H locs ls X hc hs K hl hP hS
  exact K _ S H locs pc ls h (Or.inr (Or.inl ⟨_, rfl, d.1, d.2⟩)) hP hS
theorem Go_vret (d : DrV q pc) (h : Post none S) : Go G q pc lv [] S Post := by
  intro p e R s m args below meth c cells slots Q H locs ls X hc hs K hl hP hS
  exact K _ S H locs pc ls h (Or.inr (Or.inr ⟨rfl, d.1, d.2⟩)) hP hS
theorem Go.mono {Post' : Option Value → St → Prop} (h : Go G q pc lv st S Post) (hp : ∀ r S', Post r S' → Post' r S') : Go G q pc lv st S Post' := by
  intro p e R s m args below meth c cells slots Q H locs ls X hc hs K hl hP hS
  exact h p e R s m args below meth c cells slots Q H locs ls X hc hs (fun r S' H' locs' pc' ls' h1 h2 h3 h4 => K r S' H' locs' pc' ls' (hp r S' h1) h2 h3 h4) hl hP hS
def FL (own : String) (idx ci k : Nat) : Prop := ∃ (C : String) (T : u_T) (N : Nat), vwCl[ci]? = some (C, T, N) ∧ k < N ∧ Cond.fieldLink own idx (T k).1 (T k).2.1 (T k).2.2.1 ∈ tb ∧ ∀ w ∈ u_ws C T N, w ∈ tb
def DG (q : MKT) (pc ci k n : Nat) : Prop := ∃ idx : Nat, decode q.2.2.1 pc = .ok (.getfield idx, 3) ∧ FL q.1 idx ci k ∧ pc + 3 = n
def FG (G : GT) (S : St) (c ci k : Nat) (v : Value) : Prop := c < 23 ∧ kd c = ci ∧ (fl G S c)[k]? = some v
theorem Go_get {c0 ci k : Nat} {v : Value} (d : DG q pc ci k n) (hv : FG G S c0 ci k v) (kk : Go G q n lv (v :: st) S Post) : Go G q pc lv (oR G c0 :: st) S Post := by
  intro p e R s m args below meth c cells slots Q H locs ls X hc hs K hl hP hS
  obtain ⟨idx, d, ⟨C, T, N, h1, h2, h3, h4⟩, rfl⟩ := d
  obtain ⟨g1, g2, g3⟩ := hv
  obtain ⟨j, -, hj⟩ := Wd_at (G := G) (S := S) (vs_obj c0 g1)
  subst g2
  exact va_get X.1 X.2.1 X.2.2.2.2.1 h4 X.2.2.2.1 X.2.2.2.2.2.1.1 hP j hj h1 k h2 (X.2.2.2.2.1 _ h3) (fun _ h => h) g3 d (kk p e R s m args below meth c cells slots Q H locs ls X hc hs K hl hP hS)
def FLw (own : String) (idx ci k : Nat) : Prop := ∃ (C : String) (T : u_T) (N : Nat) (ty0 : Nat → FieldType), vwCl[ci]? = some (C, T, N) ∧ k < N ∧ Cond.fieldLink own idx (T k).1 (T k).2.1 (T k).2.2.1 ∈ tb ∧ (∀ w ∈ u_ws C T N, w ∈ tb) ∧ (∀ k, k < N → parseFieldDescriptor (T k).2.2.1 = some (ty0 k)) ∧ (∀ a, a < N → ∀ b, b < N → a ≠ b → (T a).2.1 ≠ (T b).2.1) ∧ (T k).2.2.2 = false
def DP (q : MKT) (pc ci k n : Nat) (ty : FieldType) : Prop := ∃ idx : Nat, decode q.2.2.1 pc = .ok (.putfield idx, 3) ∧ FLw q.1 idx ci k ∧ pc + 3 = n ∧ (∃ (C : String) (T : u_T) (N : Nat), vwCl[ci]? = some (C, T, N) ∧ parseFieldDescriptor (T k).2.2.1 = some ty)
/-- field k of cluster c0 is a number, and what the cell is when it is written -/
def FP (G : GT) (S : St) (c ci k : Nat) (x : Int) : Prop := c < 23 ∧ kd c = ci ∧ ak c k = 0 ∧ k < (fl G S c).length ∧ fl G (st3 S c k 0 x) c = (fl G S c).set k (vI x)
theorem Go_put {c0 ci k : Nat} {x : Int} {ty : FieldType} (d : DP q pc ci k n ty) (hv : FP G S c0 ci k x) (hn : narrow ty (vI x) = vI x) (hfit : fits ty (vI x) = true) (kk : Go G q n lv st (st3 S c0 k 0 x) Post) : Go G q pc lv (vI x :: oR G c0 :: st) S Post := by
  intro p e R s m args below meth c cells slots Q H locs ls X hc hs K hl hP hS
  obtain ⟨idx, d, ⟨C, T, N, ty0, h1, h2, h3, h4, h5, h6, h7⟩, rfl, ⟨C', T', N', z1, z2⟩⟩ := d
  cases Option.some.inj (h1.symm.trans z1)
  obtain ⟨g1, g2, g3, g4, g5⟩ := hv
  obtain ⟨j, hj0, hj⟩ := Wd_at (G := G) (S := S) (vs_obj c0 g1)
  subst g2
  refine va_put X.1 X.2.1 X.2.2.2.2.1 h4 ty0 h5 h6 X.2.2.2.1 X.2.2.2.2.2.1.1 hP (Wd_D X.2.2.2.2.2.1.2.1) hS j hj h1 k h2 (X.2.2.2.2.1 _ h3) (fun _ h => h) h7 z2 hn hfit g4 d (fun H1 locs1 hP1 _ hS1 => ?_)
  have ee : (Wd G S).set j (G.2.1 c0 0, .inr (kd c0, (fl G S c0).set k (vI x))) = Wd G (st3 S c0 k 0 x) := by
    rw [← g5]
    exact Wd_set hj0 (fun p hp hne => mk_fld g3 hp hne)
  rw [show ((c0, 0) : Nat × Nat).1 = c0 from rfl, show ((c0, 0) : Nat × Nat).2 = 0 from rfl, ee] at hP1
  exact kk p e R s m args below meth c cells slots Q H1 locs1 ls X hc hs K hl hP1 hS1
def AI (c j N : Nat) : Prop := c < 23 ∧ j < 16 ∧ ak c j = 1 ∧ ln c j = N ∧ N < 3000
def AL (c j N : Nat) : Prop := c < 23 ∧ j < 16 ∧ ak c j = 2 ∧ ln c j = N ∧ N < 3000
theorem mk_AI {c j N : Nat} (h : AI c j N) : mk G S c (j + 1) = .inl (G.2.2.2.2.1 c j, N, .inl (fun k => iI (S c j k))) := by
  show (Sum.inl (_, ln c j, mkc G S c j) : va_E) = _
  unfold mkc
  rw [if_pos h.2.2.1, h.2.2.2.1]
theorem mk_AL {c j N : Nat} (h : AL c j N) : mk G S c (j + 1) = .inl (G.2.2.2.2.1 c j, N, .inr (.inl (fun k => lI (S c j k)))) := by
  show (Sum.inl (_, ln c j, mkc G S c j) : va_E) = _
  unfold mkc
  rw [if_neg (by rw [h.2.2.1]; decide), if_pos h.2.2.1, h.2.2.2.1]
theorem AI.ty {c j N : Nat} (h : AI c j N) : ∃ k : Nat, (tysG G)[k]? = some (G.2.2.2.2.1 c j, .int) := by
  obtain ⟨k, hk⟩ := tys_at (G := G) h.1 h.2.1 (by rw [h.2.2.1]; decide)
  exact ⟨k, by rw [hk]; unfold aty; rw [if_pos h.2.2.1]⟩
theorem AL.ty {c j N : Nat} (h : AL c j N) : ∃ k : Nat, (tysG G)[k]? = some (G.2.2.2.2.1 c j, .long) := by
  obtain ⟨k, hk⟩ := tys_at (G := G) h.1 h.2.1 (by rw [h.2.2.1]; decide)
  exact ⟨k, by rw [hk]; unfold aty; rw [if_neg (by rw [h.2.2.1]; decide), if_pos h.2.2.1]⟩
theorem AI.at {c j N : Nat} (h : AI c j N) : ∃ k : Nat, vs[k]? = some (c, j + 1) ∧ (Wd G S)[k]? = some (G.2.1 c (j + 1), .inl (G.2.2.2.2.1 c j, N, .inl (fun k => iI (S c j k)))) := by
  obtain ⟨k, h1, h2⟩ := Wd_at (G := G) (S := S) (vs_arr c h.1 j h.2.1 (by rw [h.2.2.1]; decide))
  rw [show ((c, j + 1) : Nat × Nat).1 = c from rfl, show ((c, j + 1) : Nat × Nat).2 = j + 1 from rfl, mk_AI h] at h2
  exact ⟨k, h1, h2⟩
theorem AL.at {c j N : Nat} (h : AL c j N) : ∃ k : Nat, vs[k]? = some (c, j + 1) ∧ (Wd G S)[k]? = some (G.2.1 c (j + 1), .inl (G.2.2.2.2.1 c j, N, .inr (.inl (fun k => lI (S c j k))))) := by
  obtain ⟨k, h1, h2⟩ := Wd_at (G := G) (S := S) (vs_arr c h.1 j h.2.1 (by rw [h.2.2.1]; decide))
  rw [show ((c, j + 1) : Nat × Nat).1 = c from rfl, show ((c, j + 1) : Nat × Nat).2 = j + 1 from rfl, mk_AL h] at h2
  exact ⟨k, h1, h2⟩
theorem AI.set {c j N i k : Nat} {x : Int} (h : AI c j N) (hk : vs[k]? = some (c, j + 1)) : (Wd G S).set k (G.2.1 c (j + 1), .inl (G.2.2.2.2.1 c j, N, .inl (upd (fun k => iI (S c j k)) i (iI x)))) = Wd G (st3 S c j i x) := by
  have e := Wd_set (G := G) (S := S) (S' := st3 S c j i x) hk (fun p hp hne => mk_arr h.1 (by rw [h.2.2.1]; decide) hp hne)
  rw [show ((c, j + 1) : Nat × Nat).1 = c from rfl, show ((c, j + 1) : Nat × Nat).2 = j + 1 from rfl, mk_AI h] at e
  rw [← e]
  congr 6
  funext z
  unfold upd st3
  by_cases hz : z = i
  · rw [if_pos hz, if_pos ⟨rfl, rfl, hz⟩]
  · rw [if_neg hz, if_neg (fun q => hz q.2.2)]
theorem AL.set {c j N i k : Nat} {x : Int} (h : AL c j N) (hk : vs[k]? = some (c, j + 1)) : (Wd G S).set k (G.2.1 c (j + 1), .inl (G.2.2.2.2.1 c j, N, .inr (.inl (vp_updL (fun k => lI (S c j k)) i (lI x))))) = Wd G (st3 S c j i x) := by
  have e := Wd_set (G := G) (S := S) (S' := st3 S c j i x) hk (fun p hp hne => mk_arr h.1 (by rw [h.2.2.1]; decide) hp hne)
  rw [show ((c, j + 1) : Nat × Nat).1 = c from rfl, show ((c, j + 1) : Nat × Nat).2 = j + 1 from rfl, mk_AL h] at e
  rw [← e]
  congr 7
  funext z
  unfold vp_updL st3
  by_cases hz : z = i
  · rw [if_pos hz, if_pos ⟨rfl, rfl, hz⟩]
  · rw [if_neg hz, if_neg (fun q => hz q.2.2)]
theorem Go_iald {c0 j N : Nat} {i : Int} (d : Dk q pc .iaload 1 n) (h : AI c0 j N) (hi : 0 ≤ i ∧ i < (N : Int)) (k : Go G q n lv (vI (S c0 j i.toNat) :: st) S Post) : Go G q pc lv (vI i :: aR G c0 j :: st) S Post := by
  intro p e R s m args below meth c cells slots Q H locs ls X hc hs K hl hP hS
  obtain ⟨d, rfl⟩ := d
  obtain ⟨z, -, hz⟩ := h.at (G := G) (S := S)
  obtain ⟨y, hy⟩ := h.ty (G := G)
  have hN := h.2.2.2.2
  refine va_iald X.1 X.2.1 X.2.2.2.2.2.1.1 hP z y hz hy (iI_in hi (by omega)) d ?_
  rw [iI_cl (by omega)]
  exact k p e R s m args below meth c cells slots Q H locs ls X hc hs K hl hP hS
theorem Go_lald {c0 j N : Nat} {i : Int} (d : Dk q pc .laload 1 n) (h : AL c0 j N) (hi : 0 ≤ i ∧ i < (N : Int)) (k : Go G q n lv (vL (S c0 j i.toNat) :: st) S Post) : Go G q pc lv (vI i :: aR G c0 j :: st) S Post := by
  intro p e R s m args below meth c cells slots Q H locs ls X hc hs K hl hP hS
  obtain ⟨d, rfl⟩ := d
  obtain ⟨z, -, hz⟩ := h.at (G := G) (S := S)
  obtain ⟨y, hy⟩ := h.ty (G := G)
  have hN := h.2.2.2.2
  refine va_lald X.1 X.2.1 X.2.2.2.2.2.1.1 hP z y hz hy (iI_in hi (by omega)) d ?_
  rw [iI_cl (by omega)]
  exact k p e R s m args below meth c cells slots Q H locs ls X hc hs K hl hP hS
theorem Go_iast {c0 j N : Nat} {i x : Int} (d : Dk q pc .iastore 1 n) (h : AI c0 j N) (hi : 0 ≤ i ∧ i < (N : Int)) (k : Go G q n lv st (st3 S c0 j i.toNat x) Post) : Go G q pc lv (vI x :: vI i :: aR G c0 j :: st) S Post := by
  intro p e R s m args below meth c cells slots Q H locs ls X hc hs K hl hP hS
  obtain ⟨d, rfl⟩ := d
  obtain ⟨z, hz0, hz⟩ := h.at (G := G) (S := S)
  obtain ⟨y, hy⟩ := h.ty (G := G)
  have hN := h.2.2.2.2
  refine va_iast X.1 X.2.1 X.2.2.2.2.2.1.1 hP (Wd_D X.2.2.2.2.2.1.2.1) hS z y hz hy (iI_in hi (by omega)) d (fun H1 locs1 hP1 _ hS1 => ?_)
  rw [iI_cl (by omega), h.set hz0] at hP1
  exact k p e R s m args below meth c cells slots Q H1 locs1 ls X hc hs K hl hP1 hS1
theorem Go_last {c0 j N : Nat} {i x : Int} (d : Dk q pc .lastore 1 n) (h : AL c0 j N) (hi : 0 ≤ i ∧ i < (N : Int)) (k : Go G q n lv st (st3 S c0 j i.toNat x) Post) : Go G q pc lv (vL x :: vI i :: aR G c0 j :: st) S Post := by
  intro p e R s m args below meth c cells slots Q H locs ls X hc hs K hl hP hS
  obtain ⟨d, rfl⟩ := d
  obtain ⟨z, hz0, hz⟩ := h.at (G := G) (S := S)
  obtain ⟨y, hy⟩ := h.ty (G := G)
  have hN := h.2.2.2.2
  refine va_last X.1 X.2.1 X.2.2.2.2.2.1.1 hP (Wd_D X.2.2.2.2.2.1.2.1) hS z y hz hy (iI_in hi (by omega)) d (fun H1 locs1 hP1 _ hS1 => ?_)
  rw [iI_cl (by omega), h.set hz0] at hP1
  exact k p e R s m args below meth c cells slots Q H1 locs1 ls X hc hs K hl hP1 hS1
theorem Go_ialdC {c0 j N k0 : Nat} {i : Int} (d : Dk q pc .iaload 1 n) (h : AI c0 j N) (e : i = (k0 : Int)) (hi : k0 < N) (k : Go G q n lv (vI (S c0 j k0) :: st) S Post) : Go G q pc lv (vI i :: aR G c0 j :: st) S Post := by
  subst e
  exact Go_iald d h (by omega) k
theorem Go_laldC {c0 j N k0 : Nat} {i : Int} (d : Dk q pc .laload 1 n) (h : AL c0 j N) (e : i = (k0 : Int)) (hi : k0 < N) (k : Go G q n lv (vL (S c0 j k0) :: st) S Post) : Go G q pc lv (vI i :: aR G c0 j :: st) S Post := by
  subst e
  exact Go_lald d h (by omega) k
theorem Go_iastC {c0 j N k0 : Nat} {i x : Int} (d : Dk q pc .iastore 1 n) (h : AI c0 j N) (e : i = (k0 : Int)) (hi : k0 < N) (k : Go G q n lv st (st3 S c0 j k0 x) Post) : Go G q pc lv (vI x :: vI i :: aR G c0 j :: st) S Post := by
  subst e
  exact Go_iast d h (by omega) k
theorem Go_lastC {c0 j N k0 : Nat} {i x : Int} (d : Dk q pc .lastore 1 n) (h : AL c0 j N) (e : i = (k0 : Int)) (hi : k0 < N) (k : Go G q n lv st (st3 S c0 j k0 x) Post) : Go G q pc lv (vL x :: vI i :: aR G c0 j :: st) S Post := by
  subst e
  exact Go_last d h (by omega) k
theorem Go_alen {c0 j N : Nat} (d : Dk q pc .arraylength 1 n) (h : AL c0 j N) (k : Go G q n lv (vI (N : Int) :: st) S Post) : Go G q pc lv (aR G c0 j :: st) S Post := by
  intro p e R s m args below meth c cells slots Q H locs ls X hc hs K hl hP hS
  obtain ⟨d, rfl⟩ := d
  obtain ⟨z, -, hz⟩ := h.at (G := G) (S := S)
  obtain ⟨y, hy⟩ := h.ty (G := G)
  exact va_alen X.1 X.2.1 X.2.2.2.2.2.1.1 hP z y hz hy (iI_nat N) d (k p e R s m args below meth c cells slots Q H locs ls X hc hs K hl hP hS)
theorem Go_aald {c0 j N : Nat} {i : Int} (d : Dk q pc .aaload 1 n) (h : c0 < 23 ∧ j < 16 ∧ ak c0 j = 3 ∧ ln c0 j = N) (hi : 0 ≤ i ∧ i < (N : Int)) (k : Go G q n lv (oR G (rf c0 i.toNat) :: st) S Post) : Go G q pc lv (vI i :: aR G c0 j :: st) S Post := by
  intro p e R s m args below meth c cells slots Q H locs ls X hc hs K hl hP hS
  obtain ⟨d, rfl⟩ := d
  obtain ⟨h1, h2, h3, h4⟩ := h
  obtain ⟨z, hz0, hz⟩ := Wd_at (G := G) (S := S) (vs_arr c0 h1 j h2 (by rw [h3]; decide))
  obtain ⟨y, hy⟩ := tys_at (G := G) h1 h2 (by rw [h3]; decide)
  have ee : mk G S c0 (j + 1) = .inl (G.2.2.2.2.1 c0 j, N, .inr (.inr (.inr (.inr (fun k => some (G.2.1 (rf c0 k) 0)))))) := by
    show (Sum.inl (_, ln c0 j, mkc G S c0 j) : va_E) = _
    unfold mkc
    rw [if_neg (by rw [h3]; decide), if_neg (by rw [h3]; decide), h4]
  rw [show ((c0, j + 1) : Nat × Nat).1 = c0 from rfl, show ((c0, j + 1) : Nat × Nat).2 = j + 1 from rfl, ee] at hz
  have hN := ln_small c0 h1 j h2
  have hty : ∃ C : String, aty c0 j = .object C := by
    unfold aty
    rw [if_neg (by rw [h3]; decide), if_neg (by rw [h3]; decide)]
    split
    · exact ⟨_, rfl⟩
    · exact ⟨_, rfl⟩
  obtain ⟨C, hC⟩ := hty
  rw [hC] at hy
  refine va_aldq X.1 X.2.1 X.2.2.2.2.2.1.1 hP z y hz hy (iI_in hi (by omega)) d ?_
  rw [iI_cl (by omega)]
  exact k p e R s m args below meth c cells slots Q H locs ls X hc hs K hl hP hS
theorem Go_sld {i : Int} (hq : q.1 = "MixRoundsLaw") (d : Dk q pc .iaload 1 n) (hL : G.2.2.2.2.2.2.2.1 ≤ 3072) (hi : 0 ≤ i ∧ i < (G.2.2.2.2.2.2.2.1 : Int)) (k : Go G q n lv (vI ((G.2.2.2.2.2.2.2.2 i.toNat).toInt) :: st) S Post) : Go G q pc lv (vI i :: .ref G.2.2.2.2.2.2.1 :: st) S Post := by
  intro p e R s m args below meth c cells slots Q H locs ls X hc hs K hl hP hS
  obtain ⟨d, rfl⟩ := d
  obtain ⟨x1, x2, x3⟩ := X.2.2.2.2.2.2.2 hq
  refine va_sld X.1 X.2.1 x1 x2 x3 hS (iI_in hi (by omega)) d ?_
  rw [iI_cl (by omega), ← iI_of (G.2.2.2.2.2.2.2.2 i.toNat)]
  exact k p e R s m args below meth c cells slots Q H locs ls X hc hs K hl hP hS
theorem Go_slen (hq : q.1 = "MixRoundsLaw") (d : Dk q pc .arraylength 1 n) (k : Go G q n lv (vI (G.2.2.2.2.2.2.2.1 : Int) :: st) S Post) : Go G q pc lv (.ref G.2.2.2.2.2.2.1 :: st) S Post := by
  intro p e R s m args below meth c cells slots Q H locs ls X hc hs K hl hP hS
  obtain ⟨d, rfl⟩ := d
  obtain ⟨x1, x2, x3⟩ := X.2.2.2.2.2.2.2 hq
  refine va_slen X.1 X.2.1 x1 x2 x3 hS d ?_
  rw [show Int32.ofNat G.2.2.2.2.2.2.2.1 = iI (G.2.2.2.2.2.2.2.1 : Int) from iI_nat _]
  exact k p e R s m args below meth c cells slots Q H locs ls X hc hs K hl hP hS
end Rules
end
section
/-! ===== calls ===== -/
section Calls
variable {G : GT} {q : MKT} {pc n : Nat} {lv : List (Option Value)} {st : List Value} {S : St} {Post : Option Value → St → Prop}
/-- a method's own words -/
def CM (y : MKT) : Prop := Cond.code y.2.1 y.2.2.1 y.2.2.2.1 y.2.2.2.2.1 ∈ tb ∧ Cond.initialized y.2.1.cls ∈ tb ∧ (y.2.1.cls ≠ "java/lang/invoke/MethodHandle" ∧ y.2.1.cls ≠ "java/lang/invoke/VarHandle") ∧ y.2.2.2.1 ≤ 21
def DCV (q : MKT) (pc : Nat) (y : MKT) (ci na n : Nat) : Prop := ∃ idx : Nat, decode q.2.2.1 pc = .ok (.invokevirtual idx, 3) ∧ pc + 3 = n ∧ Cond.methodLink q.1 idx y.2.1 ∈ tb ∧ CM y ∧ Cond.instanceMethod y.2.1 ∈ tb ∧ Cond.selects y.2.1.cls y.2.1 y.2.1 ∈ tb ∧ (∃ r : vw_C, vwCl[ci]? = some r ∧ r.1 = y.2.1.cls) ∧ (parseMethodDescriptor y.2.1.desc).map (fun d => d.parameters.length) = some na ∧ y.2.2.2.2.2 + 1 ≤ q.2.2.2.2.2
def DCS (q : MKT) (pc : Nat) (y : MKT) (na n : Nat) : Prop := ∃ idx : Nat, decode q.2.2.1 pc = .ok (.invokestatic idx, 3) ∧ pc + 3 = n ∧ (Cond.methodLink q.1 idx y.2.1 ∈ tb ∨ ∃ host : String, (q.1, idx, y.2.1, host) ∈ NWl) ∧ CM y ∧ Cond.static y.2.1 ∈ tb ∧ (parseMethodDescriptor y.2.1.desc).map (fun d => d.parameters.length) = some na ∧ y.2.2.2.2.2 + 1 ≤ q.2.2.2.2.2
theorem tb_in {y : MKT} (h : CM y) : GoodIn tb (wsG y) := by
  intro w hw
  rcases List.mem_cons.mp hw with rfl | hw
  · exact ⟨h.1, good_of_word (tb_good h.1)⟩
  · exact ⟨hw, good_of_word (tb_good hw)⟩
theorem Pc_blind {av : List Value} : FrameBlind (PcG G av S) := by
  intro a U g mk h
  exact ⟨h.1, h.2.1, h.2.2.calling g mk a⟩
/-- behind a call -/
theorem Go_ran {y : MKT} {av st0 : List Value} {PostC : Option Value → St → Prop} {p : Program} {e : Env} {R : Room} {s : State} {m : MethodId} {args : Array Value} {below : List Frame} {meth : Method} {c : Code} {cells slots : Nat} {Q : State → Prop} {H : Heap} {locs : List Loc} {ls : Array Slot}
    (hr : va_Run p G.1 e R s m args below meth c H locs cells slots 0 0 (F0 m pc ls st0) st (QcG G PostC av.toArray) G.2.2.1) (k : ∀ r S', PostC r S' → Go G q (pc + 3) lv (r.toList ++ st) S' Post)
    (X : OkX G q p R s m args c) (hc : cells ≤ R.cells) (hs : slots ≤ R.slots)
    (K : ∀ (r : Option Value) (S' : St) (H' : Heap) (locs' : List Loc) (pc' : Nat) (ls' : Array Slot), Post r S' → Rt q pc' r → Hd G S' H' → va_S G.2.2.1 s.heap H' locs' → W p G.1 e R s m args below meth c H' locs' cells slots Q (F0 m pc' ls' r.toList))
    (hl : lvH ls q.2.2.2.1 lv) (hS : va_S G.2.2.1 s.heap H locs) : W p G.1 e R s m args below meth c H locs cells slots Q (F0 m pc ls st0) := by
  intro T hT XX
  obtain ⟨v, st₀, t, T', L, h0, X', hL, e1, e2, ⟨⟨r, S', hv, hp, hb⟩, hz, hk⟩, stp⟩ := hr T hT XX
  cases hv
  rw [h0] at hz hk
  have hS2 : va_S G.2.2.1 s.heap T'.heap (locs ++ L) := ⟨Nat.le_trans hS.1 (by rw [e1]; exact hz), fun q h1 h2 => by rw [e1, hk q (Nat.lt_of_lt_of_le h1 hS.1) h2]; exact hS.2.1 q h1 h2, fun q hq => by
      rcases List.mem_append.mp hq with h | h
      · exact hS.2.2 q h
      · exact hL q h⟩
  obtain ⟨t2, a1, b1⟩ := k v S' hp p e R s m args below meth c cells slots Q T'.heap (locs ++ L) ls X hc hs K hl (by rw [e1]; exact hb) hS2 T' rfl X'
  exact ⟨t2, stp t2 a1, b1⟩
set_option maxHeartbeats 2000000 in
theorem Go_callV {y : MKT} {c0 ci na : Nat} {As : List Value} {PostC : Option Value → St → Prop} (d : DCV q pc y ci na n) (h0 : c0 < 23 ∧ kd c0 = ci) (hlen : As.length = na) (hst : (st.map fun v => v.category).sum ≤ 8) (hF : Fn G y (oR G c0 :: As) S PostC) (k : ∀ r S', PostC r S' → Go G q n lv (r.toList ++ st) S' Post) : Go G q pc lv (As.reverse ++ oR G c0 :: st) S Post := by
  intro p e R s m args below meth c cells slots Q H locs ls X hc hs K hl hP hS
  obtain ⟨idx, hd, rfl, w1, w2, w3, w4, ⟨rr, w5, w5'⟩, w6, w7⟩ := d
  obtain ⟨hx, hb, hml, hown, hts, hK, hR, -⟩ := id X
  obtain ⟨v1, v2, v3, v4⟩ := id w2
  obtain ⟨j, -, hj⟩ := Wd_at (G := G) (S := S) (vs_obj c0 h0.1)
  have hci := h0.2
  subst hci
  have hj2 : (Wd G S)[j]? = some (G.2.1 c0 0, .inr (kd c0, fl G S c0)) := hj
  have hrv := va_recv hK.1 hP w5 hj2
  rw [w5'] at hrv
  refine Go_ran (y := y) (av := oR G c0 :: As) (PostC := PostC) ?_ k X hc hs K hl hS
  exact va_runV (As := As) (rest := st) (C := y.2.1.cls) ⟨hx, hb, hml, hown, hts⟩ hF ⟨callB_of (ws' := tb) na hts (tb_in w2) rfl rfl rfl (hts _ v2) (hts _ w1) ⟨v3.1, v3.2, w6⟩ ⟨Nat.le_trans w7 hR.1, by show 8 + (y.2.2.2.1 + 11) + 40 * y.2.2.2.2.2 ≤ R.locals; omega⟩, hts _ w3, hts _ w4⟩
    ⟨Pc_blind, hrv, fun U hU hW => ⟨rfl, by rw [hU]; exact hP, hK.to hW (fun a h1 h2 => by rw [hU]; exact hS.2.1 a h1 h2)⟩⟩ rfl hlen hl.1 rfl (lv_room hst) hd ⟨hc, hs⟩
set_option maxHeartbeats 2000000 in
theorem Go_callS {y : MKT} {na : Nat} {As : List Value} {PostC : Option Value → St → Prop} (d : DCS q pc y na n) (hlen : As.length = na) (hst : (st.map fun v => v.category).sum ≤ 8) (hF : Fn G y As S PostC) (k : ∀ r S', PostC r S' → Go G q n lv (r.toList ++ st) S' Post) : Go G q pc lv (As.reverse ++ st) S Post := by
  intro p e R s m args below meth c cells slots Q H locs ls X hc hs K hl hP hS
  obtain ⟨idx, hd, rfl, w1, w2, w3, w6, w7⟩ := d
  obtain ⟨hx, hb, hml, hown, hts, hK, hR, -⟩ := id X
  obtain ⟨v1, v2, v3, v4⟩ := id w2
  refine Go_ran (y := y) (av := As) (PostC := PostC) ?_ k X hc hs K hl hS
  have hp : PreS s H (PcG G As S) As := ⟨Pc_blind, fun U hU hW => ⟨rfl, by rw [hU]; exact hP, hK.to hW (fun a h1 h2 => by rw [hU]; exact hS.2.1 a h1 h2)⟩⟩
  have hR2 : y.2.2.2.2.2 + 1 ≤ R.frames ∧ 8 + (y.2.2.2.1 + 11) + 40 * y.2.2.2.2.2 ≤ R.locals := ⟨Nat.le_trans w7 hR.1, by omega⟩
  rcases w1 with w1 | ⟨host, w1⟩
  · exact va_runS (As := As) (rest := st) ⟨hx, hb, hml, hown, hts⟩ hF ⟨callB_of (ws' := tb) na hts (tb_in w2) rfl rfl rfl (hts _ v2) (hts _ w1) ⟨v3.1, v3.2, w6⟩ hR2, hts _ w3⟩ hp rfl hlen hl.1 rfl (lv_room hst) hd ⟨hc, hs⟩
  · exact va_runSN (As := As) (rest := st) (host := host) ⟨hx, hb, hml, hown, hts⟩ hF ⟨va_cnB (ws' := tb) na hts (tb_in w2) rfl rfl rfl (hK.2.2.2 _ w1) (hts _ v2) ⟨v3.1, v3.2, w6⟩ hR2, hts _ w3, trivial⟩ hp rfl hlen hl.1 rfl (lv_room hst) hd ⟨hc, hs⟩
/-! what a contract says: a value and nothing changed; a number and a new state; nothing and a new state -/
def PV (v : Value) (S : St) : Option Value → St → Prop := fun r S' => r = some v ∧ S' = S
def PI (f : Int → St → Prop) : Option Value → St → Prop := fun r S' => ∃ z : Int, r = some (vI z) ∧ f z S'
def PL (f : Int → St → Prop) : Option Value → St → Prop := fun r S' => ∃ z : Int, r = some (vL z) ∧ f z S'
def PN (f : St → Prop) : Option Value → St → Prop := fun r S' => r = none ∧ f S'
theorem Go_iretV {a b : Int} (d : DrI q pc) (h : a = b) : Go G q pc lv [vI a] S (PV (vI b) S) := Go_iret d ⟨by rw [h], rfl⟩
theorem Go_zretV {a b : Int} (d : DrZ q pc) (ha : a = 0 ∨ a = 1) (h : a = b) : Go G q pc lv [vI a] S (PV (vI b) S) := Go_zret d ha ⟨by rw [h], rfl⟩
theorem Go_lretV {a b : Int} (d : DrL q pc) (h : a = b) : Go G q pc lv [vL a] S (PV (vL b) S) := Go_lret d ⟨by rw [h], rfl⟩
theorem Go_iretI {a : Int} {f : Int → St → Prop} (d : DrI q pc) (h : f a S) : Go G q pc lv [vI a] S (PI f) := Go_iret d ⟨a, rfl, h⟩
theorem Go_zretI {a : Int} {f : Int → St → Prop} (d : DrZ q pc) (ha : a = 0 ∨ a = 1) (h : f a S) : Go G q pc lv [vI a] S (PI f) := Go_zret d ha ⟨a, rfl, h⟩
theorem Go_lretL {a : Int} {f : Int → St → Prop} (d : DrL q pc) (h : f a S) : Go G q pc lv [vL a] S (PL f) := Go_lret d ⟨a, rfl, h⟩
theorem Go_vretN {f : St → Prop} (d : DrV q pc) (h : f S) : Go G q pc lv [] S (PN f) := Go_vret d ⟨rfl, h⟩

theorem Go_V0p {y : MKT} {c0 ci : Nat} {v : Value} (d : DCV q pc y ci 0 n) (h0 : c0 < 23 ∧ kd c0 = ci) (hF : Fn G y (oR G c0 :: []) S (PV v S)) (hst : (st.map fun v => v.category).sum ≤ 8) (k : Go G q n lv (v :: st) S Post) : Go G q pc lv (oR G c0 :: st) S Post := Go_callV (As := []) d h0 rfl hst hF (fun r S' h => by obtain ⟨rfl, rfl⟩ := h; exact k)
theorem Go_S0p {y : MKT} {v : Value} (d : DCS q pc y 0 n) (hF : Fn G y [] S (PV v S)) (hst : (st.map fun v => v.category).sum ≤ 8) (k : Go G q n lv (v :: st) S Post) : Go G q pc lv (st) S Post := Go_callS (As := []) d rfl hst hF (fun r S' h => by obtain ⟨rfl, rfl⟩ := h; exact k)
theorem Go_V0i {y : MKT} {c0 ci : Nat} {f : Int → St → Prop} (d : DCV q pc y ci 0 n) (h0 : c0 < 23 ∧ kd c0 = ci) (hF : Fn G y (oR G c0 :: []) S (PI f)) (hst : (st.map fun v => v.category).sum ≤ 8) (k : ∀ z S', f z S' → Go G q n lv (vI z :: st) S' Post) : Go G q pc lv (oR G c0 :: st) S Post := Go_callV (As := []) d h0 rfl hst hF (fun r S' h => by obtain ⟨z, rfl, h⟩ := h; exact k z S' h)
theorem Go_S0i {y : MKT} {f : Int → St → Prop} (d : DCS q pc y 0 n) (hF : Fn G y [] S (PI f)) (hst : (st.map fun v => v.category).sum ≤ 8) (k : ∀ z S', f z S' → Go G q n lv (vI z :: st) S' Post) : Go G q pc lv (st) S Post := Go_callS (As := []) d rfl hst hF (fun r S' h => by obtain ⟨z, rfl, h⟩ := h; exact k z S' h)
theorem Go_V0l {y : MKT} {c0 ci : Nat} {f : Int → St → Prop} (d : DCV q pc y ci 0 n) (h0 : c0 < 23 ∧ kd c0 = ci) (hF : Fn G y (oR G c0 :: []) S (PL f)) (hst : (st.map fun v => v.category).sum ≤ 8) (k : ∀ z S', f z S' → Go G q n lv (vL z :: st) S' Post) : Go G q pc lv (oR G c0 :: st) S Post := Go_callV (As := []) d h0 rfl hst hF (fun r S' h => by obtain ⟨z, rfl, h⟩ := h; exact k z S' h)
theorem Go_S0l {y : MKT} {f : Int → St → Prop} (d : DCS q pc y 0 n) (hF : Fn G y [] S (PL f)) (hst : (st.map fun v => v.category).sum ≤ 8) (k : ∀ z S', f z S' → Go G q n lv (vL z :: st) S' Post) : Go G q pc lv (st) S Post := Go_callS (As := []) d rfl hst hF (fun r S' h => by obtain ⟨z, rfl, h⟩ := h; exact k z S' h)
theorem Go_V0n {y : MKT} {c0 ci : Nat} {f : St → Prop} (d : DCV q pc y ci 0 n) (h0 : c0 < 23 ∧ kd c0 = ci) (hF : Fn G y (oR G c0 :: []) S (PN f)) (hst : (st.map fun v => v.category).sum ≤ 8) (k : ∀ S', f S' → Go G q n lv st S' Post) : Go G q pc lv (oR G c0 :: st) S Post := Go_callV (As := []) d h0 rfl hst hF (fun r S' h => by obtain ⟨rfl, h⟩ := h; exact k S' h)
theorem Go_S0n {y : MKT} {f : St → Prop} (d : DCS q pc y 0 n) (hF : Fn G y [] S (PN f)) (hst : (st.map fun v => v.category).sum ≤ 8) (k : ∀ S', f S' → Go G q n lv st S' Post) : Go G q pc lv (st) S Post := Go_callS (As := []) d rfl hst hF (fun r S' h => by obtain ⟨rfl, h⟩ := h; exact k S' h)
theorem Go_V1p {y : MKT} {c0 ci : Nat} {a1 : Value} {v : Value} (d : DCV q pc y ci 1 n) (h0 : c0 < 23 ∧ kd c0 = ci) (hF : Fn G y (oR G c0 :: [a1]) S (PV v S)) (hst : (st.map fun v => v.category).sum ≤ 8) (k : Go G q n lv (v :: st) S Post) : Go G q pc lv (a1 :: oR G c0 :: st) S Post := Go_callV (As := [a1]) d h0 rfl hst hF (fun r S' h => by obtain ⟨rfl, rfl⟩ := h; exact k)
theorem Go_S1p {y : MKT} {a1 : Value} {v : Value} (d : DCS q pc y 1 n) (hF : Fn G y [a1] S (PV v S)) (hst : (st.map fun v => v.category).sum ≤ 8) (k : Go G q n lv (v :: st) S Post) : Go G q pc lv (a1 :: st) S Post := Go_callS (As := [a1]) d rfl hst hF (fun r S' h => by obtain ⟨rfl, rfl⟩ := h; exact k)
theorem Go_V1i {y : MKT} {c0 ci : Nat} {a1 : Value} {f : Int → St → Prop} (d : DCV q pc y ci 1 n) (h0 : c0 < 23 ∧ kd c0 = ci) (hF : Fn G y (oR G c0 :: [a1]) S (PI f)) (hst : (st.map fun v => v.category).sum ≤ 8) (k : ∀ z S', f z S' → Go G q n lv (vI z :: st) S' Post) : Go G q pc lv (a1 :: oR G c0 :: st) S Post := Go_callV (As := [a1]) d h0 rfl hst hF (fun r S' h => by obtain ⟨z, rfl, h⟩ := h; exact k z S' h)
theorem Go_S1i {y : MKT} {a1 : Value} {f : Int → St → Prop} (d : DCS q pc y 1 n) (hF : Fn G y [a1] S (PI f)) (hst : (st.map fun v => v.category).sum ≤ 8) (k : ∀ z S', f z S' → Go G q n lv (vI z :: st) S' Post) : Go G q pc lv (a1 :: st) S Post := Go_callS (As := [a1]) d rfl hst hF (fun r S' h => by obtain ⟨z, rfl, h⟩ := h; exact k z S' h)
theorem Go_V1l {y : MKT} {c0 ci : Nat} {a1 : Value} {f : Int → St → Prop} (d : DCV q pc y ci 1 n) (h0 : c0 < 23 ∧ kd c0 = ci) (hF : Fn G y (oR G c0 :: [a1]) S (PL f)) (hst : (st.map fun v => v.category).sum ≤ 8) (k : ∀ z S', f z S' → Go G q n lv (vL z :: st) S' Post) : Go G q pc lv (a1 :: oR G c0 :: st) S Post := Go_callV (As := [a1]) d h0 rfl hst hF (fun r S' h => by obtain ⟨z, rfl, h⟩ := h; exact k z S' h)
theorem Go_S1l {y : MKT} {a1 : Value} {f : Int → St → Prop} (d : DCS q pc y 1 n) (hF : Fn G y [a1] S (PL f)) (hst : (st.map fun v => v.category).sum ≤ 8) (k : ∀ z S', f z S' → Go G q n lv (vL z :: st) S' Post) : Go G q pc lv (a1 :: st) S Post := Go_callS (As := [a1]) d rfl hst hF (fun r S' h => by obtain ⟨z, rfl, h⟩ := h; exact k z S' h)
theorem Go_V1n {y : MKT} {c0 ci : Nat} {a1 : Value} {f : St → Prop} (d : DCV q pc y ci 1 n) (h0 : c0 < 23 ∧ kd c0 = ci) (hF : Fn G y (oR G c0 :: [a1]) S (PN f)) (hst : (st.map fun v => v.category).sum ≤ 8) (k : ∀ S', f S' → Go G q n lv st S' Post) : Go G q pc lv (a1 :: oR G c0 :: st) S Post := Go_callV (As := [a1]) d h0 rfl hst hF (fun r S' h => by obtain ⟨rfl, h⟩ := h; exact k S' h)
theorem Go_S1n {y : MKT} {a1 : Value} {f : St → Prop} (d : DCS q pc y 1 n) (hF : Fn G y [a1] S (PN f)) (hst : (st.map fun v => v.category).sum ≤ 8) (k : ∀ S', f S' → Go G q n lv st S' Post) : Go G q pc lv (a1 :: st) S Post := Go_callS (As := [a1]) d rfl hst hF (fun r S' h => by obtain ⟨rfl, h⟩ := h; exact k S' h)
theorem Go_V2p {y : MKT} {c0 ci : Nat} {a1 a2 : Value} {v : Value} (d : DCV q pc y ci 2 n) (h0 : c0 < 23 ∧ kd c0 = ci) (hF : Fn G y (oR G c0 :: [a1, a2]) S (PV v S)) (hst : (st.map fun v => v.category).sum ≤ 8) (k : Go G q n lv (v :: st) S Post) : Go G q pc lv (a2 :: a1 :: oR G c0 :: st) S Post := Go_callV (As := [a1, a2]) d h0 rfl hst hF (fun r S' h => by obtain ⟨rfl, rfl⟩ := h; exact k)
theorem Go_S2p {y : MKT} {a1 a2 : Value} {v : Value} (d : DCS q pc y 2 n) (hF : Fn G y [a1, a2] S (PV v S)) (hst : (st.map fun v => v.category).sum ≤ 8) (k : Go G q n lv (v :: st) S Post) : Go G q pc lv (a2 :: a1 :: st) S Post := Go_callS (As := [a1, a2]) d rfl hst hF (fun r S' h => by obtain ⟨rfl, rfl⟩ := h; exact k)
theorem Go_V2i {y : MKT} {c0 ci : Nat} {a1 a2 : Value} {f : Int → St → Prop} (d : DCV q pc y ci 2 n) (h0 : c0 < 23 ∧ kd c0 = ci) (hF : Fn G y (oR G c0 :: [a1, a2]) S (PI f)) (hst : (st.map fun v => v.category).sum ≤ 8) (k : ∀ z S', f z S' → Go G q n lv (vI z :: st) S' Post) : Go G q pc lv (a2 :: a1 :: oR G c0 :: st) S Post := Go_callV (As := [a1, a2]) d h0 rfl hst hF (fun r S' h => by obtain ⟨z, rfl, h⟩ := h; exact k z S' h)
theorem Go_S2i {y : MKT} {a1 a2 : Value} {f : Int → St → Prop} (d : DCS q pc y 2 n) (hF : Fn G y [a1, a2] S (PI f)) (hst : (st.map fun v => v.category).sum ≤ 8) (k : ∀ z S', f z S' → Go G q n lv (vI z :: st) S' Post) : Go G q pc lv (a2 :: a1 :: st) S Post := Go_callS (As := [a1, a2]) d rfl hst hF (fun r S' h => by obtain ⟨z, rfl, h⟩ := h; exact k z S' h)
theorem Go_V2l {y : MKT} {c0 ci : Nat} {a1 a2 : Value} {f : Int → St → Prop} (d : DCV q pc y ci 2 n) (h0 : c0 < 23 ∧ kd c0 = ci) (hF : Fn G y (oR G c0 :: [a1, a2]) S (PL f)) (hst : (st.map fun v => v.category).sum ≤ 8) (k : ∀ z S', f z S' → Go G q n lv (vL z :: st) S' Post) : Go G q pc lv (a2 :: a1 :: oR G c0 :: st) S Post := Go_callV (As := [a1, a2]) d h0 rfl hst hF (fun r S' h => by obtain ⟨z, rfl, h⟩ := h; exact k z S' h)
theorem Go_S2l {y : MKT} {a1 a2 : Value} {f : Int → St → Prop} (d : DCS q pc y 2 n) (hF : Fn G y [a1, a2] S (PL f)) (hst : (st.map fun v => v.category).sum ≤ 8) (k : ∀ z S', f z S' → Go G q n lv (vL z :: st) S' Post) : Go G q pc lv (a2 :: a1 :: st) S Post := Go_callS (As := [a1, a2]) d rfl hst hF (fun r S' h => by obtain ⟨z, rfl, h⟩ := h; exact k z S' h)
theorem Go_V2n {y : MKT} {c0 ci : Nat} {a1 a2 : Value} {f : St → Prop} (d : DCV q pc y ci 2 n) (h0 : c0 < 23 ∧ kd c0 = ci) (hF : Fn G y (oR G c0 :: [a1, a2]) S (PN f)) (hst : (st.map fun v => v.category).sum ≤ 8) (k : ∀ S', f S' → Go G q n lv st S' Post) : Go G q pc lv (a2 :: a1 :: oR G c0 :: st) S Post := Go_callV (As := [a1, a2]) d h0 rfl hst hF (fun r S' h => by obtain ⟨rfl, h⟩ := h; exact k S' h)
theorem Go_S2n {y : MKT} {a1 a2 : Value} {f : St → Prop} (d : DCS q pc y 2 n) (hF : Fn G y [a1, a2] S (PN f)) (hst : (st.map fun v => v.category).sum ≤ 8) (k : ∀ S', f S' → Go G q n lv st S' Post) : Go G q pc lv (a2 :: a1 :: st) S Post := Go_callS (As := [a1, a2]) d rfl hst hF (fun r S' h => by obtain ⟨rfl, h⟩ := h; exact k S' h)
theorem Go_V3p {y : MKT} {c0 ci : Nat} {a1 a2 a3 : Value} {v : Value} (d : DCV q pc y ci 3 n) (h0 : c0 < 23 ∧ kd c0 = ci) (hF : Fn G y (oR G c0 :: [a1, a2, a3]) S (PV v S)) (hst : (st.map fun v => v.category).sum ≤ 8) (k : Go G q n lv (v :: st) S Post) : Go G q pc lv (a3 :: a2 :: a1 :: oR G c0 :: st) S Post := Go_callV (As := [a1, a2, a3]) d h0 rfl hst hF (fun r S' h => by obtain ⟨rfl, rfl⟩ := h; exact k)
theorem Go_S3p {y : MKT} {a1 a2 a3 : Value} {v : Value} (d : DCS q pc y 3 n) (hF : Fn G y [a1, a2, a3] S (PV v S)) (hst : (st.map fun v => v.category).sum ≤ 8) (k : Go G q n lv (v :: st) S Post) : Go G q pc lv (a3 :: a2 :: a1 :: st) S Post := Go_callS (As := [a1, a2, a3]) d rfl hst hF (fun r S' h => by obtain ⟨rfl, rfl⟩ := h; exact k)
theorem Go_V3i {y : MKT} {c0 ci : Nat} {a1 a2 a3 : Value} {f : Int → St → Prop} (d : DCV q pc y ci 3 n) (h0 : c0 < 23 ∧ kd c0 = ci) (hF : Fn G y (oR G c0 :: [a1, a2, a3]) S (PI f)) (hst : (st.map fun v => v.category).sum ≤ 8) (k : ∀ z S', f z S' → Go G q n lv (vI z :: st) S' Post) : Go G q pc lv (a3 :: a2 :: a1 :: oR G c0 :: st) S Post := Go_callV (As := [a1, a2, a3]) d h0 rfl hst hF (fun r S' h => by obtain ⟨z, rfl, h⟩ := h; exact k z S' h)
theorem Go_S3i {y : MKT} {a1 a2 a3 : Value} {f : Int → St → Prop} (d : DCS q pc y 3 n) (hF : Fn G y [a1, a2, a3] S (PI f)) (hst : (st.map fun v => v.category).sum ≤ 8) (k : ∀ z S', f z S' → Go G q n lv (vI z :: st) S' Post) : Go G q pc lv (a3 :: a2 :: a1 :: st) S Post := Go_callS (As := [a1, a2, a3]) d rfl hst hF (fun r S' h => by obtain ⟨z, rfl, h⟩ := h; exact k z S' h)
theorem Go_V3l {y : MKT} {c0 ci : Nat} {a1 a2 a3 : Value} {f : Int → St → Prop} (d : DCV q pc y ci 3 n) (h0 : c0 < 23 ∧ kd c0 = ci) (hF : Fn G y (oR G c0 :: [a1, a2, a3]) S (PL f)) (hst : (st.map fun v => v.category).sum ≤ 8) (k : ∀ z S', f z S' → Go G q n lv (vL z :: st) S' Post) : Go G q pc lv (a3 :: a2 :: a1 :: oR G c0 :: st) S Post := Go_callV (As := [a1, a2, a3]) d h0 rfl hst hF (fun r S' h => by obtain ⟨z, rfl, h⟩ := h; exact k z S' h)
theorem Go_S3l {y : MKT} {a1 a2 a3 : Value} {f : Int → St → Prop} (d : DCS q pc y 3 n) (hF : Fn G y [a1, a2, a3] S (PL f)) (hst : (st.map fun v => v.category).sum ≤ 8) (k : ∀ z S', f z S' → Go G q n lv (vL z :: st) S' Post) : Go G q pc lv (a3 :: a2 :: a1 :: st) S Post := Go_callS (As := [a1, a2, a3]) d rfl hst hF (fun r S' h => by obtain ⟨z, rfl, h⟩ := h; exact k z S' h)
theorem Go_V3n {y : MKT} {c0 ci : Nat} {a1 a2 a3 : Value} {f : St → Prop} (d : DCV q pc y ci 3 n) (h0 : c0 < 23 ∧ kd c0 = ci) (hF : Fn G y (oR G c0 :: [a1, a2, a3]) S (PN f)) (hst : (st.map fun v => v.category).sum ≤ 8) (k : ∀ S', f S' → Go G q n lv st S' Post) : Go G q pc lv (a3 :: a2 :: a1 :: oR G c0 :: st) S Post := Go_callV (As := [a1, a2, a3]) d h0 rfl hst hF (fun r S' h => by obtain ⟨rfl, h⟩ := h; exact k S' h)
theorem Go_S3n {y : MKT} {a1 a2 a3 : Value} {f : St → Prop} (d : DCS q pc y 3 n) (hF : Fn G y [a1, a2, a3] S (PN f)) (hst : (st.map fun v => v.category).sum ≤ 8) (k : ∀ S', f S' → Go G q n lv st S' Post) : Go G q pc lv (a3 :: a2 :: a1 :: st) S Post := Go_callS (As := [a1, a2, a3]) d rfl hst hF (fun r S' h => by obtain ⟨rfl, h⟩ := h; exact k S' h)
theorem Go_V4p {y : MKT} {c0 ci : Nat} {a1 a2 a3 a4 : Value} {v : Value} (d : DCV q pc y ci 4 n) (h0 : c0 < 23 ∧ kd c0 = ci) (hF : Fn G y (oR G c0 :: [a1, a2, a3, a4]) S (PV v S)) (hst : (st.map fun v => v.category).sum ≤ 8) (k : Go G q n lv (v :: st) S Post) : Go G q pc lv (a4 :: a3 :: a2 :: a1 :: oR G c0 :: st) S Post := Go_callV (As := [a1, a2, a3, a4]) d h0 rfl hst hF (fun r S' h => by obtain ⟨rfl, rfl⟩ := h; exact k)
theorem Go_S4p {y : MKT} {a1 a2 a3 a4 : Value} {v : Value} (d : DCS q pc y 4 n) (hF : Fn G y [a1, a2, a3, a4] S (PV v S)) (hst : (st.map fun v => v.category).sum ≤ 8) (k : Go G q n lv (v :: st) S Post) : Go G q pc lv (a4 :: a3 :: a2 :: a1 :: st) S Post := Go_callS (As := [a1, a2, a3, a4]) d rfl hst hF (fun r S' h => by obtain ⟨rfl, rfl⟩ := h; exact k)
theorem Go_V4i {y : MKT} {c0 ci : Nat} {a1 a2 a3 a4 : Value} {f : Int → St → Prop} (d : DCV q pc y ci 4 n) (h0 : c0 < 23 ∧ kd c0 = ci) (hF : Fn G y (oR G c0 :: [a1, a2, a3, a4]) S (PI f)) (hst : (st.map fun v => v.category).sum ≤ 8) (k : ∀ z S', f z S' → Go G q n lv (vI z :: st) S' Post) : Go G q pc lv (a4 :: a3 :: a2 :: a1 :: oR G c0 :: st) S Post := Go_callV (As := [a1, a2, a3, a4]) d h0 rfl hst hF (fun r S' h => by obtain ⟨z, rfl, h⟩ := h; exact k z S' h)
theorem Go_S4i {y : MKT} {a1 a2 a3 a4 : Value} {f : Int → St → Prop} (d : DCS q pc y 4 n) (hF : Fn G y [a1, a2, a3, a4] S (PI f)) (hst : (st.map fun v => v.category).sum ≤ 8) (k : ∀ z S', f z S' → Go G q n lv (vI z :: st) S' Post) : Go G q pc lv (a4 :: a3 :: a2 :: a1 :: st) S Post := Go_callS (As := [a1, a2, a3, a4]) d rfl hst hF (fun r S' h => by obtain ⟨z, rfl, h⟩ := h; exact k z S' h)
theorem Go_V4l {y : MKT} {c0 ci : Nat} {a1 a2 a3 a4 : Value} {f : Int → St → Prop} (d : DCV q pc y ci 4 n) (h0 : c0 < 23 ∧ kd c0 = ci) (hF : Fn G y (oR G c0 :: [a1, a2, a3, a4]) S (PL f)) (hst : (st.map fun v => v.category).sum ≤ 8) (k : ∀ z S', f z S' → Go G q n lv (vL z :: st) S' Post) : Go G q pc lv (a4 :: a3 :: a2 :: a1 :: oR G c0 :: st) S Post := Go_callV (As := [a1, a2, a3, a4]) d h0 rfl hst hF (fun r S' h => by obtain ⟨z, rfl, h⟩ := h; exact k z S' h)
theorem Go_S4l {y : MKT} {a1 a2 a3 a4 : Value} {f : Int → St → Prop} (d : DCS q pc y 4 n) (hF : Fn G y [a1, a2, a3, a4] S (PL f)) (hst : (st.map fun v => v.category).sum ≤ 8) (k : ∀ z S', f z S' → Go G q n lv (vL z :: st) S' Post) : Go G q pc lv (a4 :: a3 :: a2 :: a1 :: st) S Post := Go_callS (As := [a1, a2, a3, a4]) d rfl hst hF (fun r S' h => by obtain ⟨z, rfl, h⟩ := h; exact k z S' h)
theorem Go_V4n {y : MKT} {c0 ci : Nat} {a1 a2 a3 a4 : Value} {f : St → Prop} (d : DCV q pc y ci 4 n) (h0 : c0 < 23 ∧ kd c0 = ci) (hF : Fn G y (oR G c0 :: [a1, a2, a3, a4]) S (PN f)) (hst : (st.map fun v => v.category).sum ≤ 8) (k : ∀ S', f S' → Go G q n lv st S' Post) : Go G q pc lv (a4 :: a3 :: a2 :: a1 :: oR G c0 :: st) S Post := Go_callV (As := [a1, a2, a3, a4]) d h0 rfl hst hF (fun r S' h => by obtain ⟨rfl, h⟩ := h; exact k S' h)
theorem Go_S4n {y : MKT} {a1 a2 a3 a4 : Value} {f : St → Prop} (d : DCS q pc y 4 n) (hF : Fn G y [a1, a2, a3, a4] S (PN f)) (hst : (st.map fun v => v.category).sum ≤ 8) (k : ∀ S', f S' → Go G q n lv st S' Post) : Go G q pc lv (a4 :: a3 :: a2 :: a1 :: st) S Post := Go_callS (As := [a1, a2, a3, a4]) d rfl hst hF (fun r S' h => by obtain ⟨rfl, h⟩ := h; exact k S' h)
theorem Go_V5p {y : MKT} {c0 ci : Nat} {a1 a2 a3 a4 a5 : Value} {v : Value} (d : DCV q pc y ci 5 n) (h0 : c0 < 23 ∧ kd c0 = ci) (hF : Fn G y (oR G c0 :: [a1, a2, a3, a4, a5]) S (PV v S)) (hst : (st.map fun v => v.category).sum ≤ 8) (k : Go G q n lv (v :: st) S Post) : Go G q pc lv (a5 :: a4 :: a3 :: a2 :: a1 :: oR G c0 :: st) S Post := Go_callV (As := [a1, a2, a3, a4, a5]) d h0 rfl hst hF (fun r S' h => by obtain ⟨rfl, rfl⟩ := h; exact k)
theorem Go_S5p {y : MKT} {a1 a2 a3 a4 a5 : Value} {v : Value} (d : DCS q pc y 5 n) (hF : Fn G y [a1, a2, a3, a4, a5] S (PV v S)) (hst : (st.map fun v => v.category).sum ≤ 8) (k : Go G q n lv (v :: st) S Post) : Go G q pc lv (a5 :: a4 :: a3 :: a2 :: a1 :: st) S Post := Go_callS (As := [a1, a2, a3, a4, a5]) d rfl hst hF (fun r S' h => by obtain ⟨rfl, rfl⟩ := h; exact k)
theorem Go_V5i {y : MKT} {c0 ci : Nat} {a1 a2 a3 a4 a5 : Value} {f : Int → St → Prop} (d : DCV q pc y ci 5 n) (h0 : c0 < 23 ∧ kd c0 = ci) (hF : Fn G y (oR G c0 :: [a1, a2, a3, a4, a5]) S (PI f)) (hst : (st.map fun v => v.category).sum ≤ 8) (k : ∀ z S', f z S' → Go G q n lv (vI z :: st) S' Post) : Go G q pc lv (a5 :: a4 :: a3 :: a2 :: a1 :: oR G c0 :: st) S Post := Go_callV (As := [a1, a2, a3, a4, a5]) d h0 rfl hst hF (fun r S' h => by obtain ⟨z, rfl, h⟩ := h; exact k z S' h)
theorem Go_S5i {y : MKT} {a1 a2 a3 a4 a5 : Value} {f : Int → St → Prop} (d : DCS q pc y 5 n) (hF : Fn G y [a1, a2, a3, a4, a5] S (PI f)) (hst : (st.map fun v => v.category).sum ≤ 8) (k : ∀ z S', f z S' → Go G q n lv (vI z :: st) S' Post) : Go G q pc lv (a5 :: a4 :: a3 :: a2 :: a1 :: st) S Post := Go_callS (As := [a1, a2, a3, a4, a5]) d rfl hst hF (fun r S' h => by obtain ⟨z, rfl, h⟩ := h; exact k z S' h)
theorem Go_V5l {y : MKT} {c0 ci : Nat} {a1 a2 a3 a4 a5 : Value} {f : Int → St → Prop} (d : DCV q pc y ci 5 n) (h0 : c0 < 23 ∧ kd c0 = ci) (hF : Fn G y (oR G c0 :: [a1, a2, a3, a4, a5]) S (PL f)) (hst : (st.map fun v => v.category).sum ≤ 8) (k : ∀ z S', f z S' → Go G q n lv (vL z :: st) S' Post) : Go G q pc lv (a5 :: a4 :: a3 :: a2 :: a1 :: oR G c0 :: st) S Post := Go_callV (As := [a1, a2, a3, a4, a5]) d h0 rfl hst hF (fun r S' h => by obtain ⟨z, rfl, h⟩ := h; exact k z S' h)
theorem Go_S5l {y : MKT} {a1 a2 a3 a4 a5 : Value} {f : Int → St → Prop} (d : DCS q pc y 5 n) (hF : Fn G y [a1, a2, a3, a4, a5] S (PL f)) (hst : (st.map fun v => v.category).sum ≤ 8) (k : ∀ z S', f z S' → Go G q n lv (vL z :: st) S' Post) : Go G q pc lv (a5 :: a4 :: a3 :: a2 :: a1 :: st) S Post := Go_callS (As := [a1, a2, a3, a4, a5]) d rfl hst hF (fun r S' h => by obtain ⟨z, rfl, h⟩ := h; exact k z S' h)
theorem Go_V5n {y : MKT} {c0 ci : Nat} {a1 a2 a3 a4 a5 : Value} {f : St → Prop} (d : DCV q pc y ci 5 n) (h0 : c0 < 23 ∧ kd c0 = ci) (hF : Fn G y (oR G c0 :: [a1, a2, a3, a4, a5]) S (PN f)) (hst : (st.map fun v => v.category).sum ≤ 8) (k : ∀ S', f S' → Go G q n lv st S' Post) : Go G q pc lv (a5 :: a4 :: a3 :: a2 :: a1 :: oR G c0 :: st) S Post := Go_callV (As := [a1, a2, a3, a4, a5]) d h0 rfl hst hF (fun r S' h => by obtain ⟨rfl, h⟩ := h; exact k S' h)
theorem Go_S5n {y : MKT} {a1 a2 a3 a4 a5 : Value} {f : St → Prop} (d : DCS q pc y 5 n) (hF : Fn G y [a1, a2, a3, a4, a5] S (PN f)) (hst : (st.map fun v => v.category).sum ≤ 8) (k : ∀ S', f S' → Go G q n lv st S' Post) : Go G q pc lv (a5 :: a4 :: a3 :: a2 :: a1 :: st) S Post := Go_callS (As := [a1, a2, a3, a4, a5]) d rfl hst hF (fun r S' h => by obtain ⟨rfl, h⟩ := h; exact k S' h)
theorem Go_S6p {y : MKT} {a1 a2 a3 a4 a5 a6 : Value} {v : Value} (d : DCS q pc y 6 n) (hF : Fn G y [a1, a2, a3, a4, a5, a6] S (PV v S)) (hst : (st.map fun v => v.category).sum ≤ 8) (k : Go G q n lv (v :: st) S Post) : Go G q pc lv (a6 :: a5 :: a4 :: a3 :: a2 :: a1 :: st) S Post := Go_callS (As := [a1, a2, a3, a4, a5, a6]) d rfl hst hF (fun r S' h => by obtain ⟨rfl, rfl⟩ := h; exact k)
theorem Go_S6i {y : MKT} {a1 a2 a3 a4 a5 a6 : Value} {f : Int → St → Prop} (d : DCS q pc y 6 n) (hF : Fn G y [a1, a2, a3, a4, a5, a6] S (PI f)) (hst : (st.map fun v => v.category).sum ≤ 8) (k : ∀ z S', f z S' → Go G q n lv (vI z :: st) S' Post) : Go G q pc lv (a6 :: a5 :: a4 :: a3 :: a2 :: a1 :: st) S Post := Go_callS (As := [a1, a2, a3, a4, a5, a6]) d rfl hst hF (fun r S' h => by obtain ⟨z, rfl, h⟩ := h; exact k z S' h)
theorem Go_S6l {y : MKT} {a1 a2 a3 a4 a5 a6 : Value} {f : Int → St → Prop} (d : DCS q pc y 6 n) (hF : Fn G y [a1, a2, a3, a4, a5, a6] S (PL f)) (hst : (st.map fun v => v.category).sum ≤ 8) (k : ∀ z S', f z S' → Go G q n lv (vL z :: st) S' Post) : Go G q pc lv (a6 :: a5 :: a4 :: a3 :: a2 :: a1 :: st) S Post := Go_callS (As := [a1, a2, a3, a4, a5, a6]) d rfl hst hF (fun r S' h => by obtain ⟨z, rfl, h⟩ := h; exact k z S' h)
theorem Go_S6n {y : MKT} {a1 a2 a3 a4 a5 a6 : Value} {f : St → Prop} (d : DCS q pc y 6 n) (hF : Fn G y [a1, a2, a3, a4, a5, a6] S (PN f)) (hst : (st.map fun v => v.category).sum ≤ 8) (k : ∀ S', f S' → Go G q n lv st S' Post) : Go G q pc lv (a6 :: a5 :: a4 :: a3 :: a2 :: a1 :: st) S Post := Go_callS (As := [a1, a2, a3, a4, a5, a6]) d rfl hst hF (fun r S' h => by obtain ⟨rfl, h⟩ := h; exact k S' h)
/-! natives and the static rows -/
def DAC (q : MKT) (pc n : Nat) : Prop := ∃ idx : Nat, decode q.2.2.1 pc = .ok (.invokestatic idx, 3) ∧ pc + 3 = n ∧ Cond.methodLink q.1 idx arraycopyName ∈ tb ∧ 1 ≤ q.2.2.2.2.2
theorem w_acN : Cond.native arraycopyName ∈ tb ∧ Cond.static arraycopyName ∈ tb ∧ Cond.initialized "java/lang/System" ∈ tb := ⟨tb_of (by decide +kernel) (by decide +kernel), tb_of (by decide +kernel) (by decide +kernel), tb_of (by decide +kernel) (by decide +kernel)⟩
def cpy3 (S : St) (c j c1 j1 sp dp k : Nat) : St := fun x y i => if x = c1 ∧ y = j1 ∧ dp ≤ i ∧ i < dp + k then S c j (sp + (i - dp)) else S x y i
theorem mk_cpy {c j c1 j1 sp dp k : Nat} (hc : c1 < 23) (ha : ak c1 j1 ≠ 0) {p : Nat × Nat} (hp : p ∈ vs) (hne : p ≠ (c1, j1 + 1)) : mk G (cpy3 S c j c1 j1 sp dp k) p.1 p.2 = mk G S p.1 p.2 := by
  obtain ⟨pc, pt⟩ := p
  have hok := vs_ok _ hp
  dsimp only at hok ⊢
  cases pt with
  | zero =>
    show (Sum.inr (kd pc, fl G (cpy3 S c j c1 j1 sp dp k) pc) : va_E) = Sum.inr (kd pc, fl G S pc)
    have e : fl G (cpy3 S c j c1 j1 sp dp k) pc = fl G S pc := by
      by_cases hcc : pc = c1
      · subst hcc
        unfold ak at ha
        rcases kd_cases pc hc with h | h | h | h | h | h <;> rw [h] at ha <;> simp only [fl, h, fl_Book, fl_Past, fl_Sheet, fl_Tape, fl_Mix, fl_Model] <;>
          (congr <;> exact if_neg (fun e => ha (by rw [← e.2.1]; rfl)))
      · unfold fl
        have hz : ∀ j2 i1, cpy3 S c j c1 j1 sp dp k pc j2 i1 = S pc j2 i1 := fun j2 i1 => if_neg (fun e => hcc e.1)
        split <;> simp only [fl_Book, fl_Past, fl_Sheet, fl_Tape, fl_Mix, fl_Model, hz]
    rw [e]
  | succ t =>
    show (Sum.inl (G.2.2.2.2.1 pc t, ln pc t, mkc G (cpy3 S c j c1 j1 sp dp k) pc t) : va_E) = Sum.inl (G.2.2.2.2.1 pc t, ln pc t, mkc G S pc t)
    have e : mkc G (cpy3 S c j c1 j1 sp dp k) pc t = mkc G S pc t := by
      have hz : ∀ i, cpy3 S c j c1 j1 sp dp k pc t i = S pc t i := fun i => if_neg (fun q => hne (by rw [q.1, q.2.1]))
      unfold mkc
      simp only [hz]
    rw [e]
theorem AI.cpy {c j c1 j1 N1 sp dp k z : Nat} (h1 : AI c1 j1 N1) (hk : vs[z]? = some (c1, j1 + 1)) : (Wd G S).set z (G.2.1 c1 (j1 + 1), .inl (G.2.2.2.2.1 c1 j1, N1, .inl (va_cpy (fun k => iI (S c j k)) (fun k => iI (S c1 j1 k)) sp dp k))) = Wd G (cpy3 S c j c1 j1 sp dp k) := by
  have e := Wd_set (G := G) (S := S) (S' := cpy3 S c j c1 j1 sp dp k) hk (fun p hp hne => mk_cpy h1.1 (by rw [h1.2.2.1]; decide) hp hne)
  rw [show ((c1, j1 + 1) : Nat × Nat).1 = c1 from rfl, show ((c1, j1 + 1) : Nat × Nat).2 = j1 + 1 from rfl, mk_AI h1] at e
  rw [← e]
  congr 6
  funext i
  unfold va_cpy cpy3
  by_cases hz : dp ≤ i ∧ i < dp + k
  · rw [if_pos hz, if_pos ⟨rfl, rfl, hz⟩]
  · rw [if_neg hz, if_neg (fun q => hz q.2.2)]
theorem AL.cpy {c j c1 j1 N1 sp dp k z : Nat} (h1 : AL c1 j1 N1) (hk : vs[z]? = some (c1, j1 + 1)) : (Wd G S).set z (G.2.1 c1 (j1 + 1), .inl (G.2.2.2.2.1 c1 j1, N1, .inr (.inl (va_cpy (fun k => lI (S c j k)) (fun k => lI (S c1 j1 k)) sp dp k)))) = Wd G (cpy3 S c j c1 j1 sp dp k) := by
  have e := Wd_set (G := G) (S := S) (S' := cpy3 S c j c1 j1 sp dp k) hk (fun p hp hne => mk_cpy h1.1 (by rw [h1.2.2.1]; decide) hp hne)
  rw [show ((c1, j1 + 1) : Nat × Nat).1 = c1 from rfl, show ((c1, j1 + 1) : Nat × Nat).2 = j1 + 1 from rfl, mk_AL h1] at e
  rw [← e]
  congr 7
  funext i
  unfold va_cpy cpy3
  by_cases hz : dp ≤ i ∧ i < dp + k
  · rw [if_pos hz, if_pos ⟨rfl, rfl, hz⟩]
  · rw [if_neg hz, if_neg (fun q => hz q.2.2)]

set_option maxHeartbeats 2000000 in
theorem Go_copyI {c0 j N c1 j1 N1 : Nat} {sp dp k : Int} (d : DAC q pc n) (h0 : AI c0 j N) (h1 : AI c1 j1 N1) (hsp : 0 ≤ sp) (hdp : 0 ≤ dp) (hk : 0 ≤ k) (hs1 : sp + k ≤ (N : Int)) (hd1 : dp + k ≤ (N1 : Int)) (hst : (st.map fun v => v.category).sum ≤ 8) (kk : Go G q n lv st (cpy3 S c0 j c1 j1 sp.toNat dp.toNat k.toNat) Post) : Go G q pc lv (vI k :: vI dp :: aR G c1 j1 :: vI sp :: aR G c0 j :: st) S Post := by
  intro p e R s m args below meth c cells slots Q H locs ls X hc hs K hl hP hS
  obtain ⟨idx, hd, rfl, w1, w2⟩ := d
  obtain ⟨hx, hb, hml, hown, hts, hK, hR, -⟩ := id X
  obtain ⟨z0, -, hz0⟩ := h0.at (G := G) (S := S)
  obtain ⟨z1, hz1', hz1⟩ := h1.at (G := G) (S := S)
  obtain ⟨y0, hy0⟩ := h0.ty (G := G)
  obtain ⟨y1, hy1⟩ := h1.ty (G := G)
  have hN := h0.2.2.2.2
  have hN1 := h1.2.2.2.2
  have ng : ∀ x : Int, 0 ≤ x → x < 2147483648 → ¬ iI x < 0 := fun x h h2 => fun e => by have := (iI_lt (a := x) (b := 0) (by omega) (by omega)).mp e; omega
  refine va_copyi hx hb (hml.trans hl.1.symm) hown (hts _ w1) (hts _ w_acN.1) (hts _ w_acN.2.1) (hts _ w_acN.2.2) hK.1 hP (Wd_D hK.2.1) hS z0 z1 y0 y1 hz0 hz1 hy0 hy1 rfl (ng sp hsp (by omega)) (ng dp hdp (by omega)) (ng k hk (by omega)) (by rw [iI_cl (by omega), iI_cl (by omega)]; omega) (by rw [iI_cl (by omega), iI_cl (by omega)]; omega) (fun _ _ => rfl) (Nat.le_trans w2 hR.1) ?_ hd (fun H1 locs1 hP1 _ hS1 => ?_)
  · have : nativeFrameWords "java/lang/System" "arraycopy" 5 = 7 := by decide
    omega
  · rw [iI_cl (by omega), iI_cl (by omega), iI_cl (by omega), AI.cpy h1 hz1'] at hP1
    exact kk p e R s m args below meth c cells slots Q H1 locs1 ls X hc hs K hl hP1 hS1
set_option maxHeartbeats 2000000 in
theorem Go_copyL {c0 j N c1 j1 N1 : Nat} {sp dp k : Int} (d : DAC q pc n) (h0 : AL c0 j N) (h1 : AL c1 j1 N1) (hsp : 0 ≤ sp) (hdp : 0 ≤ dp) (hk : 0 ≤ k) (hs1 : sp + k ≤ (N : Int)) (hd1 : dp + k ≤ (N1 : Int)) (hst : (st.map fun v => v.category).sum ≤ 8) (kk : Go G q n lv st (cpy3 S c0 j c1 j1 sp.toNat dp.toNat k.toNat) Post) : Go G q pc lv (vI k :: vI dp :: aR G c1 j1 :: vI sp :: aR G c0 j :: st) S Post := by
  intro p e R s m args below meth c cells slots Q H locs ls X hc hs K hl hP hS
  obtain ⟨idx, hd, rfl, w1, w2⟩ := d
  obtain ⟨hx, hb, hml, hown, hts, hK, hR, -⟩ := id X
  obtain ⟨z0, -, hz0⟩ := h0.at (G := G) (S := S)
  obtain ⟨z1, hz1', hz1⟩ := h1.at (G := G) (S := S)
  obtain ⟨y0, hy0⟩ := h0.ty (G := G)
  obtain ⟨y1, hy1⟩ := h1.ty (G := G)
  have hN := h0.2.2.2.2
  have hN1 := h1.2.2.2.2
  have ng : ∀ x : Int, 0 ≤ x → x < 2147483648 → ¬ iI x < 0 := fun x h h2 => fun e => by have := (iI_lt (a := x) (b := 0) (by omega) (by omega)).mp e; omega
  refine va_copyl hx hb (hml.trans hl.1.symm) hown (hts _ w1) (hts _ w_acN.1) (hts _ w_acN.2.1) (hts _ w_acN.2.2) hK.1 hP (Wd_D hK.2.1) hS z0 z1 y0 y1 hz0 hz1 hy0 hy1 rfl (ng sp hsp (by omega)) (ng dp hdp (by omega)) (ng k hk (by omega)) (by rw [iI_cl (by omega), iI_cl (by omega)]; omega) (by rw [iI_cl (by omega), iI_cl (by omega)]; omega) (fun _ _ => rfl) (Nat.le_trans w2 hR.1) ?_ hd (fun H1 locs1 hP1 _ hS1 => ?_)
  · have : nativeFrameWords "java/lang/System" "arraycopy" 5 = 7 := by decide
    omega
  · rw [iI_cl (by omega), iI_cl (by omega), iI_cl (by omega), AL.cpy h1 hz1'] at hP1
    exact kk p e R s m args below meth c cells slots Q H1 locs1 ls X hc hs K hl hP1 hS1
end Calls
end
section
/-! ===== keys, words ===== -/
abbrev k_B_init : MKT := ("MixRounds$Book", yX0_init, cX0_init, 1, none, 1)
theorem m_B_init : CM k_B_init := ⟨tb_at 65 (by decide +kernel) (by decide +kernel), tb_at 44 (by decide +kernel) (by decide +kernel), ⟨by decide, by decide⟩, by decide⟩
abbrev k_B_become : MKT := ("MixRounds$Book", yX0_become, cX0_become, 2, none, 1)
theorem m_B_become : CM k_B_become := ⟨tb_at 238 (by decide +kernel) (by decide +kernel), tb_at 44 (by decide +kernel) (by decide +kernel), ⟨by decide, by decide⟩, by decide⟩
abbrev k_B_clear : MKT := ("MixRounds$Book", yX0_clear, cX0_clear, 1, none, 0)
theorem m_B_clear : CM k_B_clear := ⟨tb_at 299 (by decide +kernel) (by decide +kernel), tb_at 44 (by decide +kernel) (by decide +kernel), ⟨by decide, by decide⟩, by decide⟩
abbrev k_B_isFull : MKT := ("MixRounds$Book", yX0_isFull, cX0_isFull, 1, some .boolean, 0)
theorem m_B_isFull : CM k_B_isFull := ⟨tb_at 230 (by decide +kernel) (by decide +kernel), tb_at 44 (by decide +kernel) (by decide +kernel), ⟨by decide, by decide⟩, by decide⟩
abbrev k_B_takesLetter : MKT := ("MixRounds$Book", yX0_takesLetter, cX0_takesLetter, 1, some .boolean, 1)
theorem m_B_takesLetter : CM k_B_takesLetter := ⟨tb_at 226 (by decide +kernel) (by decide +kernel), tb_at 44 (by decide +kernel) (by decide +kernel), ⟨by decide, by decide⟩, by decide⟩
abbrev k_B_hasLetter : MKT := ("MixRounds$Book", yX0_hasLetter, cX0_hasLetter, 2, some .boolean, 0)
theorem m_B_hasLetter : CM k_B_hasLetter := ⟨tb_at 270 (by decide +kernel) (by decide +kernel), tb_at 44 (by decide +kernel) (by decide +kernel), ⟨by decide, by decide⟩, by decide⟩
abbrev k_B_hasRound : MKT := ("MixRounds$Book", yX0_hasRound, cX0_hasRound, 2, some .boolean, 0)
theorem m_B_hasRound : CM k_B_hasRound := ⟨tb_at 328 (by decide +kernel) (by decide +kernel), tb_at 44 (by decide +kernel) (by decide +kernel), ⟨by decide, by decide⟩, by decide⟩
abbrev k_B_hasOut : MKT := ("MixRounds$Book", yX0_hasOut, cX0_hasOut, 3, some .boolean, 2)
theorem m_B_hasOut : CM k_B_hasOut := ⟨tb_at 342 (by decide +kernel) (by decide +kernel), tb_at 44 (by decide +kernel) (by decide +kernel), ⟨by decide, by decide⟩, by decide⟩
abbrev k_B_fact : MKT := ("MixRounds$Book", yX0_fact, cX0_fact, 3, some .int, 1)
theorem m_B_fact : CM k_B_fact := ⟨tb_at 332 (by decide +kernel) (by decide +kernel), tb_at 44 (by decide +kernel) (by decide +kernel), ⟨by decide, by decide⟩, by decide⟩
abbrev k_B_outLetter : MKT := ("MixRounds$Book", yX0_outLetter, cX0_outLetter, 3, some .int, 3)
theorem m_B_outLetter : CM k_B_outLetter := ⟨tb_at 347 (by decide +kernel) (by decide +kernel), tb_at 44 (by decide +kernel) (by decide +kernel), ⟨by decide, by decide⟩, by decide⟩
abbrev k_B_isOwnOut : MKT := ("MixRounds$Book", yX0_isOwnOut, cX0_isOwnOut, 3, some .boolean, 4)
theorem m_B_isOwnOut : CM k_B_isOwnOut := ⟨tb_at 355 (by decide +kernel) (by decide +kernel), tb_at 44 (by decide +kernel) (by decide +kernel), ⟨by decide, by decide⟩, by decide⟩
abbrev k_B_senderOf : MKT := ("MixRounds$Book", yX0_senderOf, cX0_senderOf, 2, some .int, 1)
theorem m_B_senderOf : CM k_B_senderOf := ⟨tb_at 308 (by decide +kernel) (by decide +kernel), tb_at 44 (by decide +kernel) (by decide +kernel), ⟨by decide, by decide⟩, by decide⟩
abbrev k_B_receiverOf : MKT := ("MixRounds$Book", yX0_receiverOf, cX0_receiverOf, 2, some .int, 1)
theorem m_B_receiverOf : CM k_B_receiverOf := ⟨tb_at 312 (by decide +kernel) (by decide +kernel), tb_at 44 (by decide +kernel) (by decide +kernel), ⟨by decide, by decide⟩, by decide⟩
abbrev k_B_firstOf : MKT := ("MixRounds$Book", yX0_firstOf, cX0_firstOf, 2, some .int, 1)
theorem m_B_firstOf : CM k_B_firstOf := ⟨tb_at 316 (by decide +kernel) (by decide +kernel), tb_at 44 (by decide +kernel) (by decide +kernel), ⟨by decide, by decide⟩, by decide⟩
abbrev k_B_nextDraw : MKT := ("MixRounds$Book", yX0_nextDraw, cX0_nextDraw, 1, some .int, 0)
theorem m_B_nextDraw : CM k_B_nextDraw := ⟨tb_at 260 (by decide +kernel) (by decide +kernel), tb_at 44 (by decide +kernel) (by decide +kernel), ⟨by decide, by decide⟩, by decide⟩
abbrev k_B_takeLetter : MKT := ("MixRounds$Book", yX0_takeLetter, cX0_takeLetter, 3, some .int, 3)
theorem m_B_takeLetter : CM k_B_takeLetter := ⟨tb_at 245 (by decide +kernel) (by decide +kernel), tb_at 44 (by decide +kernel) (by decide +kernel), ⟨by decide, by decide⟩, by decide⟩
abbrev k_B_hearTick : MKT := ("MixRounds$Book", yX0_hearTick, cX0_hearTick, 1, some .int, 3)
theorem m_B_hearTick : CM k_B_hearTick := ⟨tb_at 283 (by decide +kernel) (by decide +kernel), tb_at 44 (by decide +kernel) (by decide +kernel), ⟨by decide, by decide⟩, by decide⟩
abbrev k_B_leaving : MKT := ("MixRounds$Book", yX0_leaving, cX0_leaving, 5, some .int, 0)
theorem m_B_leaving : CM k_B_leaving := ⟨tb_at 252 (by decide +kernel) (by decide +kernel), tb_at 44 (by decide +kernel) (by decide +kernel), ⟨by decide, by decide⟩, by decide⟩
abbrev k_B_add : MKT := ("MixRounds$Book", yX0_add, cX0_add, 3, none, 0)
theorem m_B_add : CM k_B_add := ⟨tb_at 249 (by decide +kernel) (by decide +kernel), tb_at 44 (by decide +kernel) (by decide +kernel), ⟨by decide, by decide⟩, by decide⟩
abbrev k_B_goRound : MKT := ("MixRounds$Book", yX0_goRound, cX0_goRound, 6, some .int, 2)
theorem m_B_goRound : CM k_B_goRound := ⟨tb_at 256 (by decide +kernel) (by decide +kernel), tb_at 44 (by decide +kernel) (by decide +kernel), ⟨by decide, by decide⟩, by decide⟩
abbrev k_B_ownWaiting : MKT := ("MixRounds$Book", yX0_ownWaiting, cX0_ownWaiting, 4, some .int, 1)
theorem m_B_ownWaiting : CM k_B_ownWaiting := ⟨tb_at 266 (by decide +kernel) (by decide +kernel), tb_at 44 (by decide +kernel) (by decide +kernel), ⟨by decide, by decide⟩, by decide⟩
abbrev k_B_letOut : MKT := ("MixRounds$Book", yX0_letOut, cX0_letOut, 5, none, 1)
theorem m_B_letOut : CM k_B_letOut := ⟨tb_at 274 (by decide +kernel) (by decide +kernel), tb_at 44 (by decide +kernel) (by decide +kernel), ⟨by decide, by decide⟩, by decide⟩
abbrev k_P_init : MKT := ("MixRounds$Past", yX1_init, cX1_init, 2, none, 2)
theorem m_P_init : CM k_P_init := ⟨tb_at 131 (by decide +kernel) (by decide +kernel), tb_at 45 (by decide +kernel) (by decide +kernel), ⟨by decide, by decide⟩, by decide⟩
abbrev k_P_remember : MKT := ("MixRounds$Past", yX1_remember, cX1_remember, 2, none, 2)
theorem m_P_remember : CM k_P_remember := ⟨tb_at 234 (by decide +kernel) (by decide +kernel), tb_at 45 (by decide +kernel) (by decide +kernel), ⟨by decide, by decide⟩, by decide⟩
abbrev k_P_bringBack : MKT := ("MixRounds$Past", yX1_bringBack, cX1_bringBack, 2, none, 2)
theorem m_P_bringBack : CM k_P_bringBack := ⟨tb_at 497 (by decide +kernel) (by decide +kernel), tb_at 45 (by decide +kernel) (by decide +kernel), ⟨by decide, by decide⟩, by decide⟩
abbrev k_P_become : MKT := ("MixRounds$Past", yX1_become, cX1_become, 3, none, 2)
theorem m_P_become : CM k_P_become := ⟨tb_at 510 (by decide +kernel) (by decide +kernel), tb_at 45 (by decide +kernel) (by decide +kernel), ⟨by decide, by decide⟩, by decide⟩
abbrev k_H_init : MKT := ("MixRounds$Sheet", yX2_init, cX2_init, 1, none, 1)
theorem m_H_init : CM k_H_init := ⟨tb_at 178 (by decide +kernel) (by decide +kernel), tb_at 47 (by decide +kernel) (by decide +kernel), ⟨by decide, by decide⟩, by decide⟩
abbrev k_H_isMissing : MKT := ("MixRounds$Sheet", yX2_isMissing, cX2_isMissing, 1, some .boolean, 0)
theorem m_H_isMissing : CM k_H_isMissing := ⟨tb_at 532 (by decide +kernel) (by decide +kernel), tb_at 47 (by decide +kernel) (by decide +kernel), ⟨by decide, by decide⟩, by decide⟩
abbrev k_H_renew : MKT := ("MixRounds$Sheet", yX2_renew, cX2_renew, 3, none, 1)
theorem m_H_renew : CM k_H_renew := ⟨tb_at 572 (by decide +kernel) (by decide +kernel), tb_at 47 (by decide +kernel) (by decide +kernel), ⟨by decide, by decide⟩, by decide⟩
abbrev k_H_holds : MKT := ("MixRounds$Sheet", yX2_holds, cX2_holds, 3, some .boolean, 0)
theorem m_H_holds : CM k_H_holds := ⟨tb_at 536 (by decide +kernel) (by decide +kernel), tb_at 47 (by decide +kernel) (by decide +kernel), ⟨by decide, by decide⟩, by decide⟩
abbrev k_H_fault : MKT := ("MixRounds$Sheet", yX2_fault, cX2_fault, 4, some .int, 1)
theorem m_H_fault : CM k_H_fault := ⟨tb_at 528 (by decide +kernel) (by decide +kernel), tb_at 47 (by decide +kernel) (by decide +kernel), ⟨by decide, by decide⟩, by decide⟩
abbrev k_H_tellsPairs : MKT := ("MixRounds$Sheet", yX2_tellsPairs, cX2_tellsPairs, 8, some .boolean, 2)
theorem m_H_tellsPairs : CM k_H_tellsPairs := ⟨tb_at 540 (by decide +kernel) (by decide +kernel), tb_at 47 (by decide +kernel) (by decide +kernel), ⟨by decide, by decide⟩, by decide⟩
abbrev k_H_at : MKT := ("MixRounds$Sheet", yX2_at, cX2_at, 2, some .long, 1)
theorem m_H_at : CM k_H_at := ⟨tb_at 544 (by decide +kernel) (by decide +kernel), tb_at 47 (by decide +kernel) (by decide +kernel), ⟨by decide, by decide⟩, by decide⟩
abbrev k_H_put : MKT := ("MixRounds$Sheet", yX2_put, cX2_put, 4, none, 1)
theorem m_H_put : CM k_H_put := ⟨tb_at 564 (by decide +kernel) (by decide +kernel), tb_at 47 (by decide +kernel) (by decide +kernel), ⟨by decide, by decide⟩, by decide⟩
abbrev k_T_init : MKT := ("MixRounds$Tape", yX3_init, cX3_init, 1, none, 1)
theorem m_T_init : CM k_T_init := ⟨tb_at 151 (by decide +kernel) (by decide +kernel), tb_at 46 (by decide +kernel) (by decide +kernel), ⟨by decide, by decide⟩, by decide⟩
abbrev k_T_add : MKT := ("MixRounds$Tape", yX3_add, cX3_add, 2, none, 0)
theorem m_T_add : CM k_T_add := ⟨tb_at 443 (by decide +kernel) (by decide +kernel), tb_at 46 (by decide +kernel) (by decide +kernel), ⟨by decide, by decide⟩, by decide⟩
abbrev k_T_parse : MKT := ("MixRounds$Tape", yX3_parse, cX3_parse, 5, some .int, 3)
theorem m_T_parse : CM k_T_parse := ⟨tb_at 451 (by decide +kernel) (by decide +kernel), tb_at 46 (by decide +kernel) (by decide +kernel), ⟨by decide, by decide⟩, by decide⟩
abbrev k_T_skipBlanks : MKT := ("MixRounds$Tape", yX3_skipBlanks, cX3_skipBlanks, 3, some .int, 1)
theorem m_T_skipBlanks : CM k_T_skipBlanks := ⟨tb_at 455 (by decide +kernel) (by decide +kernel), tb_at 46 (by decide +kernel) (by decide +kernel), ⟨by decide, by decide⟩, by decide⟩
abbrev k_T_signAt : MKT := ("MixRounds$Tape", yX3_signAt, cX3_signAt, 2, some .int, 0)
theorem m_T_signAt : CM k_T_signAt := ⟨tb_at 459 (by decide +kernel) (by decide +kernel), tb_at 46 (by decide +kernel) (by decide +kernel), ⟨by decide, by decide⟩, by decide⟩
abbrev k_T_senderAt : MKT := ("MixRounds$Tape", yX3_senderAt, cX3_senderAt, 2, some .int, 2)
theorem m_T_senderAt : CM k_T_senderAt := ⟨tb_at 463 (by decide +kernel) (by decide +kernel), tb_at 46 (by decide +kernel) (by decide +kernel), ⟨by decide, by decide⟩, by decide⟩
abbrev k_T_figureAt : MKT := ("MixRounds$Tape", yX3_figureAt, cX3_figureAt, 3, some .int, 1)
theorem m_T_figureAt : CM k_T_figureAt := ⟨tb_at 467 (by decide +kernel) (by decide +kernel), tb_at 46 (by decide +kernel) (by decide +kernel), ⟨by decide, by decide⟩, by decide⟩
abbrev k_W_share : MKT := ("MixRounds$Watcher", yX4_share, cX4_share, 2, some .long, 2)
theorem m_W_share : CM k_W_share := ⟨tb_at 368 (by decide +kernel) (by decide +kernel), tb_at 50 (by decide +kernel) (by decide +kernel), ⟨by decide, by decide⟩, by decide⟩
abbrev k_W_kept : MKT := ("MixRounds$Watcher", yX4_kept, cX4_kept, 2, some .long, 2)
theorem m_W_kept : CM k_W_kept := ⟨tb_at 378 (by decide +kernel) (by decide +kernel), tb_at 50 (by decide +kernel) (by decide +kernel), ⟨by decide, by decide⟩, by decide⟩
abbrev k_W_whole : MKT := ("MixRounds$Watcher", yX4_whole, cX4_whole, 6, some .long, 3)
theorem m_W_whole : CM k_W_whole := ⟨tb_at 365 (by decide +kernel) (by decide +kernel), tb_at 50 (by decide +kernel) (by decide +kernel), ⟨by decide, by decide⟩, by decide⟩
abbrev k_W_left : MKT := ("MixRounds$Watcher", yX4_left, cX4_left, 6, some .long, 3)
theorem m_W_left : CM k_W_left := ⟨tb_at 375 (by decide +kernel) (by decide +kernel), tb_at 50 (by decide +kernel) (by decide +kernel), ⟨by decide, by decide⟩, by decide⟩
abbrev k_W_weight : MKT := ("MixRounds$Watcher", yX4_weight, cX4_weight, 4, some .long, 4)
theorem m_W_weight : CM k_W_weight := ⟨tb_at 360 (by decide +kernel) (by decide +kernel), tb_at 50 (by decide +kernel) (by decide +kernel), ⟨by decide, by decide⟩, by decide⟩
abbrev k_W_senderWeight : MKT := ("MixRounds$Watcher", yX4_senderWeight, cX4_senderWeight, 8, some .long, 3)
theorem m_W_senderWeight : CM k_W_senderWeight := ⟨tb_at 410 (by decide +kernel) (by decide +kernel), tb_at 50 (by decide +kernel) (by decide +kernel), ⟨by decide, by decide⟩, by decide⟩
abbrev k_W_expectedWeight : MKT := ("MixRounds$Watcher", yX4_expectedWeight, cX4_expectedWeight, 12, some .long, 5)
theorem m_W_expectedWeight : CM k_W_expectedWeight := ⟨tb_at 426 (by decide +kernel) (by decide +kernel), tb_at 50 (by decide +kernel) (by decide +kernel), ⟨by decide, by decide⟩, by decide⟩
abbrev k_W_fresh : MKT := ("MixRounds$Watcher", yX4_fresh, cX4_fresh, 5, some .int, 2)
theorem m_W_fresh : CM k_W_fresh := ⟨tb_at 413 (by decide +kernel) (by decide +kernel), tb_at 50 (by decide +kernel) (by decide +kernel), ⟨by decide, by decide⟩, by decide⟩
abbrev k_W_outsTo : MKT := ("MixRounds$Watcher", yX4_outsTo, cX4_outsTo, 7, some .int, 4)
theorem m_W_outsTo : CM k_W_outsTo := ⟨tb_at 429 (by decide +kernel) (by decide +kernel), tb_at 50 (by decide +kernel) (by decide +kernel), ⟨by decide, by decide⟩, by decide⟩
abbrev k_W_possible : MKT := ("MixRounds$Watcher", yX4_possible, cX4_possible, 5, some .int, 5)
theorem m_W_possible : CM k_W_possible := ⟨tb_at 351 (by decide +kernel) (by decide +kernel), tb_at 50 (by decide +kernel) (by decide +kernel), ⟨by decide, by decide⟩, by decide⟩
abbrev k_W_likeliest : MKT := ("MixRounds$Watcher", yX4_likeliest, cX4_likeliest, 9, some .int, 5)
theorem m_W_likeliest : CM k_W_likeliest := ⟨tb_at 381 (by decide +kernel) (by decide +kernel), tb_at 50 (by decide +kernel) (by decide +kernel), ⟨by decide, by decide⟩, by decide⟩
abbrev k_X_init : MKT := ("MixRounds", yX5_init, cX5_init, 2, none, 3)
theorem m_X_init : CM k_X_init := ⟨tb_at 57 (by decide +kernel) (by decide +kernel), tb_at 43 (by decide +kernel) (by decide +kernel), ⟨by decide, by decide⟩, by decide⟩
abbrev k_X_come : MKT := ("MixRounds", yX5_come, cX5_come, 3, some .int, 4)
theorem m_X_come : CM k_X_come := ⟨tb_at 219 (by decide +kernel) (by decide +kernel), tb_at 43 (by decide +kernel) (by decide +kernel), ⟨by decide, by decide⟩, by decide⟩
abbrev k_X_tick : MKT := ("MixRounds", yX5_tick, cX5_tick, 1, some .int, 4)
theorem m_X_tick : CM k_X_tick := ⟨tb_at 278 (by decide +kernel) (by decide +kernel), tb_at 43 (by decide +kernel) (by decide +kernel), ⟨by decide, by decide⟩, by decide⟩
abbrev k_X_tell : MKT := ("MixRounds", yX5_tell, cX5_tell, 4, some .int, 3)
theorem m_X_tell : CM k_X_tell := ⟨tb_at 287 (by decide +kernel) (by decide +kernel), tb_at 43 (by decide +kernel) (by decide +kernel), ⟨by decide, by decide⟩, by decide⟩
abbrev k_X_begin : MKT := ("MixRounds", yX5_begin, cX5_begin, 2, some .int, 3)
theorem m_X_begin : CM k_X_begin := ⟨tb_at 295 (by decide +kernel) (by decide +kernel), tb_at 43 (by decide +kernel) (by decide +kernel), ⟨by decide, by decide⟩, by decide⟩
abbrev k_X_letter : MKT := ("MixRounds", yX5_letter, cX5_letter, 3, some .int, 2)
theorem m_X_letter : CM k_X_letter := ⟨tb_at 303 (by decide +kernel) (by decide +kernel), tb_at 43 (by decide +kernel) (by decide +kernel), ⟨by decide, by decide⟩, by decide⟩
abbrev k_X_inside : MKT := ("MixRounds", yX5_inside, cX5_inside, 2, some .int, 0)
theorem m_X_inside : CM k_X_inside := ⟨tb_at 320 (by decide +kernel) (by decide +kernel), tb_at 43 (by decide +kernel) (by decide +kernel), ⟨by decide, by decide⟩, by decide⟩
abbrev k_X_round : MKT := ("MixRounds", yX5_round, cX5_round, 3, some .int, 2)
theorem m_X_round : CM k_X_round := ⟨tb_at 324 (by decide +kernel) (by decide +kernel), tb_at 43 (by decide +kernel) (by decide +kernel), ⟨by decide, by decide⟩, by decide⟩
abbrev k_X_out : MKT := ("MixRounds", yX5_out, cX5_out, 4, some .int, 6)
theorem m_X_out : CM k_X_out := ⟨tb_at 338 (by decide +kernel) (by decide +kernel), tb_at 43 (by decide +kernel) (by decide +kernel), ⟨by decide, by decide⟩, by decide⟩
abbrev k_X_count : MKT := ("MixRounds", yX5_count, cX5_count, 2, some .int, 1)
theorem m_X_count : CM k_X_count := ⟨tb_at 386 (by decide +kernel) (by decide +kernel), tb_at 43 (by decide +kernel) (by decide +kernel), ⟨by decide, by decide⟩, by decide⟩
abbrev k_X_chance : MKT := ("MixRounds", yX5_chance, cX5_chance, 5, some .long, 5)
theorem m_X_chance : CM k_X_chance := ⟨tb_at 390 (by decide +kernel) (by decide +kernel), tb_at 43 (by decide +kernel) (by decide +kernel), ⟨by decide, by decide⟩, by decide⟩
abbrev k_X_sender : MKT := ("MixRounds", yX5_sender, cX5_sender, 5, some .long, 5)
theorem m_X_sender : CM k_X_sender := ⟨tb_at 407 (by decide +kernel) (by decide +kernel), tb_at 43 (by decide +kernel) (by decide +kernel), ⟨by decide, by decide⟩, by decide⟩
abbrev k_X_stays : MKT := ("MixRounds", yX5_stays, cX5_stays, 4, some .long, 4)
theorem m_X_stays : CM k_X_stays := ⟨tb_at 417 (by decide +kernel) (by decide +kernel), tb_at 43 (by decide +kernel) (by decide +kernel), ⟨by decide, by decide⟩, by decide⟩
abbrev k_X_expected : MKT := ("MixRounds", yX5_expected, cX5_expected, 4, some .long, 6)
theorem m_X_expected : CM k_X_expected := ⟨tb_at 423 (by decide +kernel) (by decide +kernel), tb_at 43 (by decide +kernel) (by decide +kernel), ⟨by decide, by decide⟩, by decide⟩
abbrev k_X_blend : MKT := ("MixRounds", yX5_blend, cX5_blend, 2, some .int, 1)
theorem m_X_blend : CM k_X_blend := ⟨tb_at 434 (by decide +kernel) (by decide +kernel), tb_at 43 (by decide +kernel) (by decide +kernel), ⟨by decide, by decide⟩, by decide⟩
abbrev k_X_type : MKT := ("MixRounds", yX5_type, cX5_type, 2, some .int, 1)
theorem m_X_type : CM k_X_type := ⟨tb_at 439 (by decide +kernel) (by decide +kernel), tb_at 43 (by decide +kernel) (by decide +kernel), ⟨by decide, by decide⟩, by decide⟩
abbrev k_X_read : MKT := ("MixRounds", yX5_read, cX5_read, 3, some .int, 6)
theorem m_X_read : CM k_X_read := ⟨tb_at 447 (by decide +kernel) (by decide +kernel), tb_at 43 (by decide +kernel) (by decide +kernel), ⟨by decide, by decide⟩, by decide⟩
abbrev k_X_drift : MKT := ("MixRounds", yX5_drift, cX5_drift, 3, some .int, 6)
theorem m_X_drift : CM k_X_drift := ⟨tb_at 484 (by decide +kernel) (by decide +kernel), tb_at 43 (by decide +kernel) (by decide +kernel), ⟨by decide, by decide⟩, by decide⟩
abbrev k_X_undo : MKT := ("MixRounds", yX5_undo, cX5_undo, 1, some .int, 3)
theorem m_X_undo : CM k_X_undo := ⟨tb_at 493 (by decide +kernel) (by decide +kernel), tb_at 43 (by decide +kernel) (by decide +kernel), ⟨by decide, by decide⟩, by decide⟩
abbrev k_X_seed : MKT := ("MixRounds", yX5_seed, cX5_seed, 3, some .int, 0)
theorem m_X_seed : CM k_X_seed := ⟨tb_at 501 (by decide +kernel) (by decide +kernel), tb_at 43 (by decide +kernel) (by decide +kernel), ⟨by decide, by decide⟩, by decide⟩
abbrev k_X_image : MKT := ("MixRounds", yX5_image, cX5_image, 1, some .int, 3)
theorem m_X_image : CM k_X_image := ⟨tb_at 505 (by decide +kernel) (by decide +kernel), tb_at 43 (by decide +kernel) (by decide +kernel), ⟨by decide, by decide⟩, by decide⟩
abbrev k_X_restore : MKT := ("MixRounds", yX5_restore, cX5_restore, 1, some .int, 3)
theorem m_X_restore : CM k_X_restore := ⟨tb_at 514 (by decide +kernel) (by decide +kernel), tb_at 43 (by decide +kernel) (by decide +kernel), ⟨by decide, by decide⟩, by decide⟩
abbrev k_X_fits : MKT := ("MixRounds", yX5_fits, cX5_fits, 9, some .int, 3)
theorem m_X_fits : CM k_X_fits := ⟨tb_at 518 (by decide +kernel) (by decide +kernel), tb_at 43 (by decide +kernel) (by decide +kernel), ⟨by decide, by decide⟩, by decide⟩
abbrev k_X_film : MKT := ("MixRounds", yX5_film, cX5_film, 9, some .int, 4)
theorem m_X_film : CM k_X_film := ⟨tb_at 560 (by decide +kernel) (by decide +kernel), tb_at 43 (by decide +kernel) (by decide +kernel), ⟨by decide, by decide⟩, by decide⟩
abbrev k_X_sheet : MKT := ("MixRounds", yX5_sheet, cX5_sheet, 4, some .int, 2)
theorem m_X_sheet : CM k_X_sheet := ⟨tb_at 568 (by decide +kernel) (by decide +kernel), tb_at 43 (by decide +kernel) (by decide +kernel), ⟨by decide, by decide⟩, by decide⟩
abbrev k_X_drop : MKT := ("MixRounds", yX5_drop, cX5_drop, 4, some .int, 2)
theorem m_X_drop : CM k_X_drop := ⟨tb_at 579 (by decide +kernel) (by decide +kernel), tb_at 43 (by decide +kernel) (by decide +kernel), ⟨by decide, by decide⟩, by decide⟩
abbrev k_X_item : MKT := ("MixRounds", yX5_item, cX5_item, 8, some .int, 2)
theorem m_X_item : CM k_X_item := ⟨tb_at 584 (by decide +kernel) (by decide +kernel), tb_at 43 (by decide +kernel) (by decide +kernel), ⟨by decide, by decide⟩, by decide⟩
abbrev k_X_copy : MKT := ("MixRounds", yX5_copy, cX5_copy, 8, some .int, 2)
theorem m_X_copy : CM k_X_copy := ⟨tb_at 588 (by decide +kernel) (by decide +kernel), tb_at 43 (by decide +kernel) (by decide +kernel), ⟨by decide, by decide⟩, by decide⟩
abbrev k_X_within : MKT := ("MixRounds", yX5_within, cX5_within, 3, some .boolean, 0)
theorem m_X_within : CM k_X_within := ⟨tb_at 222 (by decide +kernel) (by decide +kernel), tb_at 43 (by decide +kernel) (by decide +kernel), ⟨by decide, by decide⟩, by decide⟩
abbrev k_X_isPart : MKT := ("MixRounds", yX5_isPart, cX5_isPart, 1, some .boolean, 0)
theorem m_X_isPart : CM k_X_isPart := ⟨tb_at 393 (by decide +kernel) (by decide +kernel), tb_at 43 (by decide +kernel) (by decide +kernel), ⟨by decide, by decide⟩, by decide⟩
abbrev k_X_isSheet : MKT := ("MixRounds", yX5_isSheet, cX5_isSheet, 1, some .boolean, 1)
theorem m_X_isSheet : CM k_X_isSheet := ⟨tb_at 521 (by decide +kernel) (by decide +kernel), tb_at 43 (by decide +kernel) (by decide +kernel), ⟨by decide, by decide⟩, by decide⟩
abbrev k_X_isLane : MKT := ("MixRounds", yX5_isLane, cX5_isLane, 1, some .boolean, 1)
theorem m_X_isLane : CM k_X_isLane := ⟨tb_at 524 (by decide +kernel) (by decide +kernel), tb_at 43 (by decide +kernel) (by decide +kernel), ⟨by decide, by decide⟩, by decide⟩
abbrev k_X_lowest : MKT := ("MixRounds", yX5_lowest, cX5_lowest, 9, some .long, 1)
theorem m_X_lowest : CM k_X_lowest := ⟨tb_at 398 (by decide +kernel) (by decide +kernel), tb_at 43 (by decide +kernel) (by decide +kernel), ⟨by decide, by decide⟩, by decide⟩
abbrev k_X_greatestDivisor : MKT := ("MixRounds", yX5_greatestDivisor, cX5_greatestDivisor, 11, some .long, 0)
theorem m_X_greatestDivisor : CM k_X_greatestDivisor := ⟨tb_at 401 (by decide +kernel) (by decide +kernel), tb_at 43 (by decide +kernel) (by decide +kernel), ⟨by decide, by decide⟩, by decide⟩
abbrev k_X_play : MKT := ("MixRounds", yX5_play, cX5_play, 3, some .boolean, 5)
theorem m_X_play : CM k_X_play := ⟨tb_at 472 (by decide +kernel) (by decide +kernel), tb_at 43 (by decide +kernel) (by decide +kernel), ⟨by decide, by decide⟩, by decide⟩
abbrev k_X_tickIfHeard : MKT := ("MixRounds", yX5_tickIfHeard, cX5_tickIfHeard, 1, some .boolean, 4)
theorem m_X_tickIfHeard : CM k_X_tickIfHeard := ⟨tb_at 476 (by decide +kernel) (by decide +kernel), tb_at 43 (by decide +kernel) (by decide +kernel), ⟨by decide, by decide⟩, by decide⟩
abbrev k_X_takeIfRoom : MKT := ("MixRounds", yX5_takeIfRoom, cX5_takeIfRoom, 3, some .boolean, 4)
theorem m_X_takeIfRoom : CM k_X_takeIfRoom := ⟨tb_at 480 (by decide +kernel) (by decide +kernel), tb_at 43 (by decide +kernel) (by decide +kernel), ⟨by decide, by decide⟩, by decide⟩
abbrev k_X_driftOnce : MKT := ("MixRounds", yX5_driftOnce, cX5_driftOnce, 2, none, 5)
theorem m_X_driftOnce : CM k_X_driftOnce := ⟨tb_at 488 (by decide +kernel) (by decide +kernel), tb_at 43 (by decide +kernel) (by decide +kernel), ⟨by decide, by decide⟩, by decide⟩
abbrev k_X_fitsPolicy : MKT := ("MixRounds", yX5_fitsPolicy, cX5_fitsPolicy, 12, some .boolean, 2)
theorem m_X_fitsPolicy : CM k_X_fitsPolicy := ⟨tb_at 550 (by decide +kernel) (by decide +kernel), tb_at 43 (by decide +kernel) (by decide +kernel), ⟨by decide, by decide⟩, by decide⟩
abbrev k_X_staying : MKT := ("MixRounds", yX5_staying, cX5_staying, 3, some .int, 0)
theorem m_X_staying : CM k_X_staying := ⟨tb_at 556 (by decide +kernel) (by decide +kernel), tb_at 43 (by decide +kernel) (by decide +kernel), ⟨by decide, by decide⟩, by decide⟩
abbrev k_M_in : MKT := ("MixRoundsModel", yX6_in, cX6_in, 6, some .boolean, 0)
theorem m_M_in : CM k_M_in := ⟨tb_at 656 (by decide +kernel) (by decide +kernel), tb_at 48 (by decide +kernel) (by decide +kernel), ⟨by decide, by decide⟩, by decide⟩
abbrev k_M_init : MKT := ("MixRoundsModel", yX6_init, cX6_init, 2, none, 1)
theorem m_M_init : CM k_M_init := ⟨tb_at 595 (by decide +kernel) (by decide +kernel), tb_at 48 (by decide +kernel) (by decide +kernel), ⟨by decide, by decide⟩, by decide⟩
abbrev k_M_of : MKT := ("MixRoundsModel", yX6_of, cX6_of, 3, some .int, 0)
theorem m_M_of : CM k_M_of := ⟨tb_at 672 (by decide +kernel) (by decide +kernel), tb_at 48 (by decide +kernel) (by decide +kernel), ⟨by decide, by decide⟩, by decide⟩
abbrev k_M_isLetter : MKT := ("MixRoundsModel", yX6_isLetter, cX6_isLetter, 2, some .boolean, 1)
theorem m_M_isLetter : CM k_M_isLetter := ⟨tb_at 738 (by decide +kernel) (by decide +kernel), tb_at 48 (by decide +kernel) (by decide +kernel), ⟨by decide, by decide⟩, by decide⟩
abbrev k_M_isRound : MKT := ("MixRoundsModel", yX6_isRound, cX6_isRound, 2, some .boolean, 1)
theorem m_M_isRound : CM k_M_isRound := ⟨tb_at 750 (by decide +kernel) (by decide +kernel), tb_at 48 (by decide +kernel) (by decide +kernel), ⟨by decide, by decide⟩, by decide⟩
abbrev k_M_stands : MKT := ("MixRoundsModel", yX6_stands, cX6_stands, 2, some .boolean, 1)
theorem m_M_stands : CM k_M_stands := ⟨tb_at 668 (by decide +kernel) (by decide +kernel), tb_at 48 (by decide +kernel) (by decide +kernel), ⟨by decide, by decide⟩, by decide⟩
abbrev k_M_isOwn : MKT := ("MixRoundsModel", yX6_isOwn, cX6_isOwn, 2, some .boolean, 1)
theorem m_M_isOwn : CM k_M_isOwn := ⟨tb_at 763 (by decide +kernel) (by decide +kernel), tb_at 48 (by decide +kernel) (by decide +kernel), ⟨by decide, by decide⟩, by decide⟩
abbrev k_M_standing : MKT := ("MixRoundsModel", yX6_standing, cX6_standing, 3, some .int, 2)
theorem m_M_standing : CM k_M_standing := ⟨tb_at 664 (by decide +kernel) (by decide +kernel), tb_at 48 (by decide +kernel) (by decide +kernel), ⟨by decide, by decide⟩, by decide⟩
abbrev k_M_standsAt : MKT := ("MixRoundsModel", yX6_standsAt, cX6_standsAt, 4, some .int, 2)
theorem m_M_standsAt : CM k_M_standsAt := ⟨tb_at 708 (by decide +kernel) (by decide +kernel), tb_at 48 (by decide +kernel) (by decide +kernel), ⟨by decide, by decide⟩, by decide⟩
abbrev k_M_draws : MKT := ("MixRoundsModel", yX6_draws, cX6_draws, 3, some .int, 0)
theorem m_M_draws : CM k_M_draws := ⟨tb_at 696 (by decide +kernel) (by decide +kernel), tb_at 48 (by decide +kernel) (by decide +kernel), ⟨by decide, by decide⟩, by decide⟩
abbrev k_M_adds : MKT := ("MixRoundsModel", yX6_adds, cX6_adds, 4, none, 0)
theorem m_M_adds : CM k_M_adds := ⟨tb_at 684 (by decide +kernel) (by decide +kernel), tb_at 48 (by decide +kernel) (by decide +kernel), ⟨by decide, by decide⟩, by decide⟩
abbrev k_M_share : MKT := ("MixRoundsModel", yX6_share, cX6_share, 3, some .int, 0)
theorem m_M_share : CM k_M_share := ⟨tb_at 704 (by decide +kernel) (by decide +kernel), tb_at 48 (by decide +kernel) (by decide +kernel), ⟨by decide, by decide⟩, by decide⟩
abbrev k_M_goesRound : MKT := ("MixRoundsModel", yX6_goesRound, cX6_goesRound, 4, some .int, 3)
theorem m_M_goesRound : CM k_M_goesRound := ⟨tb_at 692 (by decide +kernel) (by decide +kernel), tb_at 48 (by decide +kernel) (by decide +kernel), ⟨by decide, by decide⟩, by decide⟩
abbrev k_M_isFull : MKT := ("MixRoundsModel", yX6_isFull, cX6_isFull, 1, some .boolean, 0)
theorem m_M_isFull : CM k_M_isFull := ⟨tb_at 660 (by decide +kernel) (by decide +kernel), tb_at 48 (by decide +kernel) (by decide +kernel), ⟨by decide, by decide⟩, by decide⟩
abbrev k_M_begins : MKT := ("MixRoundsModel", yX6_begins, cX6_begins, 4, some .boolean, 0)
theorem m_M_begins : CM k_M_begins := ⟨tb_at 688 (by decide +kernel) (by decide +kernel), tb_at 48 (by decide +kernel) (by decide +kernel), ⟨by decide, by decide⟩, by decide⟩
abbrev k_M_comes : MKT := ("MixRoundsModel", yX6_comes, cX6_comes, 3, some .int, 4)
theorem m_M_comes : CM k_M_comes := ⟨tb_at 680 (by decide +kernel) (by decide +kernel), tb_at 48 (by decide +kernel) (by decide +kernel), ⟨by decide, by decide⟩, by decide⟩
abbrev k_M_ticks : MKT := ("MixRoundsModel", yX6_ticks, cX6_ticks, 1, some .int, 4)
theorem m_M_ticks : CM k_M_ticks := ⟨tb_at 716 (by decide +kernel) (by decide +kernel), tb_at 48 (by decide +kernel) (by decide +kernel), ⟨by decide, by decide⟩, by decide⟩
abbrev k_M_isSender : MKT := ("MixRoundsModel", yX6_isSender, cX6_isSender, 1, some .boolean, 1)
theorem m_M_isSender : CM k_M_isSender := ⟨tb_at 652 (by decide +kernel) (by decide +kernel), tb_at 48 (by decide +kernel) (by decide +kernel), ⟨by decide, by decide⟩, by decide⟩
abbrev k_M_come : MKT := ("MixRoundsModel", yX6_come, cX6_come, 3, some .int, 5)
theorem m_M_come : CM k_M_come := ⟨tb_at 649 (by decide +kernel) (by decide +kernel), tb_at 48 (by decide +kernel) (by decide +kernel), ⟨by decide, by decide⟩, by decide⟩
abbrev k_M_tick : MKT := ("MixRoundsModel", yX6_tick, cX6_tick, 1, some .int, 5)
theorem m_M_tick : CM k_M_tick := ⟨tb_at 712 (by decide +kernel) (by decide +kernel), tb_at 48 (by decide +kernel) (by decide +kernel), ⟨by decide, by decide⟩, by decide⟩
abbrev k_M_isTold : MKT := ("MixRoundsModel", yX6_isTold, cX6_isTold, 2, some .boolean, 1)
theorem m_M_isTold : CM k_M_isTold := ⟨tb_at 723 (by decide +kernel) (by decide +kernel), tb_at 48 (by decide +kernel) (by decide +kernel), ⟨by decide, by decide⟩, by decide⟩
abbrev k_M_tell : MKT := ("MixRoundsModel", yX6_tell, cX6_tell, 4, some .int, 2)
theorem m_M_tell : CM k_M_tell := ⟨tb_at 720 (by decide +kernel) (by decide +kernel), tb_at 48 (by decide +kernel) (by decide +kernel), ⟨by decide, by decide⟩, by decide⟩
abbrev k_M_begin : MKT := ("MixRoundsModel", yX6_begin, cX6_begin, 2, some .int, 1)
theorem m_M_begin : CM k_M_begin := ⟨tb_at 730 (by decide +kernel) (by decide +kernel), tb_at 48 (by decide +kernel) (by decide +kernel), ⟨by decide, by decide⟩, by decide⟩
abbrev k_M_letter : MKT := ("MixRoundsModel", yX6_letter, cX6_letter, 3, some .int, 2)
theorem m_M_letter : CM k_M_letter := ⟨tb_at 734 (by decide +kernel) (by decide +kernel), tb_at 48 (by decide +kernel) (by decide +kernel), ⟨by decide, by decide⟩, by decide⟩
abbrev k_M_inside : MKT := ("MixRoundsModel", yX6_inside, cX6_inside, 2, some .int, 3)
theorem m_M_inside : CM k_M_inside := ⟨tb_at 742 (by decide +kernel) (by decide +kernel), tb_at 48 (by decide +kernel) (by decide +kernel), ⟨by decide, by decide⟩, by decide⟩
abbrev k_M_wasInside : MKT := ("MixRoundsModel", yX6_wasInside, cX6_wasInside, 3, some .boolean, 2)
theorem m_M_wasInside : CM k_M_wasInside := ⟨tb_at 759 (by decide +kernel) (by decide +kernel), tb_at 48 (by decide +kernel) (by decide +kernel), ⟨by decide, by decide⟩, by decide⟩
abbrev k_M_roundOf : MKT := ("MixRoundsModel", yX6_roundOf, cX6_roundOf, 8, some .int, 3)
theorem m_M_roundOf : CM k_M_roundOf := ⟨tb_at 755 (by decide +kernel) (by decide +kernel), tb_at 48 (by decide +kernel) (by decide +kernel), ⟨by decide, by decide⟩, by decide⟩
abbrev k_M_round : MKT := ("MixRoundsModel", yX6_round, cX6_round, 3, some .int, 4)
theorem m_M_round : CM k_M_round := ⟨tb_at 746 (by decide +kernel) (by decide +kernel), tb_at 48 (by decide +kernel) (by decide +kernel), ⟨by decide, by decide⟩, by decide⟩
abbrev k_M_letterOut : MKT := ("MixRoundsModel", yX6_letterOut, cX6_letterOut, 5, some .int, 1)
theorem m_M_letterOut : CM k_M_letterOut := ⟨tb_at 771 (by decide +kernel) (by decide +kernel), tb_at 48 (by decide +kernel) (by decide +kernel), ⟨by decide, by decide⟩, by decide⟩
abbrev k_M_whole : MKT := ("MixRoundsModel", yX6_whole, cX6_whole, 4, some .long, 4)
theorem m_M_whole : CM k_M_whole := ⟨tb_at 775 (by decide +kernel) (by decide +kernel), tb_at 48 (by decide +kernel) (by decide +kernel), ⟨by decide, by decide⟩, by decide⟩
abbrev k_M_leftOf : MKT := ("MixRoundsModel", yX6_leftOf, cX6_leftOf, 8, some .long, 1)
theorem m_M_leftOf : CM k_M_leftOf := ⟨tb_at 784 (by decide +kernel) (by decide +kernel), tb_at 48 (by decide +kernel) (by decide +kernel), ⟨by decide, by decide⟩, by decide⟩
abbrev k_M_chanceOf : MKT := ("MixRoundsModel", yX6_chanceOf, cX6_chanceOf, 6, some .long, 2)
theorem m_M_chanceOf : CM k_M_chanceOf := ⟨tb_at 780 (by decide +kernel) (by decide +kernel), tb_at 48 (by decide +kernel) (by decide +kernel), ⟨by decide, by decide⟩, by decide⟩
abbrev k_M_senderOf : MKT := ("MixRoundsModel", yX6_senderOf, cX6_senderOf, 9, some .long, 3)
theorem m_M_senderOf : CM k_M_senderOf := ⟨tb_at 804 (by decide +kernel) (by decide +kernel), tb_at 48 (by decide +kernel) (by decide +kernel), ⟨by decide, by decide⟩, by decide⟩
abbrev k_M_fraction : MKT := ("MixRoundsModel", yX6_fraction, cX6_fraction, 11, some .long, 0)
theorem m_M_fraction : CM k_M_fraction := ⟨tb_at 795 (by decide +kernel) (by decide +kernel), tb_at 48 (by decide +kernel) (by decide +kernel), ⟨by decide, by decide⟩, by decide⟩
abbrev k_M_out : MKT := ("MixRoundsModel", yX6_out, cX6_out, 14, some .int, 5)
theorem m_M_out : CM k_M_out := ⟨tb_at 767 (by decide +kernel) (by decide +kernel), tb_at 48 (by decide +kernel) (by decide +kernel), ⟨by decide, by decide⟩, by decide⟩
abbrev k_M_count : MKT := ("MixRoundsModel", yX6_count, cX6_count, 2, some .int, 3)
theorem m_M_count : CM k_M_count := ⟨tb_at 788 (by decide +kernel) (by decide +kernel), tb_at 48 (by decide +kernel) (by decide +kernel), ⟨by decide, by decide⟩, by decide⟩
abbrev k_M_chance : MKT := ("MixRoundsModel", yX6_chance, cX6_chance, 8, some .long, 5)
theorem m_M_chance : CM k_M_chance := ⟨tb_at 792 (by decide +kernel) (by decide +kernel), tb_at 48 (by decide +kernel) (by decide +kernel), ⟨by decide, by decide⟩, by decide⟩
abbrev k_M_sender : MKT := ("MixRoundsModel", yX6_sender, cX6_sender, 8, some .long, 5)
theorem m_M_sender : CM k_M_sender := ⟨tb_at 799 (by decide +kernel) (by decide +kernel), tb_at 48 (by decide +kernel) (by decide +kernel), ⟨by decide, by decide⟩, by decide⟩
abbrev k_M_stays : MKT := ("MixRoundsModel", yX6_stays, cX6_stays, 5, some .long, 5)
theorem m_M_stays : CM k_M_stays := ⟨tb_at 808 (by decide +kernel) (by decide +kernel), tb_at 48 (by decide +kernel) (by decide +kernel), ⟨by decide, by decide⟩, by decide⟩
abbrev k_M_expected : MKT := ("MixRoundsModel", yX6_expected, cX6_expected, 9, some .long, 5)
theorem m_M_expected : CM k_M_expected := ⟨tb_at 813 (by decide +kernel) (by decide +kernel), tb_at 48 (by decide +kernel) (by decide +kernel), ⟨by decide, by decide⟩, by decide⟩
abbrev k_M_blend : MKT := ("MixRoundsModel", yX6_blend, cX6_blend, 3, some .int, 3)
theorem m_M_blend : CM k_M_blend := ⟨tb_at 817 (by decide +kernel) (by decide +kernel), tb_at 48 (by decide +kernel) (by decide +kernel), ⟨by decide, by decide⟩, by decide⟩
abbrev k_M_type : MKT := ("MixRoundsModel", yX6_type, cX6_type, 2, some .int, 1)
theorem m_M_type : CM k_M_type := ⟨tb_at 821 (by decide +kernel) (by decide +kernel), tb_at 48 (by decide +kernel) (by decide +kernel), ⟨by decide, by decide⟩, by decide⟩
abbrev k_M_here : MKT := ("MixRoundsModel", yX6_here, cX6_here, 1, some .int, 0)
theorem m_M_here : CM k_M_here := ⟨tb_at 835 (by decide +kernel) (by decide +kernel), tb_at 48 (by decide +kernel) (by decide +kernel), ⟨by decide, by decide⟩, by decide⟩
abbrev k_M_event : MKT := ("MixRoundsModel", yX6_event, cX6_event, 3, some .int, 1)
theorem m_M_event : CM k_M_event := ⟨tb_at 839 (by decide +kernel) (by decide +kernel), tb_at 48 (by decide +kernel) (by decide +kernel), ⟨by decide, by decide⟩, by decide⟩
abbrev k_M_goesThrough : MKT := ("MixRoundsModel", yX6_goesThrough, cX6_goesThrough, 6, some .boolean, 5)
theorem m_M_goesThrough : CM k_M_goesThrough := ⟨tb_at 831 (by decide +kernel) (by decide +kernel), tb_at 48 (by decide +kernel) (by decide +kernel), ⟨by decide, by decide⟩, by decide⟩
abbrev k_M_read : MKT := ("MixRoundsModel", yX6_read, cX6_read, 3, some .int, 6)
theorem m_M_read : CM k_M_read := ⟨tb_at 827 (by decide +kernel) (by decide +kernel), tb_at 48 (by decide +kernel) (by decide +kernel), ⟨by decide, by decide⟩, by decide⟩
abbrev k_M_drift : MKT := ("MixRoundsModel", yX6_drift, cX6_drift, 5, some .int, 5)
theorem m_M_drift : CM k_M_drift := ⟨tb_at 845 (by decide +kernel) (by decide +kernel), tb_at 48 (by decide +kernel) (by decide +kernel), ⟨by decide, by decide⟩, by decide⟩
abbrev k_M_seed : MKT := ("MixRoundsModel", yX6_seed, cX6_seed, 3, some .int, 0)
theorem m_M_seed : CM k_M_seed := ⟨tb_at 850 (by decide +kernel) (by decide +kernel), tb_at 48 (by decide +kernel) (by decide +kernel), ⟨by decide, by decide⟩, by decide⟩
abbrev k_M_notes : MKT := ("MixRoundsModel", yX6_notes, cX6_notes, 2, none, 0)
theorem m_M_notes : CM k_M_notes := ⟨tb_at 676 (by decide +kernel) (by decide +kernel), tb_at 48 (by decide +kernel) (by decide +kernel), ⟨by decide, by decide⟩, by decide⟩
abbrev k_M_undo : MKT := ("MixRoundsModel", yX6_undo, cX6_undo, 2, some .int, 0)
theorem m_M_undo : CM k_M_undo := ⟨tb_at 854 (by decide +kernel) (by decide +kernel), tb_at 48 (by decide +kernel) (by decide +kernel), ⟨by decide, by decide⟩, by decide⟩
abbrev k_M_image : MKT := ("MixRoundsModel", yX6_image, cX6_image, 2, some .int, 0)
theorem m_M_image : CM k_M_image := ⟨tb_at 858 (by decide +kernel) (by decide +kernel), tb_at 48 (by decide +kernel) (by decide +kernel), ⟨by decide, by decide⟩, by decide⟩
abbrev k_M_restore : MKT := ("MixRoundsModel", yX6_restore, cX6_restore, 2, some .int, 0)
theorem m_M_restore : CM k_M_restore := ⟨tb_at 862 (by decide +kernel) (by decide +kernel), tb_at 48 (by decide +kernel) (by decide +kernel), ⟨by decide, by decide⟩, by decide⟩
abbrev k_M_isSheet : MKT := ("MixRoundsModel", yX6_isSheet, cX6_isSheet, 1, some .boolean, 1)
theorem m_M_isSheet : CM k_M_isSheet := ⟨tb_at 869 (by decide +kernel) (by decide +kernel), tb_at 48 (by decide +kernel) (by decide +kernel), ⟨by decide, by decide⟩, by decide⟩
abbrev k_M_cut : MKT := ("MixRoundsModel", yX6_cut, cX6_cut, 3, some .long, 0)
theorem m_M_cut : CM k_M_cut := ⟨tb_at 884 (by decide +kernel) (by decide +kernel), tb_at 48 (by decide +kernel) (by decide +kernel), ⟨by decide, by decide⟩, by decide⟩
abbrev k_M_sheet : MKT := ("MixRoundsModel", yX6_sheet, cX6_sheet, 5, some .int, 2)
theorem m_M_sheet : CM k_M_sheet := ⟨tb_at 866 (by decide +kernel) (by decide +kernel), tb_at 48 (by decide +kernel) (by decide +kernel), ⟨by decide, by decide⟩, by decide⟩
abbrev k_M_drop : MKT := ("MixRoundsModel", yX6_drop, cX6_drop, 2, some .int, 2)
theorem m_M_drop : CM k_M_drop := ⟨tb_at 873 (by decide +kernel) (by decide +kernel), tb_at 48 (by decide +kernel) (by decide +kernel), ⟨by decide, by decide⟩, by decide⟩
abbrev k_M_why : MKT := ("MixRoundsModel", yX6_why, cX6_why, 5, some .int, 0)
theorem m_M_why : CM k_M_why := ⟨tb_at 881 (by decide +kernel) (by decide +kernel), tb_at 48 (by decide +kernel) (by decide +kernel), ⟨by decide, by decide⟩, by decide⟩
abbrev k_M_item : MKT := ("MixRoundsModel", yX6_item, cX6_item, 7, some .int, 2)
theorem m_M_item : CM k_M_item := ⟨tb_at 877 (by decide +kernel) (by decide +kernel), tb_at 48 (by decide +kernel) (by decide +kernel), ⟨by decide, by decide⟩, by decide⟩
abbrev k_M_copy : MKT := ("MixRoundsModel", yX6_copy, cX6_copy, 7, some .int, 2)
theorem m_M_copy : CM k_M_copy := ⟨tb_at 888 (by decide +kernel) (by decide +kernel), tb_at 48 (by decide +kernel) (by decide +kernel), ⟨by decide, by decide⟩, by decide⟩
abbrev k_M_isSo : MKT := ("MixRoundsModel", yX6_isSo, cX6_isSo, 11, some .boolean, 1)
theorem m_M_isSo : CM k_M_isSo := ⟨tb_at 896 (by decide +kernel) (by decide +kernel), tb_at 48 (by decide +kernel) (by decide +kernel), ⟨by decide, by decide⟩, by decide⟩
abbrev k_M_fits : MKT := ("MixRoundsModel", yX6_fits, cX6_fits, 9, some .int, 2)
theorem m_M_fits : CM k_M_fits := ⟨tb_at 892 (by decide +kernel) (by decide +kernel), tb_at 48 (by decide +kernel) (by decide +kernel), ⟨by decide, by decide⟩, by decide⟩
abbrev k_M_film : MKT := ("MixRoundsModel", yX6_film, cX6_film, 8, some .int, 4)
theorem m_M_film : CM k_M_film := ⟨tb_at 900 (by decide +kernel) (by decide +kernel), tb_at 48 (by decide +kernel) (by decide +kernel), ⟨by decide, by decide⟩, by decide⟩
abbrev k_J_max : MKT := ("java/lang/Math", yJ9_max_7cf53, cJ9_max_7cf53, 2, some .int, 0)
theorem m_J_max : CM k_J_max := ⟨tb_at 372 (by decide +kernel) (by decide +kernel), tb_at 51 (by decide +kernel) (by decide +kernel), ⟨by decide, by decide⟩, by decide⟩
abbrev k_J_fill : MKT := ("java/util/Arrays", yJ7_fill_d0a16, cJ7_fill_d0a16, 5, none, 0)
theorem m_J_fill : CM k_J_fill := ⟨tb_at 575 (by decide +kernel) (by decide +kernel), tb_at 52 (by decide +kernel) (by decide +kernel), ⟨by decide, by decide⟩, by decide⟩
abbrev k_L_law : MKT := ("MixRoundsLaw", yL_law, cL_law, 4, some .boolean, 7)
theorem iw_B : ∀ w ∈ u_ws RX0 TX0 13, w ∈ tb := fun w h => tb_of ((by decide +kernel : ∀ w ∈ u_ws RX0 TX0 13, w ∈ lw_tbl) w h) ((by decide +kernel : ∀ w ∈ u_ws RX0 TX0 13, goodWord w = true) w h)
theorem iw_P : ∀ w ∈ u_ws RX1 TX1 3, w ∈ tb := fun w h => tb_of ((by decide +kernel : ∀ w ∈ u_ws RX1 TX1 3, w ∈ lw_tbl) w h) ((by decide +kernel : ∀ w ∈ u_ws RX1 TX1 3, goodWord w = true) w h)
theorem iw_H : ∀ w ∈ u_ws RX2 TX2 3, w ∈ tb := fun w h => tb_of ((by decide +kernel : ∀ w ∈ u_ws RX2 TX2 3, w ∈ lw_tbl) w h) ((by decide +kernel : ∀ w ∈ u_ws RX2 TX2 3, goodWord w = true) w h)
theorem iw_T : ∀ w ∈ u_ws RX3 TX3 5, w ∈ tb := fun w h => tb_of ((by decide +kernel : ∀ w ∈ u_ws RX3 TX3 5, w ∈ lw_tbl) w h) ((by decide +kernel : ∀ w ∈ u_ws RX3 TX3 5, goodWord w = true) w h)
theorem iw_X : ∀ w ∈ u_ws RX5 TX5 7, w ∈ tb := fun w h => tb_of ((by decide +kernel : ∀ w ∈ u_ws RX5 TX5 7, w ∈ lw_tbl) w h) ((by decide +kernel : ∀ w ∈ u_ws RX5 TX5 7, goodWord w = true) w h)
theorem iw_M : ∀ w ∈ u_ws RX6 TX6 16, w ∈ tb := fun w h => tb_of ((by decide +kernel : ∀ w ∈ u_ws RX6 TX6 16, w ∈ lw_tbl) w h) ((by decide +kernel : ∀ w ∈ u_ws RX6 TX6 16, goodWord w = true) w h)
theorem f_B_18 : FL "MixRounds$Book" 18 0 0 := ⟨RX0, TX0, 13, rfl, by decide, tb_at 76 (by decide +kernel) (by decide +kernel), iw_B⟩
theorem f_X_77 : FL "MixRounds" 77 0 0 := ⟨RX0, TX0, 13, rfl, by decide, tb_at 77 (by decide +kernel) (by decide +kernel), iw_B⟩
theorem f_B_23 : FL "MixRounds$Book" 23 0 1 := ⟨RX0, TX0, 13, rfl, by decide, tb_at 78 (by decide +kernel) (by decide +kernel), iw_B⟩
theorem p_B_23 : FLw "MixRounds$Book" 23 0 1 := ⟨RX0, TX0, 13, tyX0, rfl, by decide, tb_at 78 (by decide +kernel) (by decide +kernel), iw_B, tyX0_ok, nmX0, rfl⟩
theorem f_X_198 : FL "MixRounds" 198 0 1 := ⟨RX0, TX0, 13, rfl, by decide, tb_at 79 (by decide +kernel) (by decide +kernel), iw_B⟩
theorem p_X_198 : FLw "MixRounds" 198 0 1 := ⟨RX0, TX0, 13, tyX0, rfl, by decide, tb_at 79 (by decide +kernel) (by decide +kernel), iw_B, tyX0_ok, nmX0, rfl⟩
theorem f_B_27 : FL "MixRounds$Book" 27 0 2 := ⟨RX0, TX0, 13, rfl, by decide, tb_at 80 (by decide +kernel) (by decide +kernel), iw_B⟩
theorem p_B_27 : FLw "MixRounds$Book" 27 0 2 := ⟨RX0, TX0, 13, tyX0, rfl, by decide, tb_at 80 (by decide +kernel) (by decide +kernel), iw_B, tyX0_ok, nmX0, rfl⟩
theorem f_X_80 : FL "MixRounds" 80 0 2 := ⟨RX0, TX0, 13, rfl, by decide, tb_at 81 (by decide +kernel) (by decide +kernel), iw_B⟩
theorem p_X_80 : FLw "MixRounds" 80 0 2 := ⟨RX0, TX0, 13, tyX0, rfl, by decide, tb_at 81 (by decide +kernel) (by decide +kernel), iw_B, tyX0_ok, nmX0, rfl⟩
theorem f_W_55 : FL "MixRounds$Watcher" 55 0 2 := ⟨RX0, TX0, 13, rfl, by decide, tb_at 82 (by decide +kernel) (by decide +kernel), iw_B⟩
theorem p_W_55 : FLw "MixRounds$Watcher" 55 0 2 := ⟨RX0, TX0, 13, tyX0, rfl, by decide, tb_at 82 (by decide +kernel) (by decide +kernel), iw_B, tyX0_ok, nmX0, rfl⟩
theorem f_B_30 : FL "MixRounds$Book" 30 0 3 := ⟨RX0, TX0, 13, rfl, by decide, tb_at 83 (by decide +kernel) (by decide +kernel), iw_B⟩
theorem f_B_33 : FL "MixRounds$Book" 33 0 4 := ⟨RX0, TX0, 13, rfl, by decide, tb_at 84 (by decide +kernel) (by decide +kernel), iw_B⟩
theorem f_B_36 : FL "MixRounds$Book" 36 0 5 := ⟨RX0, TX0, 13, rfl, by decide, tb_at 85 (by decide +kernel) (by decide +kernel), iw_B⟩
theorem f_B_39 : FL "MixRounds$Book" 39 0 6 := ⟨RX0, TX0, 13, rfl, by decide, tb_at 86 (by decide +kernel) (by decide +kernel), iw_B⟩
theorem f_X_101 : FL "MixRounds" 101 0 6 := ⟨RX0, TX0, 13, rfl, by decide, tb_at 87 (by decide +kernel) (by decide +kernel), iw_B⟩
theorem f_B_42 : FL "MixRounds$Book" 42 0 7 := ⟨RX0, TX0, 13, rfl, by decide, tb_at 88 (by decide +kernel) (by decide +kernel), iw_B⟩
theorem f_X_104 : FL "MixRounds" 104 0 7 := ⟨RX0, TX0, 13, rfl, by decide, tb_at 89 (by decide +kernel) (by decide +kernel), iw_B⟩
theorem f_B_45 : FL "MixRounds$Book" 45 0 8 := ⟨RX0, TX0, 13, rfl, by decide, tb_at 90 (by decide +kernel) (by decide +kernel), iw_B⟩
theorem p_B_45 : FLw "MixRounds$Book" 45 0 8 := ⟨RX0, TX0, 13, tyX0, rfl, by decide, tb_at 90 (by decide +kernel) (by decide +kernel), iw_B, tyX0_ok, nmX0, rfl⟩
theorem f_X_107 : FL "MixRounds" 107 0 8 := ⟨RX0, TX0, 13, rfl, by decide, tb_at 91 (by decide +kernel) (by decide +kernel), iw_B⟩
theorem p_X_107 : FLw "MixRounds" 107 0 8 := ⟨RX0, TX0, 13, tyX0, rfl, by decide, tb_at 91 (by decide +kernel) (by decide +kernel), iw_B, tyX0_ok, nmX0, rfl⟩
theorem f_B_48 : FL "MixRounds$Book" 48 0 9 := ⟨RX0, TX0, 13, rfl, by decide, tb_at 92 (by decide +kernel) (by decide +kernel), iw_B⟩
theorem f_X_110 : FL "MixRounds" 110 0 9 := ⟨RX0, TX0, 13, rfl, by decide, tb_at 93 (by decide +kernel) (by decide +kernel), iw_B⟩
theorem f_B_51 : FL "MixRounds$Book" 51 0 10 := ⟨RX0, TX0, 13, rfl, by decide, tb_at 94 (by decide +kernel) (by decide +kernel), iw_B⟩
theorem p_B_51 : FLw "MixRounds$Book" 51 0 10 := ⟨RX0, TX0, 13, tyX0, rfl, by decide, tb_at 94 (by decide +kernel) (by decide +kernel), iw_B, tyX0_ok, nmX0, rfl⟩
theorem f_W_47 : FL "MixRounds$Watcher" 47 0 10 := ⟨RX0, TX0, 13, rfl, by decide, tb_at 95 (by decide +kernel) (by decide +kernel), iw_B⟩
theorem p_W_47 : FLw "MixRounds$Watcher" 47 0 10 := ⟨RX0, TX0, 13, tyX0, rfl, by decide, tb_at 95 (by decide +kernel) (by decide +kernel), iw_B, tyX0_ok, nmX0, rfl⟩
theorem f_X_135 : FL "MixRounds" 135 0 10 := ⟨RX0, TX0, 13, rfl, by decide, tb_at 96 (by decide +kernel) (by decide +kernel), iw_B⟩
theorem p_X_135 : FLw "MixRounds" 135 0 10 := ⟨RX0, TX0, 13, tyX0, rfl, by decide, tb_at 96 (by decide +kernel) (by decide +kernel), iw_B, tyX0_ok, nmX0, rfl⟩
theorem f_B_54 : FL "MixRounds$Book" 54 0 11 := ⟨RX0, TX0, 13, rfl, by decide, tb_at 97 (by decide +kernel) (by decide +kernel), iw_B⟩
theorem f_B_57 : FL "MixRounds$Book" 57 0 12 := ⟨RX0, TX0, 13, rfl, by decide, tb_at 98 (by decide +kernel) (by decide +kernel), iw_B⟩
theorem f_P_11 : FL "MixRounds$Past" 11 1 0 := ⟨RX1, TX1, 3, rfl, by decide, tb_at 136 (by decide +kernel) (by decide +kernel), iw_P⟩
theorem f_P_17 : FL "MixRounds$Past" 17 1 1 := ⟨RX1, TX1, 3, rfl, by decide, tb_at 137 (by decide +kernel) (by decide +kernel), iw_P⟩
theorem p_P_17 : FLw "MixRounds$Past" 17 1 1 := ⟨RX1, TX1, 3, tyX1, rfl, by decide, tb_at 137 (by decide +kernel) (by decide +kernel), iw_P, tyX1_ok, nmX1, rfl⟩
theorem f_P_21 : FL "MixRounds$Past" 21 1 2 := ⟨RX1, TX1, 3, rfl, by decide, tb_at 138 (by decide +kernel) (by decide +kernel), iw_P⟩
theorem p_P_21 : FLw "MixRounds$Past" 21 1 2 := ⟨RX1, TX1, 3, tyX1, rfl, by decide, tb_at 138 (by decide +kernel) (by decide +kernel), iw_P, tyX1_ok, nmX1, rfl⟩
theorem f_X_138 : FL "MixRounds" 138 1 2 := ⟨RX1, TX1, 3, rfl, by decide, tb_at 139 (by decide +kernel) (by decide +kernel), iw_P⟩
theorem p_X_138 : FLw "MixRounds" 138 1 2 := ⟨RX1, TX1, 3, tyX1, rfl, by decide, tb_at 139 (by decide +kernel) (by decide +kernel), iw_P, tyX1_ok, nmX1, rfl⟩
theorem f_T_9 : FL "MixRounds$Tape" 9 3 0 := ⟨RX3, TX3, 5, rfl, by decide, tb_at 153 (by decide +kernel) (by decide +kernel), iw_T⟩
theorem f_T_15 : FL "MixRounds$Tape" 15 3 1 := ⟨RX3, TX3, 5, rfl, by decide, tb_at 154 (by decide +kernel) (by decide +kernel), iw_T⟩
theorem p_T_15 : FLw "MixRounds$Tape" 15 3 1 := ⟨RX3, TX3, 5, tyX3, rfl, by decide, tb_at 154 (by decide +kernel) (by decide +kernel), iw_T, tyX3_ok, nmX3, rfl⟩
theorem f_X_176 : FL "MixRounds" 176 3 1 := ⟨RX3, TX3, 5, rfl, by decide, tb_at 155 (by decide +kernel) (by decide +kernel), iw_T⟩
theorem p_X_176 : FLw "MixRounds" 176 3 1 := ⟨RX3, TX3, 5, tyX3, rfl, by decide, tb_at 155 (by decide +kernel) (by decide +kernel), iw_T, tyX3_ok, nmX3, rfl⟩
theorem f_T_19 : FL "MixRounds$Tape" 19 3 2 := ⟨RX3, TX3, 5, rfl, by decide, tb_at 156 (by decide +kernel) (by decide +kernel), iw_T⟩
theorem f_X_258 : FL "MixRounds" 258 3 2 := ⟨RX3, TX3, 5, rfl, by decide, tb_at 157 (by decide +kernel) (by decide +kernel), iw_T⟩
theorem f_T_22 : FL "MixRounds$Tape" 22 3 3 := ⟨RX3, TX3, 5, rfl, by decide, tb_at 158 (by decide +kernel) (by decide +kernel), iw_T⟩
theorem f_X_264 : FL "MixRounds" 264 3 3 := ⟨RX3, TX3, 5, rfl, by decide, tb_at 159 (by decide +kernel) (by decide +kernel), iw_T⟩
theorem f_T_25 : FL "MixRounds$Tape" 25 3 4 := ⟨RX3, TX3, 5, rfl, by decide, tb_at 160 (by decide +kernel) (by decide +kernel), iw_T⟩
theorem p_T_25 : FLw "MixRounds$Tape" 25 3 4 := ⟨RX3, TX3, 5, tyX3, rfl, by decide, tb_at 160 (by decide +kernel) (by decide +kernel), iw_T, tyX3_ok, nmX3, rfl⟩
theorem f_X_186 : FL "MixRounds" 186 3 4 := ⟨RX3, TX3, 5, rfl, by decide, tb_at 161 (by decide +kernel) (by decide +kernel), iw_T⟩
theorem p_X_186 : FLw "MixRounds" 186 3 4 := ⟨RX3, TX3, 5, tyX3, rfl, by decide, tb_at 161 (by decide +kernel) (by decide +kernel), iw_T, tyX3_ok, nmX3, rfl⟩
theorem f_H_9 : FL "MixRounds$Sheet" 9 2 0 := ⟨RX2, TX2, 3, rfl, by decide, tb_at 180 (by decide +kernel) (by decide +kernel), iw_H⟩
theorem p_H_9 : FLw "MixRounds$Sheet" 9 2 0 := ⟨RX2, TX2, 3, tyX2, rfl, by decide, tb_at 180 (by decide +kernel) (by decide +kernel), iw_H, tyX2_ok, nmX2, rfl⟩
theorem f_X_238 : FL "MixRounds" 238 2 0 := ⟨RX2, TX2, 3, rfl, by decide, tb_at 181 (by decide +kernel) (by decide +kernel), iw_H⟩
theorem p_X_238 : FLw "MixRounds" 238 2 0 := ⟨RX2, TX2, 3, tyX2, rfl, by decide, tb_at 181 (by decide +kernel) (by decide +kernel), iw_H, tyX2_ok, nmX2, rfl⟩
theorem f_H_15 : FL "MixRounds$Sheet" 15 2 1 := ⟨RX2, TX2, 3, rfl, by decide, tb_at 182 (by decide +kernel) (by decide +kernel), iw_H⟩
theorem p_H_15 : FLw "MixRounds$Sheet" 15 2 1 := ⟨RX2, TX2, 3, tyX2, rfl, by decide, tb_at 182 (by decide +kernel) (by decide +kernel), iw_H, tyX2_ok, nmX2, rfl⟩
theorem f_X_235 : FL "MixRounds" 235 2 1 := ⟨RX2, TX2, 3, rfl, by decide, tb_at 183 (by decide +kernel) (by decide +kernel), iw_H⟩
theorem p_X_235 : FLw "MixRounds" 235 2 1 := ⟨RX2, TX2, 3, tyX2, rfl, by decide, tb_at 183 (by decide +kernel) (by decide +kernel), iw_H, tyX2_ok, nmX2, rfl⟩
theorem f_H_18 : FL "MixRounds$Sheet" 18 2 2 := ⟨RX2, TX2, 3, rfl, by decide, tb_at 184 (by decide +kernel) (by decide +kernel), iw_H⟩
theorem f_X_244 : FL "MixRounds" 244 2 2 := ⟨RX2, TX2, 3, rfl, by decide, tb_at 185 (by decide +kernel) (by decide +kernel), iw_H⟩
theorem f_X_12 : FL "MixRounds" 12 4 0 := ⟨RX5, TX5, 7, rfl, by decide, tb_at 194 (by decide +kernel) (by decide +kernel), iw_X⟩
theorem f_X_19 : FL "MixRounds" 19 4 1 := ⟨RX5, TX5, 7, rfl, by decide, tb_at 195 (by decide +kernel) (by decide +kernel), iw_X⟩
theorem f_X_23 : FL "MixRounds" 23 4 2 := ⟨RX5, TX5, 7, rfl, by decide, tb_at 196 (by decide +kernel) (by decide +kernel), iw_X⟩
theorem f_X_26 : FL "MixRounds" 26 4 3 := ⟨RX5, TX5, 7, rfl, by decide, tb_at 197 (by decide +kernel) (by decide +kernel), iw_X⟩
theorem f_X_29 : FL "MixRounds" 29 4 4 := ⟨RX5, TX5, 7, rfl, by decide, tb_at 198 (by decide +kernel) (by decide +kernel), iw_X⟩
theorem p_X_29 : FLw "MixRounds" 29 4 4 := ⟨RX5, TX5, 7, tyX5, rfl, by decide, tb_at 198 (by decide +kernel) (by decide +kernel), iw_X, tyX5_ok, nmX5, rfl⟩
theorem f_X_36 : FL "MixRounds" 36 4 5 := ⟨RX5, TX5, 7, rfl, by decide, tb_at 199 (by decide +kernel) (by decide +kernel), iw_X⟩
theorem f_X_42 : FL "MixRounds" 42 4 6 := ⟨RX5, TX5, 7, rfl, by decide, tb_at 200 (by decide +kernel) (by decide +kernel), iw_X⟩
theorem f_M_7 : FL "MixRoundsModel" 7 5 0 := ⟨RX6, TX6, 16, rfl, by decide, tb_at 597 (by decide +kernel) (by decide +kernel), iw_M⟩
theorem f_M_13 : FL "MixRoundsModel" 13 5 1 := ⟨RX6, TX6, 16, rfl, by decide, tb_at 598 (by decide +kernel) (by decide +kernel), iw_M⟩
theorem f_M_16 : FL "MixRoundsModel" 16 5 2 := ⟨RX6, TX6, 16, rfl, by decide, tb_at 599 (by decide +kernel) (by decide +kernel), iw_M⟩
theorem f_M_19 : FL "MixRoundsModel" 19 5 3 := ⟨RX6, TX6, 16, rfl, by decide, tb_at 600 (by decide +kernel) (by decide +kernel), iw_M⟩
theorem f_M_173 : FL "MixRoundsModel" 173 5 4 := ⟨RX6, TX6, 16, rfl, by decide, tb_at 601 (by decide +kernel) (by decide +kernel), iw_M⟩
theorem p_M_173 : FLw "MixRoundsModel" 173 5 4 := ⟨RX6, TX6, 16, tyX6, rfl, by decide, tb_at 601 (by decide +kernel) (by decide +kernel), iw_M, tyX6_ok, nmX6, rfl⟩
theorem f_M_176 : FL "MixRoundsModel" 176 5 5 := ⟨RX6, TX6, 16, rfl, by decide, tb_at 602 (by decide +kernel) (by decide +kernel), iw_M⟩
theorem p_M_176 : FLw "MixRoundsModel" 176 5 5 := ⟨RX6, TX6, 16, tyX6, rfl, by decide, tb_at 602 (by decide +kernel) (by decide +kernel), iw_M, tyX6_ok, nmX6, rfl⟩
theorem f_M_186 : FL "MixRoundsModel" 186 5 6 := ⟨RX6, TX6, 16, rfl, by decide, tb_at 603 (by decide +kernel) (by decide +kernel), iw_M⟩
theorem p_M_186 : FLw "MixRoundsModel" 186 5 6 := ⟨RX6, TX6, 16, tyX6, rfl, by decide, tb_at 603 (by decide +kernel) (by decide +kernel), iw_M, tyX6_ok, nmX6, rfl⟩
theorem f_M_22 : FL "MixRoundsModel" 22 5 7 := ⟨RX6, TX6, 16, rfl, by decide, tb_at 604 (by decide +kernel) (by decide +kernel), iw_M⟩
theorem f_M_155 : FL "MixRoundsModel" 155 5 8 := ⟨RX6, TX6, 16, rfl, by decide, tb_at 605 (by decide +kernel) (by decide +kernel), iw_M⟩
theorem p_M_155 : FLw "MixRoundsModel" 155 5 8 := ⟨RX6, TX6, 16, tyX6, rfl, by decide, tb_at 605 (by decide +kernel) (by decide +kernel), iw_M, tyX6_ok, nmX6, rfl⟩
theorem f_M_25 : FL "MixRoundsModel" 25 5 9 := ⟨RX6, TX6, 16, rfl, by decide, tb_at 606 (by decide +kernel) (by decide +kernel), iw_M⟩
theorem f_M_28 : FL "MixRoundsModel" 28 5 10 := ⟨RX6, TX6, 16, rfl, by decide, tb_at 607 (by decide +kernel) (by decide +kernel), iw_M⟩
theorem f_M_31 : FL "MixRoundsModel" 31 5 11 := ⟨RX6, TX6, 16, rfl, by decide, tb_at 608 (by decide +kernel) (by decide +kernel), iw_M⟩
theorem p_M_31 : FLw "MixRoundsModel" 31 5 11 := ⟨RX6, TX6, 16, tyX6, rfl, by decide, tb_at 608 (by decide +kernel) (by decide +kernel), iw_M, tyX6_ok, nmX6, rfl⟩
theorem f_M_35 : FL "MixRoundsModel" 35 5 12 := ⟨RX6, TX6, 16, rfl, by decide, tb_at 609 (by decide +kernel) (by decide +kernel), iw_M⟩
theorem f_M_38 : FL "MixRoundsModel" 38 5 13 := ⟨RX6, TX6, 16, rfl, by decide, tb_at 610 (by decide +kernel) (by decide +kernel), iw_M⟩
theorem f_M_41 : FL "MixRoundsModel" 41 5 14 := ⟨RX6, TX6, 16, rfl, by decide, tb_at 611 (by decide +kernel) (by decide +kernel), iw_M⟩
theorem f_M_45 : FL "MixRoundsModel" 45 5 15 := ⟨RX6, TX6, 16, rfl, by decide, tb_at 612 (by decide +kernel) (by decide +kernel), iw_M⟩
theorem iv_B_become : Cond.instanceMethod k_B_become.2.1 ∈ tb ∧ Cond.selects k_B_become.2.1.cls k_B_become.2.1 k_B_become.2.1 ∈ tb := ⟨tb_at 236 (by decide +kernel) (by decide +kernel), tb_at 237 (by decide +kernel) (by decide +kernel)⟩
theorem iv_B_clear : Cond.instanceMethod k_B_clear.2.1 ∈ tb ∧ Cond.selects k_B_clear.2.1.cls k_B_clear.2.1 k_B_clear.2.1 ∈ tb := ⟨tb_at 297 (by decide +kernel) (by decide +kernel), tb_at 298 (by decide +kernel) (by decide +kernel)⟩
theorem iv_B_isFull : Cond.instanceMethod k_B_isFull.2.1 ∈ tb ∧ Cond.selects k_B_isFull.2.1.cls k_B_isFull.2.1 k_B_isFull.2.1 ∈ tb := ⟨tb_at 228 (by decide +kernel) (by decide +kernel), tb_at 229 (by decide +kernel) (by decide +kernel)⟩
theorem iv_B_takesLetter : Cond.instanceMethod k_B_takesLetter.2.1 ∈ tb ∧ Cond.selects k_B_takesLetter.2.1.cls k_B_takesLetter.2.1 k_B_takesLetter.2.1 ∈ tb := ⟨tb_at 224 (by decide +kernel) (by decide +kernel), tb_at 225 (by decide +kernel) (by decide +kernel)⟩
theorem iv_B_hasLetter : Cond.instanceMethod k_B_hasLetter.2.1 ∈ tb ∧ Cond.selects k_B_hasLetter.2.1.cls k_B_hasLetter.2.1 k_B_hasLetter.2.1 ∈ tb := ⟨tb_at 268 (by decide +kernel) (by decide +kernel), tb_at 269 (by decide +kernel) (by decide +kernel)⟩
theorem iv_B_hasRound : Cond.instanceMethod k_B_hasRound.2.1 ∈ tb ∧ Cond.selects k_B_hasRound.2.1.cls k_B_hasRound.2.1 k_B_hasRound.2.1 ∈ tb := ⟨tb_at 326 (by decide +kernel) (by decide +kernel), tb_at 327 (by decide +kernel) (by decide +kernel)⟩
theorem iv_B_hasOut : Cond.instanceMethod k_B_hasOut.2.1 ∈ tb ∧ Cond.selects k_B_hasOut.2.1.cls k_B_hasOut.2.1 k_B_hasOut.2.1 ∈ tb := ⟨tb_at 340 (by decide +kernel) (by decide +kernel), tb_at 341 (by decide +kernel) (by decide +kernel)⟩
theorem iv_B_fact : Cond.instanceMethod k_B_fact.2.1 ∈ tb ∧ Cond.selects k_B_fact.2.1.cls k_B_fact.2.1 k_B_fact.2.1 ∈ tb := ⟨tb_at 330 (by decide +kernel) (by decide +kernel), tb_at 331 (by decide +kernel) (by decide +kernel)⟩
theorem iv_B_outLetter : Cond.instanceMethod k_B_outLetter.2.1 ∈ tb ∧ Cond.selects k_B_outLetter.2.1.cls k_B_outLetter.2.1 k_B_outLetter.2.1 ∈ tb := ⟨tb_at 345 (by decide +kernel) (by decide +kernel), tb_at 346 (by decide +kernel) (by decide +kernel)⟩
theorem iv_B_isOwnOut : Cond.instanceMethod k_B_isOwnOut.2.1 ∈ tb ∧ Cond.selects k_B_isOwnOut.2.1.cls k_B_isOwnOut.2.1 k_B_isOwnOut.2.1 ∈ tb := ⟨tb_at 353 (by decide +kernel) (by decide +kernel), tb_at 354 (by decide +kernel) (by decide +kernel)⟩
theorem iv_B_senderOf : Cond.instanceMethod k_B_senderOf.2.1 ∈ tb ∧ Cond.selects k_B_senderOf.2.1.cls k_B_senderOf.2.1 k_B_senderOf.2.1 ∈ tb := ⟨tb_at 306 (by decide +kernel) (by decide +kernel), tb_at 307 (by decide +kernel) (by decide +kernel)⟩
theorem iv_B_receiverOf : Cond.instanceMethod k_B_receiverOf.2.1 ∈ tb ∧ Cond.selects k_B_receiverOf.2.1.cls k_B_receiverOf.2.1 k_B_receiverOf.2.1 ∈ tb := ⟨tb_at 310 (by decide +kernel) (by decide +kernel), tb_at 311 (by decide +kernel) (by decide +kernel)⟩
theorem iv_B_firstOf : Cond.instanceMethod k_B_firstOf.2.1 ∈ tb ∧ Cond.selects k_B_firstOf.2.1.cls k_B_firstOf.2.1 k_B_firstOf.2.1 ∈ tb := ⟨tb_at 314 (by decide +kernel) (by decide +kernel), tb_at 315 (by decide +kernel) (by decide +kernel)⟩
theorem iv_B_nextDraw : Cond.instanceMethod k_B_nextDraw.2.1 ∈ tb ∧ Cond.selects k_B_nextDraw.2.1.cls k_B_nextDraw.2.1 k_B_nextDraw.2.1 ∈ tb := ⟨tb_at 258 (by decide +kernel) (by decide +kernel), tb_at 259 (by decide +kernel) (by decide +kernel)⟩
theorem iv_B_takeLetter : Cond.instanceMethod k_B_takeLetter.2.1 ∈ tb ∧ Cond.selects k_B_takeLetter.2.1.cls k_B_takeLetter.2.1 k_B_takeLetter.2.1 ∈ tb := ⟨tb_at 243 (by decide +kernel) (by decide +kernel), tb_at 244 (by decide +kernel) (by decide +kernel)⟩
theorem iv_B_hearTick : Cond.instanceMethod k_B_hearTick.2.1 ∈ tb ∧ Cond.selects k_B_hearTick.2.1.cls k_B_hearTick.2.1 k_B_hearTick.2.1 ∈ tb := ⟨tb_at 281 (by decide +kernel) (by decide +kernel), tb_at 282 (by decide +kernel) (by decide +kernel)⟩
theorem is_B_leaving : Cond.static k_B_leaving.2.1 ∈ tb := tb_at 251 (by decide +kernel) (by decide +kernel)
theorem iv_B_add : Cond.instanceMethod k_B_add.2.1 ∈ tb ∧ Cond.selects k_B_add.2.1.cls k_B_add.2.1 k_B_add.2.1 ∈ tb := ⟨tb_at 248 (by decide +kernel) (by decide +kernel), tb_at 0 (by decide +kernel) (by decide +kernel)⟩
theorem iv_B_goRound : Cond.instanceMethod k_B_goRound.2.1 ∈ tb ∧ Cond.selects k_B_goRound.2.1.cls k_B_goRound.2.1 k_B_goRound.2.1 ∈ tb := ⟨tb_at 255 (by decide +kernel) (by decide +kernel), tb_at 1 (by decide +kernel) (by decide +kernel)⟩
theorem iv_B_ownWaiting : Cond.instanceMethod k_B_ownWaiting.2.1 ∈ tb ∧ Cond.selects k_B_ownWaiting.2.1.cls k_B_ownWaiting.2.1 k_B_ownWaiting.2.1 ∈ tb := ⟨tb_at 265 (by decide +kernel) (by decide +kernel), tb_at 2 (by decide +kernel) (by decide +kernel)⟩
theorem iv_B_letOut : Cond.instanceMethod k_B_letOut.2.1 ∈ tb ∧ Cond.selects k_B_letOut.2.1.cls k_B_letOut.2.1 k_B_letOut.2.1 ∈ tb := ⟨tb_at 273 (by decide +kernel) (by decide +kernel), tb_at 3 (by decide +kernel) (by decide +kernel)⟩
theorem iv_P_remember : Cond.instanceMethod k_P_remember.2.1 ∈ tb ∧ Cond.selects k_P_remember.2.1.cls k_P_remember.2.1 k_P_remember.2.1 ∈ tb := ⟨tb_at 232 (by decide +kernel) (by decide +kernel), tb_at 233 (by decide +kernel) (by decide +kernel)⟩
theorem iv_P_bringBack : Cond.instanceMethod k_P_bringBack.2.1 ∈ tb ∧ Cond.selects k_P_bringBack.2.1.cls k_P_bringBack.2.1 k_P_bringBack.2.1 ∈ tb := ⟨tb_at 495 (by decide +kernel) (by decide +kernel), tb_at 496 (by decide +kernel) (by decide +kernel)⟩
theorem iv_P_become : Cond.instanceMethod k_P_become.2.1 ∈ tb ∧ Cond.selects k_P_become.2.1.cls k_P_become.2.1 k_P_become.2.1 ∈ tb := ⟨tb_at 508 (by decide +kernel) (by decide +kernel), tb_at 509 (by decide +kernel) (by decide +kernel)⟩
theorem iv_H_isMissing : Cond.instanceMethod k_H_isMissing.2.1 ∈ tb ∧ Cond.selects k_H_isMissing.2.1.cls k_H_isMissing.2.1 k_H_isMissing.2.1 ∈ tb := ⟨tb_at 530 (by decide +kernel) (by decide +kernel), tb_at 531 (by decide +kernel) (by decide +kernel)⟩
theorem iv_H_renew : Cond.instanceMethod k_H_renew.2.1 ∈ tb ∧ Cond.selects k_H_renew.2.1.cls k_H_renew.2.1 k_H_renew.2.1 ∈ tb := ⟨tb_at 570 (by decide +kernel) (by decide +kernel), tb_at 571 (by decide +kernel) (by decide +kernel)⟩
theorem iv_H_holds : Cond.instanceMethod k_H_holds.2.1 ∈ tb ∧ Cond.selects k_H_holds.2.1.cls k_H_holds.2.1 k_H_holds.2.1 ∈ tb := ⟨tb_at 534 (by decide +kernel) (by decide +kernel), tb_at 535 (by decide +kernel) (by decide +kernel)⟩
theorem iv_H_fault : Cond.instanceMethod k_H_fault.2.1 ∈ tb ∧ Cond.selects k_H_fault.2.1.cls k_H_fault.2.1 k_H_fault.2.1 ∈ tb := ⟨tb_at 526 (by decide +kernel) (by decide +kernel), tb_at 527 (by decide +kernel) (by decide +kernel)⟩
theorem iv_H_tellsPairs : Cond.instanceMethod k_H_tellsPairs.2.1 ∈ tb ∧ Cond.selects k_H_tellsPairs.2.1.cls k_H_tellsPairs.2.1 k_H_tellsPairs.2.1 ∈ tb := ⟨tb_at 538 (by decide +kernel) (by decide +kernel), tb_at 539 (by decide +kernel) (by decide +kernel)⟩
theorem iv_H_at : Cond.instanceMethod k_H_at.2.1 ∈ tb ∧ Cond.selects k_H_at.2.1.cls k_H_at.2.1 k_H_at.2.1 ∈ tb := ⟨tb_at 542 (by decide +kernel) (by decide +kernel), tb_at 543 (by decide +kernel) (by decide +kernel)⟩
theorem iv_H_put : Cond.instanceMethod k_H_put.2.1 ∈ tb ∧ Cond.selects k_H_put.2.1.cls k_H_put.2.1 k_H_put.2.1 ∈ tb := ⟨tb_at 562 (by decide +kernel) (by decide +kernel), tb_at 563 (by decide +kernel) (by decide +kernel)⟩
theorem iv_T_add : Cond.instanceMethod k_T_add.2.1 ∈ tb ∧ Cond.selects k_T_add.2.1.cls k_T_add.2.1 k_T_add.2.1 ∈ tb := ⟨tb_at 441 (by decide +kernel) (by decide +kernel), tb_at 442 (by decide +kernel) (by decide +kernel)⟩
theorem iv_T_parse : Cond.instanceMethod k_T_parse.2.1 ∈ tb ∧ Cond.selects k_T_parse.2.1.cls k_T_parse.2.1 k_T_parse.2.1 ∈ tb := ⟨tb_at 449 (by decide +kernel) (by decide +kernel), tb_at 450 (by decide +kernel) (by decide +kernel)⟩
theorem iv_T_skipBlanks : Cond.instanceMethod k_T_skipBlanks.2.1 ∈ tb ∧ Cond.selects k_T_skipBlanks.2.1.cls k_T_skipBlanks.2.1 k_T_skipBlanks.2.1 ∈ tb := ⟨tb_at 454 (by decide +kernel) (by decide +kernel), tb_at 4 (by decide +kernel) (by decide +kernel)⟩
theorem iv_T_signAt : Cond.instanceMethod k_T_signAt.2.1 ∈ tb ∧ Cond.selects k_T_signAt.2.1.cls k_T_signAt.2.1 k_T_signAt.2.1 ∈ tb := ⟨tb_at 458 (by decide +kernel) (by decide +kernel), tb_at 5 (by decide +kernel) (by decide +kernel)⟩
theorem iv_T_senderAt : Cond.instanceMethod k_T_senderAt.2.1 ∈ tb ∧ Cond.selects k_T_senderAt.2.1.cls k_T_senderAt.2.1 k_T_senderAt.2.1 ∈ tb := ⟨tb_at 462 (by decide +kernel) (by decide +kernel), tb_at 6 (by decide +kernel) (by decide +kernel)⟩
theorem iv_T_figureAt : Cond.instanceMethod k_T_figureAt.2.1 ∈ tb ∧ Cond.selects k_T_figureAt.2.1.cls k_T_figureAt.2.1 k_T_figureAt.2.1 ∈ tb := ⟨tb_at 466 (by decide +kernel) (by decide +kernel), tb_at 7 (by decide +kernel) (by decide +kernel)⟩
theorem is_W_share : Cond.static k_W_share.2.1 ∈ tb := tb_at 367 (by decide +kernel) (by decide +kernel)
theorem is_W_kept : Cond.static k_W_kept.2.1 ∈ tb := tb_at 377 (by decide +kernel) (by decide +kernel)
theorem is_W_whole : Cond.static k_W_whole.2.1 ∈ tb := tb_at 364 (by decide +kernel) (by decide +kernel)
theorem is_W_left : Cond.static k_W_left.2.1 ∈ tb := tb_at 374 (by decide +kernel) (by decide +kernel)
theorem is_W_weight : Cond.static k_W_weight.2.1 ∈ tb := tb_at 359 (by decide +kernel) (by decide +kernel)
theorem is_W_senderWeight : Cond.static k_W_senderWeight.2.1 ∈ tb := tb_at 409 (by decide +kernel) (by decide +kernel)
theorem is_W_expectedWeight : Cond.static k_W_expectedWeight.2.1 ∈ tb := tb_at 425 (by decide +kernel) (by decide +kernel)
theorem is_W_fresh : Cond.static k_W_fresh.2.1 ∈ tb := tb_at 412 (by decide +kernel) (by decide +kernel)
theorem is_W_outsTo : Cond.static k_W_outsTo.2.1 ∈ tb := tb_at 428 (by decide +kernel) (by decide +kernel)
theorem is_W_possible : Cond.static k_W_possible.2.1 ∈ tb := tb_at 350 (by decide +kernel) (by decide +kernel)
theorem is_W_likeliest : Cond.static k_W_likeliest.2.1 ∈ tb := tb_at 380 (by decide +kernel) (by decide +kernel)
theorem iv_X_come : Cond.instanceMethod k_X_come.2.1 ∈ tb ∧ Cond.selects k_X_come.2.1.cls k_X_come.2.1 k_X_come.2.1 ∈ tb := ⟨tb_at 217 (by decide +kernel) (by decide +kernel), tb_at 218 (by decide +kernel) (by decide +kernel)⟩
theorem iv_X_tick : Cond.instanceMethod k_X_tick.2.1 ∈ tb ∧ Cond.selects k_X_tick.2.1.cls k_X_tick.2.1 k_X_tick.2.1 ∈ tb := ⟨tb_at 276 (by decide +kernel) (by decide +kernel), tb_at 277 (by decide +kernel) (by decide +kernel)⟩
theorem iv_X_tell : Cond.instanceMethod k_X_tell.2.1 ∈ tb ∧ Cond.selects k_X_tell.2.1.cls k_X_tell.2.1 k_X_tell.2.1 ∈ tb := ⟨tb_at 285 (by decide +kernel) (by decide +kernel), tb_at 286 (by decide +kernel) (by decide +kernel)⟩
theorem iv_X_begin : Cond.instanceMethod k_X_begin.2.1 ∈ tb ∧ Cond.selects k_X_begin.2.1.cls k_X_begin.2.1 k_X_begin.2.1 ∈ tb := ⟨tb_at 293 (by decide +kernel) (by decide +kernel), tb_at 294 (by decide +kernel) (by decide +kernel)⟩
theorem iv_X_letter : Cond.instanceMethod k_X_letter.2.1 ∈ tb ∧ Cond.selects k_X_letter.2.1.cls k_X_letter.2.1 k_X_letter.2.1 ∈ tb := ⟨tb_at 301 (by decide +kernel) (by decide +kernel), tb_at 302 (by decide +kernel) (by decide +kernel)⟩
theorem iv_X_inside : Cond.instanceMethod k_X_inside.2.1 ∈ tb ∧ Cond.selects k_X_inside.2.1.cls k_X_inside.2.1 k_X_inside.2.1 ∈ tb := ⟨tb_at 318 (by decide +kernel) (by decide +kernel), tb_at 319 (by decide +kernel) (by decide +kernel)⟩
theorem iv_X_round : Cond.instanceMethod k_X_round.2.1 ∈ tb ∧ Cond.selects k_X_round.2.1.cls k_X_round.2.1 k_X_round.2.1 ∈ tb := ⟨tb_at 322 (by decide +kernel) (by decide +kernel), tb_at 323 (by decide +kernel) (by decide +kernel)⟩
theorem iv_X_out : Cond.instanceMethod k_X_out.2.1 ∈ tb ∧ Cond.selects k_X_out.2.1.cls k_X_out.2.1 k_X_out.2.1 ∈ tb := ⟨tb_at 336 (by decide +kernel) (by decide +kernel), tb_at 337 (by decide +kernel) (by decide +kernel)⟩
theorem iv_X_count : Cond.instanceMethod k_X_count.2.1 ∈ tb ∧ Cond.selects k_X_count.2.1.cls k_X_count.2.1 k_X_count.2.1 ∈ tb := ⟨tb_at 384 (by decide +kernel) (by decide +kernel), tb_at 385 (by decide +kernel) (by decide +kernel)⟩
theorem iv_X_chance : Cond.instanceMethod k_X_chance.2.1 ∈ tb ∧ Cond.selects k_X_chance.2.1.cls k_X_chance.2.1 k_X_chance.2.1 ∈ tb := ⟨tb_at 388 (by decide +kernel) (by decide +kernel), tb_at 389 (by decide +kernel) (by decide +kernel)⟩
theorem iv_X_sender : Cond.instanceMethod k_X_sender.2.1 ∈ tb ∧ Cond.selects k_X_sender.2.1.cls k_X_sender.2.1 k_X_sender.2.1 ∈ tb := ⟨tb_at 405 (by decide +kernel) (by decide +kernel), tb_at 406 (by decide +kernel) (by decide +kernel)⟩
theorem iv_X_stays : Cond.instanceMethod k_X_stays.2.1 ∈ tb ∧ Cond.selects k_X_stays.2.1.cls k_X_stays.2.1 k_X_stays.2.1 ∈ tb := ⟨tb_at 415 (by decide +kernel) (by decide +kernel), tb_at 416 (by decide +kernel) (by decide +kernel)⟩
theorem iv_X_expected : Cond.instanceMethod k_X_expected.2.1 ∈ tb ∧ Cond.selects k_X_expected.2.1.cls k_X_expected.2.1 k_X_expected.2.1 ∈ tb := ⟨tb_at 421 (by decide +kernel) (by decide +kernel), tb_at 422 (by decide +kernel) (by decide +kernel)⟩
theorem iv_X_blend : Cond.instanceMethod k_X_blend.2.1 ∈ tb ∧ Cond.selects k_X_blend.2.1.cls k_X_blend.2.1 k_X_blend.2.1 ∈ tb := ⟨tb_at 432 (by decide +kernel) (by decide +kernel), tb_at 433 (by decide +kernel) (by decide +kernel)⟩
theorem iv_X_type : Cond.instanceMethod k_X_type.2.1 ∈ tb ∧ Cond.selects k_X_type.2.1.cls k_X_type.2.1 k_X_type.2.1 ∈ tb := ⟨tb_at 437 (by decide +kernel) (by decide +kernel), tb_at 438 (by decide +kernel) (by decide +kernel)⟩
theorem iv_X_read : Cond.instanceMethod k_X_read.2.1 ∈ tb ∧ Cond.selects k_X_read.2.1.cls k_X_read.2.1 k_X_read.2.1 ∈ tb := ⟨tb_at 445 (by decide +kernel) (by decide +kernel), tb_at 446 (by decide +kernel) (by decide +kernel)⟩
theorem iv_X_drift : Cond.instanceMethod k_X_drift.2.1 ∈ tb ∧ Cond.selects k_X_drift.2.1.cls k_X_drift.2.1 k_X_drift.2.1 ∈ tb := ⟨tb_at 482 (by decide +kernel) (by decide +kernel), tb_at 483 (by decide +kernel) (by decide +kernel)⟩
theorem iv_X_undo : Cond.instanceMethod k_X_undo.2.1 ∈ tb ∧ Cond.selects k_X_undo.2.1.cls k_X_undo.2.1 k_X_undo.2.1 ∈ tb := ⟨tb_at 491 (by decide +kernel) (by decide +kernel), tb_at 492 (by decide +kernel) (by decide +kernel)⟩
theorem iv_X_seed : Cond.instanceMethod k_X_seed.2.1 ∈ tb ∧ Cond.selects k_X_seed.2.1.cls k_X_seed.2.1 k_X_seed.2.1 ∈ tb := ⟨tb_at 499 (by decide +kernel) (by decide +kernel), tb_at 500 (by decide +kernel) (by decide +kernel)⟩
theorem iv_X_image : Cond.instanceMethod k_X_image.2.1 ∈ tb ∧ Cond.selects k_X_image.2.1.cls k_X_image.2.1 k_X_image.2.1 ∈ tb := ⟨tb_at 503 (by decide +kernel) (by decide +kernel), tb_at 504 (by decide +kernel) (by decide +kernel)⟩
theorem iv_X_restore : Cond.instanceMethod k_X_restore.2.1 ∈ tb ∧ Cond.selects k_X_restore.2.1.cls k_X_restore.2.1 k_X_restore.2.1 ∈ tb := ⟨tb_at 512 (by decide +kernel) (by decide +kernel), tb_at 513 (by decide +kernel) (by decide +kernel)⟩
theorem iv_X_fits : Cond.instanceMethod k_X_fits.2.1 ∈ tb ∧ Cond.selects k_X_fits.2.1.cls k_X_fits.2.1 k_X_fits.2.1 ∈ tb := ⟨tb_at 516 (by decide +kernel) (by decide +kernel), tb_at 517 (by decide +kernel) (by decide +kernel)⟩
theorem iv_X_film : Cond.instanceMethod k_X_film.2.1 ∈ tb ∧ Cond.selects k_X_film.2.1.cls k_X_film.2.1 k_X_film.2.1 ∈ tb := ⟨tb_at 558 (by decide +kernel) (by decide +kernel), tb_at 559 (by decide +kernel) (by decide +kernel)⟩
theorem iv_X_sheet : Cond.instanceMethod k_X_sheet.2.1 ∈ tb ∧ Cond.selects k_X_sheet.2.1.cls k_X_sheet.2.1 k_X_sheet.2.1 ∈ tb := ⟨tb_at 566 (by decide +kernel) (by decide +kernel), tb_at 567 (by decide +kernel) (by decide +kernel)⟩
theorem iv_X_drop : Cond.instanceMethod k_X_drop.2.1 ∈ tb ∧ Cond.selects k_X_drop.2.1.cls k_X_drop.2.1 k_X_drop.2.1 ∈ tb := ⟨tb_at 577 (by decide +kernel) (by decide +kernel), tb_at 578 (by decide +kernel) (by decide +kernel)⟩
theorem iv_X_item : Cond.instanceMethod k_X_item.2.1 ∈ tb ∧ Cond.selects k_X_item.2.1.cls k_X_item.2.1 k_X_item.2.1 ∈ tb := ⟨tb_at 582 (by decide +kernel) (by decide +kernel), tb_at 583 (by decide +kernel) (by decide +kernel)⟩
theorem iv_X_copy : Cond.instanceMethod k_X_copy.2.1 ∈ tb ∧ Cond.selects k_X_copy.2.1.cls k_X_copy.2.1 k_X_copy.2.1 ∈ tb := ⟨tb_at 586 (by decide +kernel) (by decide +kernel), tb_at 587 (by decide +kernel) (by decide +kernel)⟩
theorem is_X_within : Cond.static k_X_within.2.1 ∈ tb := tb_at 221 (by decide +kernel) (by decide +kernel)
theorem is_X_isPart : Cond.static k_X_isPart.2.1 ∈ tb := tb_at 392 (by decide +kernel) (by decide +kernel)
theorem is_X_isSheet : Cond.static k_X_isSheet.2.1 ∈ tb := tb_at 520 (by decide +kernel) (by decide +kernel)
theorem is_X_isLane : Cond.static k_X_isLane.2.1 ∈ tb := tb_at 523 (by decide +kernel) (by decide +kernel)
theorem is_X_lowest : Cond.static k_X_lowest.2.1 ∈ tb := tb_at 397 (by decide +kernel) (by decide +kernel)
theorem is_X_greatestDivisor : Cond.static k_X_greatestDivisor.2.1 ∈ tb := tb_at 400 (by decide +kernel) (by decide +kernel)
theorem iv_X_play : Cond.instanceMethod k_X_play.2.1 ∈ tb ∧ Cond.selects k_X_play.2.1.cls k_X_play.2.1 k_X_play.2.1 ∈ tb := ⟨tb_at 471 (by decide +kernel) (by decide +kernel), tb_at 8 (by decide +kernel) (by decide +kernel)⟩
theorem iv_X_tickIfHeard : Cond.instanceMethod k_X_tickIfHeard.2.1 ∈ tb ∧ Cond.selects k_X_tickIfHeard.2.1.cls k_X_tickIfHeard.2.1 k_X_tickIfHeard.2.1 ∈ tb := ⟨tb_at 475 (by decide +kernel) (by decide +kernel), tb_at 9 (by decide +kernel) (by decide +kernel)⟩
theorem iv_X_takeIfRoom : Cond.instanceMethod k_X_takeIfRoom.2.1 ∈ tb ∧ Cond.selects k_X_takeIfRoom.2.1.cls k_X_takeIfRoom.2.1 k_X_takeIfRoom.2.1 ∈ tb := ⟨tb_at 479 (by decide +kernel) (by decide +kernel), tb_at 10 (by decide +kernel) (by decide +kernel)⟩
theorem iv_X_driftOnce : Cond.instanceMethod k_X_driftOnce.2.1 ∈ tb ∧ Cond.selects k_X_driftOnce.2.1.cls k_X_driftOnce.2.1 k_X_driftOnce.2.1 ∈ tb := ⟨tb_at 487 (by decide +kernel) (by decide +kernel), tb_at 11 (by decide +kernel) (by decide +kernel)⟩
theorem iv_X_fitsPolicy : Cond.instanceMethod k_X_fitsPolicy.2.1 ∈ tb ∧ Cond.selects k_X_fitsPolicy.2.1.cls k_X_fitsPolicy.2.1 k_X_fitsPolicy.2.1 ∈ tb := ⟨tb_at 549 (by decide +kernel) (by decide +kernel), tb_at 12 (by decide +kernel) (by decide +kernel)⟩
theorem iv_X_staying : Cond.instanceMethod k_X_staying.2.1 ∈ tb ∧ Cond.selects k_X_staying.2.1.cls k_X_staying.2.1 k_X_staying.2.1 ∈ tb := ⟨tb_at 555 (by decide +kernel) (by decide +kernel), tb_at 13 (by decide +kernel) (by decide +kernel)⟩
theorem is_M_in : Cond.static k_M_in.2.1 ∈ tb := tb_at 655 (by decide +kernel) (by decide +kernel)
theorem iv_M_of : Cond.instanceMethod k_M_of.2.1 ∈ tb ∧ Cond.selects k_M_of.2.1.cls k_M_of.2.1 k_M_of.2.1 ∈ tb := ⟨tb_at 671 (by decide +kernel) (by decide +kernel), tb_at 17 (by decide +kernel) (by decide +kernel)⟩
theorem iv_M_isLetter : Cond.instanceMethod k_M_isLetter.2.1 ∈ tb ∧ Cond.selects k_M_isLetter.2.1.cls k_M_isLetter.2.1 k_M_isLetter.2.1 ∈ tb := ⟨tb_at 737 (by decide +kernel) (by decide +kernel), tb_at 27 (by decide +kernel) (by decide +kernel)⟩
theorem iv_M_isRound : Cond.instanceMethod k_M_isRound.2.1 ∈ tb ∧ Cond.selects k_M_isRound.2.1.cls k_M_isRound.2.1 k_M_isRound.2.1 ∈ tb := ⟨tb_at 749 (by decide +kernel) (by decide +kernel), tb_at 28 (by decide +kernel) (by decide +kernel)⟩
theorem iv_M_stands : Cond.instanceMethod k_M_stands.2.1 ∈ tb ∧ Cond.selects k_M_stands.2.1.cls k_M_stands.2.1 k_M_stands.2.1 ∈ tb := ⟨tb_at 667 (by decide +kernel) (by decide +kernel), tb_at 16 (by decide +kernel) (by decide +kernel)⟩
theorem iv_M_isOwn : Cond.instanceMethod k_M_isOwn.2.1 ∈ tb ∧ Cond.selects k_M_isOwn.2.1.cls k_M_isOwn.2.1 k_M_isOwn.2.1 ∈ tb := ⟨tb_at 762 (by decide +kernel) (by decide +kernel), tb_at 31 (by decide +kernel) (by decide +kernel)⟩
theorem iv_M_standing : Cond.instanceMethod k_M_standing.2.1 ∈ tb ∧ Cond.selects k_M_standing.2.1.cls k_M_standing.2.1 k_M_standing.2.1 ∈ tb := ⟨tb_at 663 (by decide +kernel) (by decide +kernel), tb_at 15 (by decide +kernel) (by decide +kernel)⟩
theorem iv_M_standsAt : Cond.instanceMethod k_M_standsAt.2.1 ∈ tb ∧ Cond.selects k_M_standsAt.2.1.cls k_M_standsAt.2.1 k_M_standsAt.2.1 ∈ tb := ⟨tb_at 707 (by decide +kernel) (by decide +kernel), tb_at 25 (by decide +kernel) (by decide +kernel)⟩
theorem iv_M_draws : Cond.instanceMethod k_M_draws.2.1 ∈ tb ∧ Cond.selects k_M_draws.2.1.cls k_M_draws.2.1 k_M_draws.2.1 ∈ tb := ⟨tb_at 695 (by decide +kernel) (by decide +kernel), tb_at 23 (by decide +kernel) (by decide +kernel)⟩
theorem iv_M_adds : Cond.instanceMethod k_M_adds.2.1 ∈ tb ∧ Cond.selects k_M_adds.2.1.cls k_M_adds.2.1 k_M_adds.2.1 ∈ tb := ⟨tb_at 683 (by decide +kernel) (by decide +kernel), tb_at 20 (by decide +kernel) (by decide +kernel)⟩
theorem iv_M_share : Cond.instanceMethod k_M_share.2.1 ∈ tb ∧ Cond.selects k_M_share.2.1.cls k_M_share.2.1 k_M_share.2.1 ∈ tb := ⟨tb_at 703 (by decide +kernel) (by decide +kernel), tb_at 24 (by decide +kernel) (by decide +kernel)⟩
theorem iv_M_goesRound : Cond.instanceMethod k_M_goesRound.2.1 ∈ tb ∧ Cond.selects k_M_goesRound.2.1.cls k_M_goesRound.2.1 k_M_goesRound.2.1 ∈ tb := ⟨tb_at 691 (by decide +kernel) (by decide +kernel), tb_at 22 (by decide +kernel) (by decide +kernel)⟩
theorem iv_M_isFull : Cond.instanceMethod k_M_isFull.2.1 ∈ tb ∧ Cond.selects k_M_isFull.2.1.cls k_M_isFull.2.1 k_M_isFull.2.1 ∈ tb := ⟨tb_at 659 (by decide +kernel) (by decide +kernel), tb_at 14 (by decide +kernel) (by decide +kernel)⟩
theorem iv_M_begins : Cond.instanceMethod k_M_begins.2.1 ∈ tb ∧ Cond.selects k_M_begins.2.1.cls k_M_begins.2.1 k_M_begins.2.1 ∈ tb := ⟨tb_at 687 (by decide +kernel) (by decide +kernel), tb_at 21 (by decide +kernel) (by decide +kernel)⟩
theorem iv_M_comes : Cond.instanceMethod k_M_comes.2.1 ∈ tb ∧ Cond.selects k_M_comes.2.1.cls k_M_comes.2.1 k_M_comes.2.1 ∈ tb := ⟨tb_at 679 (by decide +kernel) (by decide +kernel), tb_at 19 (by decide +kernel) (by decide +kernel)⟩
theorem iv_M_ticks : Cond.instanceMethod k_M_ticks.2.1 ∈ tb ∧ Cond.selects k_M_ticks.2.1.cls k_M_ticks.2.1 k_M_ticks.2.1 ∈ tb := ⟨tb_at 715 (by decide +kernel) (by decide +kernel), tb_at 26 (by decide +kernel) (by decide +kernel)⟩
theorem is_M_isSender : Cond.static k_M_isSender.2.1 ∈ tb := tb_at 651 (by decide +kernel) (by decide +kernel)
theorem iv_M_come : Cond.instanceMethod k_M_come.2.1 ∈ tb ∧ Cond.selects k_M_come.2.1.cls k_M_come.2.1 k_M_come.2.1 ∈ tb := ⟨tb_at 647 (by decide +kernel) (by decide +kernel), tb_at 648 (by decide +kernel) (by decide +kernel)⟩
theorem iv_M_tick : Cond.instanceMethod k_M_tick.2.1 ∈ tb ∧ Cond.selects k_M_tick.2.1.cls k_M_tick.2.1 k_M_tick.2.1 ∈ tb := ⟨tb_at 710 (by decide +kernel) (by decide +kernel), tb_at 711 (by decide +kernel) (by decide +kernel)⟩
theorem is_M_isTold : Cond.static k_M_isTold.2.1 ∈ tb := tb_at 722 (by decide +kernel) (by decide +kernel)
theorem iv_M_tell : Cond.instanceMethod k_M_tell.2.1 ∈ tb ∧ Cond.selects k_M_tell.2.1.cls k_M_tell.2.1 k_M_tell.2.1 ∈ tb := ⟨tb_at 718 (by decide +kernel) (by decide +kernel), tb_at 719 (by decide +kernel) (by decide +kernel)⟩
theorem iv_M_begin : Cond.instanceMethod k_M_begin.2.1 ∈ tb ∧ Cond.selects k_M_begin.2.1.cls k_M_begin.2.1 k_M_begin.2.1 ∈ tb := ⟨tb_at 728 (by decide +kernel) (by decide +kernel), tb_at 729 (by decide +kernel) (by decide +kernel)⟩
theorem iv_M_letter : Cond.instanceMethod k_M_letter.2.1 ∈ tb ∧ Cond.selects k_M_letter.2.1.cls k_M_letter.2.1 k_M_letter.2.1 ∈ tb := ⟨tb_at 732 (by decide +kernel) (by decide +kernel), tb_at 733 (by decide +kernel) (by decide +kernel)⟩
theorem iv_M_inside : Cond.instanceMethod k_M_inside.2.1 ∈ tb ∧ Cond.selects k_M_inside.2.1.cls k_M_inside.2.1 k_M_inside.2.1 ∈ tb := ⟨tb_at 740 (by decide +kernel) (by decide +kernel), tb_at 741 (by decide +kernel) (by decide +kernel)⟩
theorem iv_M_wasInside : Cond.instanceMethod k_M_wasInside.2.1 ∈ tb ∧ Cond.selects k_M_wasInside.2.1.cls k_M_wasInside.2.1 k_M_wasInside.2.1 ∈ tb := ⟨tb_at 758 (by decide +kernel) (by decide +kernel), tb_at 30 (by decide +kernel) (by decide +kernel)⟩
theorem iv_M_roundOf : Cond.instanceMethod k_M_roundOf.2.1 ∈ tb ∧ Cond.selects k_M_roundOf.2.1.cls k_M_roundOf.2.1 k_M_roundOf.2.1 ∈ tb := ⟨tb_at 754 (by decide +kernel) (by decide +kernel), tb_at 29 (by decide +kernel) (by decide +kernel)⟩
theorem iv_M_round : Cond.instanceMethod k_M_round.2.1 ∈ tb ∧ Cond.selects k_M_round.2.1.cls k_M_round.2.1 k_M_round.2.1 ∈ tb := ⟨tb_at 744 (by decide +kernel) (by decide +kernel), tb_at 745 (by decide +kernel) (by decide +kernel)⟩
theorem iv_M_letterOut : Cond.instanceMethod k_M_letterOut.2.1 ∈ tb ∧ Cond.selects k_M_letterOut.2.1.cls k_M_letterOut.2.1 k_M_letterOut.2.1 ∈ tb := ⟨tb_at 770 (by decide +kernel) (by decide +kernel), tb_at 32 (by decide +kernel) (by decide +kernel)⟩
theorem iv_M_whole : Cond.instanceMethod k_M_whole.2.1 ∈ tb ∧ Cond.selects k_M_whole.2.1.cls k_M_whole.2.1 k_M_whole.2.1 ∈ tb := ⟨tb_at 774 (by decide +kernel) (by decide +kernel), tb_at 33 (by decide +kernel) (by decide +kernel)⟩
theorem iv_M_leftOf : Cond.instanceMethod k_M_leftOf.2.1 ∈ tb ∧ Cond.selects k_M_leftOf.2.1.cls k_M_leftOf.2.1 k_M_leftOf.2.1 ∈ tb := ⟨tb_at 783 (by decide +kernel) (by decide +kernel), tb_at 35 (by decide +kernel) (by decide +kernel)⟩
theorem iv_M_chanceOf : Cond.instanceMethod k_M_chanceOf.2.1 ∈ tb ∧ Cond.selects k_M_chanceOf.2.1.cls k_M_chanceOf.2.1 k_M_chanceOf.2.1 ∈ tb := ⟨tb_at 779 (by decide +kernel) (by decide +kernel), tb_at 34 (by decide +kernel) (by decide +kernel)⟩
theorem iv_M_senderOf : Cond.instanceMethod k_M_senderOf.2.1 ∈ tb ∧ Cond.selects k_M_senderOf.2.1.cls k_M_senderOf.2.1 k_M_senderOf.2.1 ∈ tb := ⟨tb_at 803 (by decide +kernel) (by decide +kernel), tb_at 36 (by decide +kernel) (by decide +kernel)⟩
theorem is_M_fraction : Cond.static k_M_fraction.2.1 ∈ tb := tb_at 794 (by decide +kernel) (by decide +kernel)
theorem iv_M_out : Cond.instanceMethod k_M_out.2.1 ∈ tb ∧ Cond.selects k_M_out.2.1.cls k_M_out.2.1 k_M_out.2.1 ∈ tb := ⟨tb_at 765 (by decide +kernel) (by decide +kernel), tb_at 766 (by decide +kernel) (by decide +kernel)⟩
theorem iv_M_count : Cond.instanceMethod k_M_count.2.1 ∈ tb ∧ Cond.selects k_M_count.2.1.cls k_M_count.2.1 k_M_count.2.1 ∈ tb := ⟨tb_at 786 (by decide +kernel) (by decide +kernel), tb_at 787 (by decide +kernel) (by decide +kernel)⟩
theorem iv_M_chance : Cond.instanceMethod k_M_chance.2.1 ∈ tb ∧ Cond.selects k_M_chance.2.1.cls k_M_chance.2.1 k_M_chance.2.1 ∈ tb := ⟨tb_at 790 (by decide +kernel) (by decide +kernel), tb_at 791 (by decide +kernel) (by decide +kernel)⟩
theorem iv_M_sender : Cond.instanceMethod k_M_sender.2.1 ∈ tb ∧ Cond.selects k_M_sender.2.1.cls k_M_sender.2.1 k_M_sender.2.1 ∈ tb := ⟨tb_at 797 (by decide +kernel) (by decide +kernel), tb_at 798 (by decide +kernel) (by decide +kernel)⟩
theorem iv_M_stays : Cond.instanceMethod k_M_stays.2.1 ∈ tb ∧ Cond.selects k_M_stays.2.1.cls k_M_stays.2.1 k_M_stays.2.1 ∈ tb := ⟨tb_at 806 (by decide +kernel) (by decide +kernel), tb_at 807 (by decide +kernel) (by decide +kernel)⟩
theorem iv_M_expected : Cond.instanceMethod k_M_expected.2.1 ∈ tb ∧ Cond.selects k_M_expected.2.1.cls k_M_expected.2.1 k_M_expected.2.1 ∈ tb := ⟨tb_at 811 (by decide +kernel) (by decide +kernel), tb_at 812 (by decide +kernel) (by decide +kernel)⟩
theorem iv_M_blend : Cond.instanceMethod k_M_blend.2.1 ∈ tb ∧ Cond.selects k_M_blend.2.1.cls k_M_blend.2.1 k_M_blend.2.1 ∈ tb := ⟨tb_at 815 (by decide +kernel) (by decide +kernel), tb_at 816 (by decide +kernel) (by decide +kernel)⟩
theorem iv_M_type : Cond.instanceMethod k_M_type.2.1 ∈ tb ∧ Cond.selects k_M_type.2.1.cls k_M_type.2.1 k_M_type.2.1 ∈ tb := ⟨tb_at 819 (by decide +kernel) (by decide +kernel), tb_at 820 (by decide +kernel) (by decide +kernel)⟩
theorem iv_M_here : Cond.instanceMethod k_M_here.2.1 ∈ tb ∧ Cond.selects k_M_here.2.1.cls k_M_here.2.1 k_M_here.2.1 ∈ tb := ⟨tb_at 834 (by decide +kernel) (by decide +kernel), tb_at 38 (by decide +kernel) (by decide +kernel)⟩
theorem iv_M_event : Cond.instanceMethod k_M_event.2.1 ∈ tb ∧ Cond.selects k_M_event.2.1.cls k_M_event.2.1 k_M_event.2.1 ∈ tb := ⟨tb_at 838 (by decide +kernel) (by decide +kernel), tb_at 39 (by decide +kernel) (by decide +kernel)⟩
theorem iv_M_goesThrough : Cond.instanceMethod k_M_goesThrough.2.1 ∈ tb ∧ Cond.selects k_M_goesThrough.2.1.cls k_M_goesThrough.2.1 k_M_goesThrough.2.1 ∈ tb := ⟨tb_at 830 (by decide +kernel) (by decide +kernel), tb_at 37 (by decide +kernel) (by decide +kernel)⟩
theorem iv_M_read : Cond.instanceMethod k_M_read.2.1 ∈ tb ∧ Cond.selects k_M_read.2.1.cls k_M_read.2.1 k_M_read.2.1 ∈ tb := ⟨tb_at 825 (by decide +kernel) (by decide +kernel), tb_at 826 (by decide +kernel) (by decide +kernel)⟩
theorem iv_M_drift : Cond.instanceMethod k_M_drift.2.1 ∈ tb ∧ Cond.selects k_M_drift.2.1.cls k_M_drift.2.1 k_M_drift.2.1 ∈ tb := ⟨tb_at 843 (by decide +kernel) (by decide +kernel), tb_at 844 (by decide +kernel) (by decide +kernel)⟩
theorem iv_M_seed : Cond.instanceMethod k_M_seed.2.1 ∈ tb ∧ Cond.selects k_M_seed.2.1.cls k_M_seed.2.1 k_M_seed.2.1 ∈ tb := ⟨tb_at 848 (by decide +kernel) (by decide +kernel), tb_at 849 (by decide +kernel) (by decide +kernel)⟩
theorem iv_M_notes : Cond.instanceMethod k_M_notes.2.1 ∈ tb ∧ Cond.selects k_M_notes.2.1.cls k_M_notes.2.1 k_M_notes.2.1 ∈ tb := ⟨tb_at 675 (by decide +kernel) (by decide +kernel), tb_at 18 (by decide +kernel) (by decide +kernel)⟩
theorem iv_M_undo : Cond.instanceMethod k_M_undo.2.1 ∈ tb ∧ Cond.selects k_M_undo.2.1.cls k_M_undo.2.1 k_M_undo.2.1 ∈ tb := ⟨tb_at 852 (by decide +kernel) (by decide +kernel), tb_at 853 (by decide +kernel) (by decide +kernel)⟩
theorem iv_M_image : Cond.instanceMethod k_M_image.2.1 ∈ tb ∧ Cond.selects k_M_image.2.1.cls k_M_image.2.1 k_M_image.2.1 ∈ tb := ⟨tb_at 856 (by decide +kernel) (by decide +kernel), tb_at 857 (by decide +kernel) (by decide +kernel)⟩
theorem iv_M_restore : Cond.instanceMethod k_M_restore.2.1 ∈ tb ∧ Cond.selects k_M_restore.2.1.cls k_M_restore.2.1 k_M_restore.2.1 ∈ tb := ⟨tb_at 860 (by decide +kernel) (by decide +kernel), tb_at 861 (by decide +kernel) (by decide +kernel)⟩
theorem is_M_isSheet : Cond.static k_M_isSheet.2.1 ∈ tb := tb_at 868 (by decide +kernel) (by decide +kernel)
theorem is_M_cut : Cond.static k_M_cut.2.1 ∈ tb := tb_at 883 (by decide +kernel) (by decide +kernel)
theorem iv_M_sheet : Cond.instanceMethod k_M_sheet.2.1 ∈ tb ∧ Cond.selects k_M_sheet.2.1.cls k_M_sheet.2.1 k_M_sheet.2.1 ∈ tb := ⟨tb_at 864 (by decide +kernel) (by decide +kernel), tb_at 865 (by decide +kernel) (by decide +kernel)⟩
theorem iv_M_drop : Cond.instanceMethod k_M_drop.2.1 ∈ tb ∧ Cond.selects k_M_drop.2.1.cls k_M_drop.2.1 k_M_drop.2.1 ∈ tb := ⟨tb_at 871 (by decide +kernel) (by decide +kernel), tb_at 872 (by decide +kernel) (by decide +kernel)⟩
theorem iv_M_why : Cond.instanceMethod k_M_why.2.1 ∈ tb ∧ Cond.selects k_M_why.2.1.cls k_M_why.2.1 k_M_why.2.1 ∈ tb := ⟨tb_at 880 (by decide +kernel) (by decide +kernel), tb_at 40 (by decide +kernel) (by decide +kernel)⟩
theorem iv_M_item : Cond.instanceMethod k_M_item.2.1 ∈ tb ∧ Cond.selects k_M_item.2.1.cls k_M_item.2.1 k_M_item.2.1 ∈ tb := ⟨tb_at 875 (by decide +kernel) (by decide +kernel), tb_at 876 (by decide +kernel) (by decide +kernel)⟩
theorem iv_M_copy : Cond.instanceMethod k_M_copy.2.1 ∈ tb ∧ Cond.selects k_M_copy.2.1.cls k_M_copy.2.1 k_M_copy.2.1 ∈ tb := ⟨tb_at 886 (by decide +kernel) (by decide +kernel), tb_at 887 (by decide +kernel) (by decide +kernel)⟩
theorem iv_M_isSo : Cond.instanceMethod k_M_isSo.2.1 ∈ tb ∧ Cond.selects k_M_isSo.2.1.cls k_M_isSo.2.1 k_M_isSo.2.1 ∈ tb := ⟨tb_at 895 (by decide +kernel) (by decide +kernel), tb_at 41 (by decide +kernel) (by decide +kernel)⟩
theorem iv_M_fits : Cond.instanceMethod k_M_fits.2.1 ∈ tb ∧ Cond.selects k_M_fits.2.1.cls k_M_fits.2.1 k_M_fits.2.1 ∈ tb := ⟨tb_at 890 (by decide +kernel) (by decide +kernel), tb_at 891 (by decide +kernel) (by decide +kernel)⟩
theorem iv_M_film : Cond.instanceMethod k_M_film.2.1 ∈ tb ∧ Cond.selects k_M_film.2.1.cls k_M_film.2.1 k_M_film.2.1 ∈ tb := ⟨tb_at 898 (by decide +kernel) (by decide +kernel), tb_at 899 (by decide +kernel) (by decide +kernel)⟩
theorem is_J_max : Cond.static k_J_max.2.1 ∈ tb := tb_at 371 (by decide +kernel) (by decide +kernel)
theorem is_J_fill : Cond.static k_J_fill.2.1 ∈ tb := tb_at 574 (by decide +kernel) (by decide +kernel)
end
section
theorem d_B_init_0 : DlA k_B_init 0 0 1 := Or.inl ⟨0, (by decide +kernel), rfl, rfl⟩
theorem d_B_init_4 : DlA k_B_init 4 0 5 := Or.inl ⟨0, (by decide +kernel), rfl, rfl⟩
theorem d_B_init_17 : DlA k_B_init 17 0 18 := Or.inl ⟨0, (by decide +kernel), rfl, rfl⟩
theorem d_B_init_18 : Dc k_B_init 18 (1) 19 := Or.inl ⟨(by decide +kernel), rfl⟩
theorem d_B_init_19 : DP k_B_init 19 0 1 22 .int := ⟨23, (by decide +kernel), p_B_23, rfl, RX0, TX0, 13, rfl, rfl⟩
theorem d_B_init_22 : DlA k_B_init 22 0 23 := Or.inl ⟨0, (by decide +kernel), rfl, rfl⟩
theorem d_B_init_23 : Dc k_B_init 23 (0) 24 := Or.inl ⟨(by decide +kernel), rfl⟩
theorem d_B_init_24 : DP k_B_init 24 0 2 27 .int := ⟨27, (by decide +kernel), p_B_27, rfl, RX0, TX0, 13, rfl, rfl⟩
theorem d_B_init_27 : DlA k_B_init 27 0 28 := Or.inl ⟨0, (by decide +kernel), rfl, rfl⟩
theorem d_B_init_28 : Dc k_B_init 28 (79) 30 := Or.inr (Or.inl ⟨(by decide +kernel), by decide, rfl⟩)
theorem d_B_init_35 : DlA k_B_init 35 0 36 := Or.inl ⟨0, (by decide +kernel), rfl, rfl⟩
theorem d_B_init_36 : Dc k_B_init 36 (79) 38 := Or.inr (Or.inl ⟨(by decide +kernel), by decide, rfl⟩)
theorem d_B_init_43 : DlA k_B_init 43 0 44 := Or.inl ⟨0, (by decide +kernel), rfl, rfl⟩
theorem d_B_init_44 : Dc k_B_init 44 (79) 46 := Or.inr (Or.inl ⟨(by decide +kernel), by decide, rfl⟩)
theorem d_B_init_51 : DlA k_B_init 51 0 52 := Or.inl ⟨0, (by decide +kernel), rfl, rfl⟩
theorem d_B_init_52 : Dc k_B_init 52 (79) 54 := Or.inr (Or.inl ⟨(by decide +kernel), by decide, rfl⟩)
theorem d_B_init_59 : DlA k_B_init 59 0 60 := Or.inl ⟨0, (by decide +kernel), rfl, rfl⟩
theorem d_B_init_60 : Dc k_B_init 60 (79) 62 := Or.inr (Or.inl ⟨(by decide +kernel), by decide, rfl⟩)
theorem d_B_init_67 : DlA k_B_init 67 0 68 := Or.inl ⟨0, (by decide +kernel), rfl, rfl⟩
theorem d_B_init_68 : Dc k_B_init 68 (0) 69 := Or.inl ⟨(by decide +kernel), rfl⟩
theorem d_B_init_69 : DP k_B_init 69 0 8 72 .int := ⟨45, (by decide +kernel), p_B_45, rfl, RX0, TX0, 13, rfl, rfl⟩
theorem d_B_init_72 : DlA k_B_init 72 0 73 := Or.inl ⟨0, (by decide +kernel), rfl, rfl⟩
theorem d_B_init_73 : Dc k_B_init 73 (15) 75 := Or.inr (Or.inl ⟨(by decide +kernel), by decide, rfl⟩)
theorem d_B_init_80 : DlA k_B_init 80 0 81 := Or.inl ⟨0, (by decide +kernel), rfl, rfl⟩
theorem d_B_init_81 : Dc k_B_init 81 (0) 82 := Or.inl ⟨(by decide +kernel), rfl⟩
theorem d_B_init_82 : DP k_B_init 82 0 10 85 .int := ⟨51, (by decide +kernel), p_B_51, rfl, RX0, TX0, 13, rfl, rfl⟩
theorem d_B_init_85 : DlA k_B_init 85 0 86 := Or.inl ⟨0, (by decide +kernel), rfl, rfl⟩
theorem d_B_init_86 : Dc k_B_init 86 (72) 88 := Or.inr (Or.inl ⟨(by decide +kernel), by decide, rfl⟩)
theorem d_B_init_93 : DlA k_B_init 93 0 94 := Or.inl ⟨0, (by decide +kernel), rfl, rfl⟩
theorem d_B_init_94 : Dc k_B_init 94 (180) 97 := Or.inr (Or.inr (Or.inl ⟨(by decide +kernel), by decide, rfl⟩))
theorem d_B_init_102 : DrV k_B_init 102 := ⟨(by decide +kernel), rfl⟩
theorem d_B_become_0 : DlA k_B_become 0 1 1 := Or.inl ⟨1, (by decide +kernel), rfl, rfl⟩
theorem d_B_become_1 : DG k_B_become 1 0 0 4 := ⟨18, (by decide +kernel), f_B_18, rfl⟩
theorem d_B_become_4 : Dc k_B_become 4 (0) 5 := Or.inl ⟨(by decide +kernel), rfl⟩
theorem d_B_become_5 : DlA k_B_become 5 0 6 := Or.inl ⟨0, (by decide +kernel), rfl, rfl⟩
theorem d_B_become_6 : DG k_B_become 6 0 0 9 := ⟨18, (by decide +kernel), f_B_18, rfl⟩
theorem d_B_become_9 : Dc k_B_become 9 (0) 10 := Or.inl ⟨(by decide +kernel), rfl⟩
theorem d_B_become_10 : Dc k_B_become 10 (4) 11 := Or.inl ⟨(by decide +kernel), rfl⟩
theorem d_B_become_11 : DAC k_B_become 11 14 := ⟨60, (by decide +kernel), rfl, tb_at 239 (by decide +kernel) (by decide +kernel), by decide⟩
theorem d_B_become_14 : DlA k_B_become 14 0 15 := Or.inl ⟨0, (by decide +kernel), rfl, rfl⟩
theorem d_B_become_15 : DlA k_B_become 15 1 16 := Or.inl ⟨1, (by decide +kernel), rfl, rfl⟩
theorem d_B_become_16 : DG k_B_become 16 0 1 19 := ⟨23, (by decide +kernel), f_B_23, rfl⟩
theorem d_B_become_19 : DP k_B_become 19 0 1 22 .int := ⟨23, (by decide +kernel), p_B_23, rfl, RX0, TX0, 13, rfl, rfl⟩
theorem d_B_become_22 : DlA k_B_become 22 0 23 := Or.inl ⟨0, (by decide +kernel), rfl, rfl⟩
theorem d_B_become_23 : DlA k_B_become 23 1 24 := Or.inl ⟨1, (by decide +kernel), rfl, rfl⟩
theorem d_B_become_24 : DG k_B_become 24 0 2 27 := ⟨27, (by decide +kernel), f_B_27, rfl⟩
theorem d_B_become_27 : DP k_B_become 27 0 2 30 .int := ⟨27, (by decide +kernel), p_B_27, rfl, RX0, TX0, 13, rfl, rfl⟩
theorem d_B_become_30 : DlA k_B_become 30 1 31 := Or.inl ⟨1, (by decide +kernel), rfl, rfl⟩
theorem d_B_become_31 : DG k_B_become 31 0 3 34 := ⟨30, (by decide +kernel), f_B_30, rfl⟩
theorem d_B_become_34 : Dc k_B_become 34 (0) 35 := Or.inl ⟨(by decide +kernel), rfl⟩
theorem d_B_become_35 : DlA k_B_become 35 0 36 := Or.inl ⟨0, (by decide +kernel), rfl, rfl⟩
theorem d_B_become_36 : DG k_B_become 36 0 3 39 := ⟨30, (by decide +kernel), f_B_30, rfl⟩
theorem d_B_become_39 : Dc k_B_become 39 (0) 40 := Or.inl ⟨(by decide +kernel), rfl⟩
theorem d_B_become_40 : DlA k_B_become 40 0 41 := Or.inl ⟨0, (by decide +kernel), rfl, rfl⟩
theorem d_B_become_41 : DG k_B_become 41 0 2 44 := ⟨27, (by decide +kernel), f_B_27, rfl⟩
theorem d_B_become_44 : DAC k_B_become 44 47 := ⟨60, (by decide +kernel), rfl, tb_at 239 (by decide +kernel) (by decide +kernel), by decide⟩
theorem d_B_become_47 : DlA k_B_become 47 1 48 := Or.inl ⟨1, (by decide +kernel), rfl, rfl⟩
theorem d_B_become_48 : DG k_B_become 48 0 4 51 := ⟨33, (by decide +kernel), f_B_33, rfl⟩
theorem d_B_become_51 : Dc k_B_become 51 (0) 52 := Or.inl ⟨(by decide +kernel), rfl⟩
theorem d_B_become_52 : DlA k_B_become 52 0 53 := Or.inl ⟨0, (by decide +kernel), rfl, rfl⟩
theorem d_B_become_53 : DG k_B_become 53 0 4 56 := ⟨33, (by decide +kernel), f_B_33, rfl⟩
theorem d_B_become_56 : Dc k_B_become 56 (0) 57 := Or.inl ⟨(by decide +kernel), rfl⟩
theorem d_B_become_57 : DlA k_B_become 57 0 58 := Or.inl ⟨0, (by decide +kernel), rfl, rfl⟩
theorem d_B_become_58 : DG k_B_become 58 0 2 61 := ⟨27, (by decide +kernel), f_B_27, rfl⟩
theorem d_B_become_61 : DAC k_B_become 61 64 := ⟨60, (by decide +kernel), rfl, tb_at 239 (by decide +kernel) (by decide +kernel), by decide⟩
theorem d_B_become_64 : DlA k_B_become 64 1 65 := Or.inl ⟨1, (by decide +kernel), rfl, rfl⟩
theorem d_B_become_65 : DG k_B_become 65 0 5 68 := ⟨36, (by decide +kernel), f_B_36, rfl⟩
theorem d_B_become_68 : Dc k_B_become 68 (0) 69 := Or.inl ⟨(by decide +kernel), rfl⟩
theorem d_B_become_69 : DlA k_B_become 69 0 70 := Or.inl ⟨0, (by decide +kernel), rfl, rfl⟩
theorem d_B_become_70 : DG k_B_become 70 0 5 73 := ⟨36, (by decide +kernel), f_B_36, rfl⟩
theorem d_B_become_73 : Dc k_B_become 73 (0) 74 := Or.inl ⟨(by decide +kernel), rfl⟩
theorem d_B_become_74 : DlA k_B_become 74 0 75 := Or.inl ⟨0, (by decide +kernel), rfl, rfl⟩
theorem d_B_become_75 : DG k_B_become 75 0 2 78 := ⟨27, (by decide +kernel), f_B_27, rfl⟩
theorem d_B_become_78 : DAC k_B_become 78 81 := ⟨60, (by decide +kernel), rfl, tb_at 239 (by decide +kernel) (by decide +kernel), by decide⟩
theorem d_B_become_81 : DlA k_B_become 81 1 82 := Or.inl ⟨1, (by decide +kernel), rfl, rfl⟩
theorem d_B_become_82 : DG k_B_become 82 0 6 85 := ⟨39, (by decide +kernel), f_B_39, rfl⟩
theorem d_B_become_85 : Dc k_B_become 85 (0) 86 := Or.inl ⟨(by decide +kernel), rfl⟩
theorem d_B_become_86 : DlA k_B_become 86 0 87 := Or.inl ⟨0, (by decide +kernel), rfl, rfl⟩
theorem d_B_become_87 : DG k_B_become 87 0 6 90 := ⟨39, (by decide +kernel), f_B_39, rfl⟩
theorem d_B_become_90 : Dc k_B_become 90 (0) 91 := Or.inl ⟨(by decide +kernel), rfl⟩
theorem d_B_become_91 : DlA k_B_become 91 0 92 := Or.inl ⟨0, (by decide +kernel), rfl, rfl⟩
theorem d_B_become_92 : DG k_B_become 92 0 2 95 := ⟨27, (by decide +kernel), f_B_27, rfl⟩
theorem d_B_become_95 : DAC k_B_become 95 98 := ⟨60, (by decide +kernel), rfl, tb_at 239 (by decide +kernel) (by decide +kernel), by decide⟩
theorem d_B_become_98 : DlA k_B_become 98 1 99 := Or.inl ⟨1, (by decide +kernel), rfl, rfl⟩
theorem d_B_become_99 : DG k_B_become 99 0 7 102 := ⟨42, (by decide +kernel), f_B_42, rfl⟩
theorem d_B_become_102 : Dc k_B_become 102 (0) 103 := Or.inl ⟨(by decide +kernel), rfl⟩
theorem d_B_become_103 : DlA k_B_become 103 0 104 := Or.inl ⟨0, (by decide +kernel), rfl, rfl⟩
theorem d_B_become_104 : DG k_B_become 104 0 7 107 := ⟨42, (by decide +kernel), f_B_42, rfl⟩
theorem d_B_become_107 : Dc k_B_become 107 (0) 108 := Or.inl ⟨(by decide +kernel), rfl⟩
theorem d_B_become_108 : DlA k_B_become 108 0 109 := Or.inl ⟨0, (by decide +kernel), rfl, rfl⟩
theorem d_B_become_109 : DG k_B_become 109 0 2 112 := ⟨27, (by decide +kernel), f_B_27, rfl⟩
theorem d_B_become_112 : DAC k_B_become 112 115 := ⟨60, (by decide +kernel), rfl, tb_at 239 (by decide +kernel) (by decide +kernel), by decide⟩
theorem d_B_become_115 : DlA k_B_become 115 0 116 := Or.inl ⟨0, (by decide +kernel), rfl, rfl⟩
theorem d_B_become_116 : DlA k_B_become 116 1 117 := Or.inl ⟨1, (by decide +kernel), rfl, rfl⟩
theorem d_B_become_117 : DG k_B_become 117 0 8 120 := ⟨45, (by decide +kernel), f_B_45, rfl⟩
theorem d_B_become_120 : DP k_B_become 120 0 8 123 .int := ⟨45, (by decide +kernel), p_B_45, rfl, RX0, TX0, 13, rfl, rfl⟩
theorem d_B_become_123 : DlA k_B_become 123 1 124 := Or.inl ⟨1, (by decide +kernel), rfl, rfl⟩
theorem d_B_become_124 : DG k_B_become 124 0 9 127 := ⟨48, (by decide +kernel), f_B_48, rfl⟩
theorem d_B_become_127 : Dc k_B_become 127 (0) 128 := Or.inl ⟨(by decide +kernel), rfl⟩
theorem d_B_become_128 : DlA k_B_become 128 0 129 := Or.inl ⟨0, (by decide +kernel), rfl, rfl⟩
theorem d_B_become_129 : DG k_B_become 129 0 9 132 := ⟨48, (by decide +kernel), f_B_48, rfl⟩
theorem d_B_become_132 : Dc k_B_become 132 (0) 133 := Or.inl ⟨(by decide +kernel), rfl⟩
theorem d_B_become_133 : DlA k_B_become 133 0 134 := Or.inl ⟨0, (by decide +kernel), rfl, rfl⟩
theorem d_B_become_134 : DG k_B_become 134 0 8 137 := ⟨45, (by decide +kernel), f_B_45, rfl⟩
theorem d_B_become_137 : DAC k_B_become 137 140 := ⟨60, (by decide +kernel), rfl, tb_at 239 (by decide +kernel) (by decide +kernel), by decide⟩
theorem d_B_become_140 : DlA k_B_become 140 0 141 := Or.inl ⟨0, (by decide +kernel), rfl, rfl⟩
theorem d_B_become_141 : DlA k_B_become 141 1 142 := Or.inl ⟨1, (by decide +kernel), rfl, rfl⟩
theorem d_B_become_142 : DG k_B_become 142 0 10 145 := ⟨51, (by decide +kernel), f_B_51, rfl⟩
theorem d_B_become_145 : DP k_B_become 145 0 10 148 .int := ⟨51, (by decide +kernel), p_B_51, rfl, RX0, TX0, 13, rfl, rfl⟩
theorem d_B_become_148 : DlA k_B_become 148 1 149 := Or.inl ⟨1, (by decide +kernel), rfl, rfl⟩
theorem d_B_become_149 : DG k_B_become 149 0 11 152 := ⟨54, (by decide +kernel), f_B_54, rfl⟩
theorem d_B_become_152 : Dc k_B_become 152 (0) 153 := Or.inl ⟨(by decide +kernel), rfl⟩
theorem d_B_become_153 : DlA k_B_become 153 0 154 := Or.inl ⟨0, (by decide +kernel), rfl, rfl⟩
theorem d_B_become_154 : DG k_B_become 154 0 11 157 := ⟨54, (by decide +kernel), f_B_54, rfl⟩
theorem d_B_become_157 : Dc k_B_become 157 (0) 158 := Or.inl ⟨(by decide +kernel), rfl⟩
theorem d_B_become_158 : DlA k_B_become 158 0 159 := Or.inl ⟨0, (by decide +kernel), rfl, rfl⟩
theorem d_B_become_159 : DG k_B_become 159 0 10 162 := ⟨51, (by decide +kernel), f_B_51, rfl⟩
theorem d_B_become_162 : Dc k_B_become 162 (6) 164 := Or.inr (Or.inl ⟨(by decide +kernel), by decide, rfl⟩)
theorem d_B_become_164 : Dk k_B_become 164 .imul 1 165 := ⟨(by decide +kernel), rfl⟩
theorem d_B_become_165 : DAC k_B_become 165 168 := ⟨60, (by decide +kernel), rfl, tb_at 239 (by decide +kernel) (by decide +kernel), by decide⟩
theorem d_B_become_168 : DlA k_B_become 168 1 169 := Or.inl ⟨1, (by decide +kernel), rfl, rfl⟩
theorem d_B_become_169 : DG k_B_become 169 0 12 172 := ⟨57, (by decide +kernel), f_B_57, rfl⟩
theorem d_B_become_172 : Dc k_B_become 172 (0) 173 := Or.inl ⟨(by decide +kernel), rfl⟩
theorem d_B_become_173 : DlA k_B_become 173 0 174 := Or.inl ⟨0, (by decide +kernel), rfl, rfl⟩
theorem d_B_become_174 : DG k_B_become 174 0 12 177 := ⟨57, (by decide +kernel), f_B_57, rfl⟩
theorem d_B_become_177 : Dc k_B_become 177 (0) 178 := Or.inl ⟨(by decide +kernel), rfl⟩
theorem d_B_become_178 : DlA k_B_become 178 0 179 := Or.inl ⟨0, (by decide +kernel), rfl, rfl⟩
theorem d_B_become_179 : DG k_B_become 179 0 10 182 := ⟨51, (by decide +kernel), f_B_51, rfl⟩
theorem d_B_become_182 : Dc k_B_become 182 (15) 184 := Or.inr (Or.inl ⟨(by decide +kernel), by decide, rfl⟩)
theorem d_B_become_184 : Dk k_B_become 184 .imul 1 185 := ⟨(by decide +kernel), rfl⟩
theorem d_B_become_185 : DAC k_B_become 185 188 := ⟨60, (by decide +kernel), rfl, tb_at 239 (by decide +kernel) (by decide +kernel), by decide⟩
theorem d_B_become_188 : DrV k_B_become 188 := ⟨(by decide +kernel), rfl⟩
theorem d_B_clear_0 : DlA k_B_clear 0 0 1 := Or.inl ⟨0, (by decide +kernel), rfl, rfl⟩
theorem d_B_clear_1 : Dc k_B_clear 1 (0) 2 := Or.inl ⟨(by decide +kernel), rfl⟩
theorem d_B_clear_2 : DP k_B_clear 2 0 2 5 .int := ⟨27, (by decide +kernel), p_B_27, rfl, RX0, TX0, 13, rfl, rfl⟩
theorem d_B_clear_5 : DlA k_B_clear 5 0 6 := Or.inl ⟨0, (by decide +kernel), rfl, rfl⟩
theorem d_B_clear_6 : Dc k_B_clear 6 (0) 7 := Or.inl ⟨(by decide +kernel), rfl⟩
theorem d_B_clear_7 : DP k_B_clear 7 0 8 10 .int := ⟨45, (by decide +kernel), p_B_45, rfl, RX0, TX0, 13, rfl, rfl⟩
theorem d_B_clear_10 : DlA k_B_clear 10 0 11 := Or.inl ⟨0, (by decide +kernel), rfl, rfl⟩
theorem d_B_clear_11 : Dc k_B_clear 11 (0) 12 := Or.inl ⟨(by decide +kernel), rfl⟩
theorem d_B_clear_12 : DP k_B_clear 12 0 10 15 .int := ⟨51, (by decide +kernel), p_B_51, rfl, RX0, TX0, 13, rfl, rfl⟩
theorem d_B_clear_15 : DrV k_B_clear 15 := ⟨(by decide +kernel), rfl⟩
theorem d_B_isFull_0 : DlA k_B_isFull 0 0 1 := Or.inl ⟨0, (by decide +kernel), rfl, rfl⟩
theorem d_B_isFull_1 : DG k_B_isFull 1 0 2 4 := ⟨27, (by decide +kernel), f_B_27, rfl⟩
theorem d_B_isFull_4 : Dc k_B_isFull 4 (76) 6 := Or.inr (Or.inl ⟨(by decide +kernel), by decide, rfl⟩)
theorem d_B_isFull_6 : Db k_B_isFull 6 (.if_icmp .ge) 9 18 := ⟨12, (by decide +kernel), rfl, by decide⟩
theorem d_B_isFull_9 : DlA k_B_isFull 9 0 10 := Or.inl ⟨0, (by decide +kernel), rfl, rfl⟩
theorem d_B_isFull_10 : DG k_B_isFull 10 0 10 13 := ⟨51, (by decide +kernel), f_B_51, rfl⟩
theorem d_B_isFull_13 : Dc k_B_isFull 13 (12) 15 := Or.inr (Or.inl ⟨(by decide +kernel), by decide, rfl⟩)
theorem d_B_isFull_15 : Db k_B_isFull 15 (.if_icmp .lt) 18 22 := ⟨7, (by decide +kernel), rfl, by decide⟩
theorem d_B_isFull_18 : Dc k_B_isFull 18 (1) 19 := Or.inl ⟨(by decide +kernel), rfl⟩
theorem d_B_isFull_19 : Db k_B_isFull 19 .goto 22 23 := ⟨4, (by decide +kernel), rfl, by decide⟩
theorem d_B_isFull_22 : Dc k_B_isFull 22 (0) 23 := Or.inl ⟨(by decide +kernel), rfl⟩
theorem d_B_isFull_23 : DrZ k_B_isFull 23 := ⟨(by decide +kernel), rfl⟩
theorem d_B_takesLetter_0 : DlA k_B_takesLetter 0 0 1 := Or.inl ⟨0, (by decide +kernel), rfl, rfl⟩
theorem d_B_takesLetter_1 : DCV k_B_takesLetter 1 k_B_isFull 0 0 4 := ⟨66, (by decide +kernel), rfl, tb_at 227 (by decide +kernel) (by decide +kernel), m_B_isFull, iv_B_isFull.1, iv_B_isFull.2, ⟨(RX0, TX0, 13), rfl, rfl⟩, by decide +kernel, by decide⟩
theorem d_B_takesLetter_4 : Db k_B_takesLetter 4 (.ifCond .ne) 7 20 := ⟨16, (by decide +kernel), rfl, by decide⟩
theorem d_B_takesLetter_7 : DlA k_B_takesLetter 7 0 8 := Or.inl ⟨0, (by decide +kernel), rfl, rfl⟩
theorem d_B_takesLetter_8 : DG k_B_takesLetter 8 0 8 11 := ⟨45, (by decide +kernel), f_B_45, rfl⟩
theorem d_B_takesLetter_11 : Dc k_B_takesLetter 11 (12) 13 := Or.inr (Or.inl ⟨(by decide +kernel), by decide, rfl⟩)
theorem d_B_takesLetter_13 : Db k_B_takesLetter 13 (.if_icmp .ge) 16 20 := ⟨7, (by decide +kernel), rfl, by decide⟩
theorem d_B_takesLetter_16 : Dc k_B_takesLetter 16 (1) 17 := Or.inl ⟨(by decide +kernel), rfl⟩
theorem d_B_takesLetter_17 : Db k_B_takesLetter 17 .goto 20 21 := ⟨4, (by decide +kernel), rfl, by decide⟩
theorem d_B_takesLetter_20 : Dc k_B_takesLetter 20 (0) 21 := Or.inl ⟨(by decide +kernel), rfl⟩
theorem d_B_takesLetter_21 : DrZ k_B_takesLetter 21 := ⟨(by decide +kernel), rfl⟩
theorem d_B_hasLetter_0 : DlI k_B_hasLetter 0 1 1 := Or.inl ⟨1, (by decide +kernel), rfl, rfl⟩
theorem d_B_hasLetter_1 : Db k_B_hasLetter 1 (.ifCond .lt) 4 22 := ⟨21, (by decide +kernel), rfl, by decide⟩
theorem d_B_hasLetter_4 : DlI k_B_hasLetter 4 1 5 := Or.inl ⟨1, (by decide +kernel), rfl, rfl⟩
theorem d_B_hasLetter_5 : DlA k_B_hasLetter 5 0 6 := Or.inl ⟨0, (by decide +kernel), rfl, rfl⟩
theorem d_B_hasLetter_6 : DG k_B_hasLetter 6 0 2 9 := ⟨27, (by decide +kernel), f_B_27, rfl⟩
theorem d_B_hasLetter_9 : Db k_B_hasLetter 9 (.if_icmp .ge) 12 22 := ⟨13, (by decide +kernel), rfl, by decide⟩
theorem d_B_hasLetter_12 : DlI k_B_hasLetter 12 1 13 := Or.inl ⟨1, (by decide +kernel), rfl, rfl⟩
theorem d_B_hasLetter_13 : Dc k_B_hasLetter 13 (79) 15 := Or.inr (Or.inl ⟨(by decide +kernel), by decide, rfl⟩)
theorem d_B_hasLetter_15 : Db k_B_hasLetter 15 (.if_icmp .ge) 18 22 := ⟨7, (by decide +kernel), rfl, by decide⟩
theorem d_B_hasLetter_18 : Dc k_B_hasLetter 18 (1) 19 := Or.inl ⟨(by decide +kernel), rfl⟩
theorem d_B_hasLetter_19 : Db k_B_hasLetter 19 .goto 22 23 := ⟨4, (by decide +kernel), rfl, by decide⟩
theorem d_B_hasLetter_22 : Dc k_B_hasLetter 22 (0) 23 := Or.inl ⟨(by decide +kernel), rfl⟩
theorem d_B_hasLetter_23 : DrZ k_B_hasLetter 23 := ⟨(by decide +kernel), rfl⟩
theorem d_B_hasRound_0 : DlI k_B_hasRound 0 1 1 := Or.inl ⟨1, (by decide +kernel), rfl, rfl⟩
theorem d_B_hasRound_1 : Db k_B_hasRound 1 (.ifCond .lt) 4 22 := ⟨21, (by decide +kernel), rfl, by decide⟩
theorem d_B_hasRound_4 : DlI k_B_hasRound 4 1 5 := Or.inl ⟨1, (by decide +kernel), rfl, rfl⟩
theorem d_B_hasRound_5 : DlA k_B_hasRound 5 0 6 := Or.inl ⟨0, (by decide +kernel), rfl, rfl⟩
theorem d_B_hasRound_6 : DG k_B_hasRound 6 0 10 9 := ⟨51, (by decide +kernel), f_B_51, rfl⟩
theorem d_B_hasRound_9 : Db k_B_hasRound 9 (.if_icmp .ge) 12 22 := ⟨13, (by decide +kernel), rfl, by decide⟩
theorem d_B_hasRound_12 : DlI k_B_hasRound 12 1 13 := Or.inl ⟨1, (by decide +kernel), rfl, rfl⟩
theorem d_B_hasRound_13 : Dc k_B_hasRound 13 (12) 15 := Or.inr (Or.inl ⟨(by decide +kernel), by decide, rfl⟩)
theorem d_B_hasRound_15 : Db k_B_hasRound 15 (.if_icmp .ge) 18 22 := ⟨7, (by decide +kernel), rfl, by decide⟩
theorem d_B_hasRound_18 : Dc k_B_hasRound 18 (1) 19 := Or.inl ⟨(by decide +kernel), rfl⟩
theorem d_B_hasRound_19 : Db k_B_hasRound 19 .goto 22 23 := ⟨4, (by decide +kernel), rfl, by decide⟩
theorem d_B_hasRound_22 : Dc k_B_hasRound 22 (0) 23 := Or.inl ⟨(by decide +kernel), rfl⟩
theorem d_B_hasRound_23 : DrZ k_B_hasRound 23 := ⟨(by decide +kernel), rfl⟩
theorem d_B_hasOut_0 : DlA k_B_hasOut 0 0 1 := Or.inl ⟨0, (by decide +kernel), rfl, rfl⟩
theorem d_B_hasOut_1 : DlI k_B_hasOut 1 1 2 := Or.inl ⟨1, (by decide +kernel), rfl, rfl⟩
theorem d_B_hasOut_2 : DCV k_B_hasOut 2 k_B_hasRound 0 1 5 := ⟨70, (by decide +kernel), rfl, tb_at 333 (by decide +kernel) (by decide +kernel), m_B_hasRound, iv_B_hasRound.1, iv_B_hasRound.2, ⟨(RX0, TX0, 13), rfl, rfl⟩, by decide +kernel, by decide⟩
theorem d_B_hasOut_5 : Db k_B_hasOut 5 (.ifCond .eq) 8 32 := ⟨27, (by decide +kernel), rfl, by decide⟩
theorem d_B_hasOut_8 : DlI k_B_hasOut 8 2 9 := Or.inl ⟨2, (by decide +kernel), rfl, rfl⟩
theorem d_B_hasOut_9 : Db k_B_hasOut 9 (.ifCond .lt) 12 32 := ⟨23, (by decide +kernel), rfl, by decide⟩
theorem d_B_hasOut_12 : DlI k_B_hasOut 12 2 13 := Or.inl ⟨2, (by decide +kernel), rfl, rfl⟩
theorem d_B_hasOut_13 : Dc k_B_hasOut 13 (15) 15 := Or.inr (Or.inl ⟨(by decide +kernel), by decide, rfl⟩)
theorem d_B_hasOut_15 : Db k_B_hasOut 15 (.if_icmp .ge) 18 32 := ⟨17, (by decide +kernel), rfl, by decide⟩
theorem d_B_hasOut_18 : DlI k_B_hasOut 18 2 19 := Or.inl ⟨2, (by decide +kernel), rfl, rfl⟩
theorem d_B_hasOut_19 : DlA k_B_hasOut 19 0 20 := Or.inl ⟨0, (by decide +kernel), rfl, rfl⟩
theorem d_B_hasOut_20 : DlI k_B_hasOut 20 1 21 := Or.inl ⟨1, (by decide +kernel), rfl, rfl⟩
theorem d_B_hasOut_21 : Dc k_B_hasOut 21 (1) 22 := Or.inl ⟨(by decide +kernel), rfl⟩
theorem d_B_hasOut_22 : DCV k_B_hasOut 22 k_B_fact 0 2 25 := ⟨74, (by decide +kernel), rfl, tb_at 343 (by decide +kernel) (by decide +kernel), m_B_fact, iv_B_fact.1, iv_B_fact.2, ⟨(RX0, TX0, 13), rfl, rfl⟩, by decide +kernel, by decide⟩
theorem d_B_hasOut_25 : Db k_B_hasOut 25 (.if_icmp .ge) 28 32 := ⟨7, (by decide +kernel), rfl, by decide⟩
theorem d_B_hasOut_28 : Dc k_B_hasOut 28 (1) 29 := Or.inl ⟨(by decide +kernel), rfl⟩
theorem d_B_hasOut_29 : Db k_B_hasOut 29 .goto 32 33 := ⟨4, (by decide +kernel), rfl, by decide⟩
theorem d_B_hasOut_32 : Dc k_B_hasOut 32 (0) 33 := Or.inl ⟨(by decide +kernel), rfl⟩
theorem d_B_hasOut_33 : DrZ k_B_hasOut 33 := ⟨(by decide +kernel), rfl⟩
theorem d_B_fact_0 : DlA k_B_fact 0 0 1 := Or.inl ⟨0, (by decide +kernel), rfl, rfl⟩
theorem d_B_fact_1 : DlI k_B_fact 1 1 2 := Or.inl ⟨1, (by decide +kernel), rfl, rfl⟩
theorem d_B_fact_2 : DCV k_B_fact 2 k_B_hasRound 0 1 5 := ⟨70, (by decide +kernel), rfl, tb_at 333 (by decide +kernel) (by decide +kernel), m_B_hasRound, iv_B_hasRound.1, iv_B_hasRound.2, ⟨(RX0, TX0, 13), rfl, rfl⟩, by decide +kernel, by decide⟩
theorem d_B_fact_5 : Db k_B_fact 5 (.ifCond .eq) 8 31 := ⟨26, (by decide +kernel), rfl, by decide⟩
theorem d_B_fact_8 : DlI k_B_fact 8 2 9 := Or.inl ⟨2, (by decide +kernel), rfl, rfl⟩
theorem d_B_fact_9 : Dc k_B_fact 9 (0) 10 := Or.inl ⟨(by decide +kernel), rfl⟩
theorem d_B_fact_10 : Dc k_B_fact 10 (5) 11 := Or.inl ⟨(by decide +kernel), rfl⟩
theorem d_B_fact_11 : DCS k_B_fact 11 k_X_within 3 14 := ⟨78, (by decide +kernel), rfl, Or.inr ⟨"MixRounds", by decide⟩, m_X_within, is_X_within, by decide +kernel, by decide⟩
theorem d_B_fact_14 : Db k_B_fact 14 (.ifCond .eq) 17 31 := ⟨17, (by decide +kernel), rfl, by decide⟩
theorem d_B_fact_17 : DlA k_B_fact 17 0 18 := Or.inl ⟨0, (by decide +kernel), rfl, rfl⟩
theorem d_B_fact_18 : DG k_B_fact 18 0 11 21 := ⟨54, (by decide +kernel), f_B_54, rfl⟩
theorem d_B_fact_21 : DlI k_B_fact 21 1 22 := Or.inl ⟨1, (by decide +kernel), rfl, rfl⟩
theorem d_B_fact_22 : Dc k_B_fact 22 (6) 24 := Or.inr (Or.inl ⟨(by decide +kernel), by decide, rfl⟩)
theorem d_B_fact_24 : Dk k_B_fact 24 .imul 1 25 := ⟨(by decide +kernel), rfl⟩
theorem d_B_fact_25 : DlI k_B_fact 25 2 26 := Or.inl ⟨2, (by decide +kernel), rfl, rfl⟩
theorem d_B_fact_26 : Dk k_B_fact 26 .iadd 1 27 := ⟨(by decide +kernel), rfl⟩
theorem d_B_fact_27 : Dk k_B_fact 27 .iaload 1 28 := ⟨(by decide +kernel), rfl⟩
theorem d_B_fact_28 : Db k_B_fact 28 .goto 31 32 := ⟨4, (by decide +kernel), rfl, by decide⟩
theorem d_B_fact_31 : Dc k_B_fact 31 (0) 32 := Or.inl ⟨(by decide +kernel), rfl⟩
theorem d_B_fact_32 : DrI k_B_fact 32 := ⟨(by decide +kernel), rfl⟩
theorem d_B_outLetter_0 : DlA k_B_outLetter 0 0 1 := Or.inl ⟨0, (by decide +kernel), rfl, rfl⟩
theorem d_B_outLetter_1 : DlI k_B_outLetter 1 1 2 := Or.inl ⟨1, (by decide +kernel), rfl, rfl⟩
theorem d_B_outLetter_2 : DlI k_B_outLetter 2 2 3 := Or.inl ⟨2, (by decide +kernel), rfl, rfl⟩
theorem d_B_outLetter_3 : DCV k_B_outLetter 3 k_B_hasOut 0 2 6 := ⟨82, (by decide +kernel), rfl, tb_at 348 (by decide +kernel) (by decide +kernel), m_B_hasOut, iv_B_hasOut.1, iv_B_hasOut.2, ⟨(RX0, TX0, 13), rfl, rfl⟩, by decide +kernel, by decide⟩
theorem d_B_outLetter_6 : Db k_B_outLetter 6 (.ifCond .eq) 9 23 := ⟨17, (by decide +kernel), rfl, by decide⟩
theorem d_B_outLetter_9 : DlA k_B_outLetter 9 0 10 := Or.inl ⟨0, (by decide +kernel), rfl, rfl⟩
theorem d_B_outLetter_10 : DG k_B_outLetter 10 0 12 13 := ⟨57, (by decide +kernel), f_B_57, rfl⟩
theorem d_B_outLetter_13 : DlI k_B_outLetter 13 1 14 := Or.inl ⟨1, (by decide +kernel), rfl, rfl⟩
theorem d_B_outLetter_14 : Dc k_B_outLetter 14 (15) 16 := Or.inr (Or.inl ⟨(by decide +kernel), by decide, rfl⟩)
theorem d_B_outLetter_16 : Dk k_B_outLetter 16 .imul 1 17 := ⟨(by decide +kernel), rfl⟩
theorem d_B_outLetter_17 : DlI k_B_outLetter 17 2 18 := Or.inl ⟨2, (by decide +kernel), rfl, rfl⟩
theorem d_B_outLetter_18 : Dk k_B_outLetter 18 .iadd 1 19 := ⟨(by decide +kernel), rfl⟩
theorem d_B_outLetter_19 : Dk k_B_outLetter 19 .iaload 1 20 := ⟨(by decide +kernel), rfl⟩
theorem d_B_outLetter_20 : Db k_B_outLetter 20 .goto 23 25 := ⟨5, (by decide +kernel), rfl, by decide⟩
theorem d_B_outLetter_23 : Dc k_B_outLetter 23 (-4) 25 := Or.inr (Or.inl ⟨(by decide +kernel), by decide, rfl⟩)
theorem d_B_outLetter_25 : DrI k_B_outLetter 25 := ⟨(by decide +kernel), rfl⟩
theorem d_B_isOwnOut_0 : DlA k_B_isOwnOut 0 0 1 := Or.inl ⟨0, (by decide +kernel), rfl, rfl⟩
theorem d_B_isOwnOut_1 : DlA k_B_isOwnOut 1 0 2 := Or.inl ⟨0, (by decide +kernel), rfl, rfl⟩
theorem d_B_isOwnOut_2 : DlI k_B_isOwnOut 2 1 3 := Or.inl ⟨1, (by decide +kernel), rfl, rfl⟩
theorem d_B_isOwnOut_3 : DlI k_B_isOwnOut 3 2 4 := Or.inl ⟨2, (by decide +kernel), rfl, rfl⟩
theorem d_B_isOwnOut_4 : DCV k_B_isOwnOut 4 k_B_outLetter 0 2 7 := ⟨86, (by decide +kernel), rfl, tb_at 356 (by decide +kernel) (by decide +kernel), m_B_outLetter, iv_B_outLetter.1, iv_B_outLetter.2, ⟨(RX0, TX0, 13), rfl, rfl⟩, by decide +kernel, by decide⟩
theorem d_B_isOwnOut_7 : DCV k_B_isOwnOut 7 k_B_senderOf 0 1 10 := ⟨89, (by decide +kernel), rfl, tb_at 357 (by decide +kernel) (by decide +kernel), m_B_senderOf, iv_B_senderOf.1, iv_B_senderOf.2, ⟨(RX0, TX0, 13), rfl, rfl⟩, by decide +kernel, by decide⟩
theorem d_B_isOwnOut_10 : Dc k_B_isOwnOut 10 (9) 12 := Or.inr (Or.inl ⟨(by decide +kernel), by decide, rfl⟩)
theorem d_B_isOwnOut_12 : Db k_B_isOwnOut 12 (.if_icmp .ne) 15 19 := ⟨7, (by decide +kernel), rfl, by decide⟩
theorem d_B_isOwnOut_15 : Dc k_B_isOwnOut 15 (1) 16 := Or.inl ⟨(by decide +kernel), rfl⟩
theorem d_B_isOwnOut_16 : Db k_B_isOwnOut 16 .goto 19 20 := ⟨4, (by decide +kernel), rfl, by decide⟩
theorem d_B_isOwnOut_19 : Dc k_B_isOwnOut 19 (0) 20 := Or.inl ⟨(by decide +kernel), rfl⟩
theorem d_B_isOwnOut_20 : DrZ k_B_isOwnOut 20 := ⟨(by decide +kernel), rfl⟩
theorem d_B_senderOf_0 : DlA k_B_senderOf 0 0 1 := Or.inl ⟨0, (by decide +kernel), rfl, rfl⟩
theorem d_B_senderOf_1 : DlI k_B_senderOf 1 1 2 := Or.inl ⟨1, (by decide +kernel), rfl, rfl⟩
theorem d_B_senderOf_2 : DCV k_B_senderOf 2 k_B_hasLetter 0 1 5 := ⟨93, (by decide +kernel), rfl, tb_at 267 (by decide +kernel) (by decide +kernel), m_B_hasLetter, iv_B_hasLetter.1, iv_B_hasLetter.2, ⟨(RX0, TX0, 13), rfl, rfl⟩, by decide +kernel, by decide⟩
theorem d_B_senderOf_5 : Db k_B_senderOf 5 (.ifCond .eq) 8 17 := ⟨12, (by decide +kernel), rfl, by decide⟩
theorem d_B_senderOf_8 : DlA k_B_senderOf 8 0 9 := Or.inl ⟨0, (by decide +kernel), rfl, rfl⟩
theorem d_B_senderOf_9 : DG k_B_senderOf 9 0 3 12 := ⟨30, (by decide +kernel), f_B_30, rfl⟩
theorem d_B_senderOf_12 : DlI k_B_senderOf 12 1 13 := Or.inl ⟨1, (by decide +kernel), rfl, rfl⟩
theorem d_B_senderOf_13 : Dk k_B_senderOf 13 .iaload 1 14 := ⟨(by decide +kernel), rfl⟩
theorem d_B_senderOf_14 : Db k_B_senderOf 14 .goto 17 19 := ⟨5, (by decide +kernel), rfl, by decide⟩
theorem d_B_senderOf_17 : Dc k_B_senderOf 17 (-4) 19 := Or.inr (Or.inl ⟨(by decide +kernel), by decide, rfl⟩)
theorem d_B_senderOf_19 : DrI k_B_senderOf 19 := ⟨(by decide +kernel), rfl⟩
theorem d_B_receiverOf_0 : DlA k_B_receiverOf 0 0 1 := Or.inl ⟨0, (by decide +kernel), rfl, rfl⟩
theorem d_B_receiverOf_1 : DlI k_B_receiverOf 1 1 2 := Or.inl ⟨1, (by decide +kernel), rfl, rfl⟩
theorem d_B_receiverOf_2 : DCV k_B_receiverOf 2 k_B_hasLetter 0 1 5 := ⟨93, (by decide +kernel), rfl, tb_at 267 (by decide +kernel) (by decide +kernel), m_B_hasLetter, iv_B_hasLetter.1, iv_B_hasLetter.2, ⟨(RX0, TX0, 13), rfl, rfl⟩, by decide +kernel, by decide⟩
theorem d_B_receiverOf_5 : Db k_B_receiverOf 5 (.ifCond .eq) 8 17 := ⟨12, (by decide +kernel), rfl, by decide⟩
theorem d_B_receiverOf_8 : DlA k_B_receiverOf 8 0 9 := Or.inl ⟨0, (by decide +kernel), rfl, rfl⟩
theorem d_B_receiverOf_9 : DG k_B_receiverOf 9 0 4 12 := ⟨33, (by decide +kernel), f_B_33, rfl⟩
theorem d_B_receiverOf_12 : DlI k_B_receiverOf 12 1 13 := Or.inl ⟨1, (by decide +kernel), rfl, rfl⟩
theorem d_B_receiverOf_13 : Dk k_B_receiverOf 13 .iaload 1 14 := ⟨(by decide +kernel), rfl⟩
theorem d_B_receiverOf_14 : Db k_B_receiverOf 14 .goto 17 19 := ⟨5, (by decide +kernel), rfl, by decide⟩
theorem d_B_receiverOf_17 : Dc k_B_receiverOf 17 (-4) 19 := Or.inr (Or.inl ⟨(by decide +kernel), by decide, rfl⟩)
theorem d_B_receiverOf_19 : DrI k_B_receiverOf 19 := ⟨(by decide +kernel), rfl⟩
theorem d_B_firstOf_0 : DlA k_B_firstOf 0 0 1 := Or.inl ⟨0, (by decide +kernel), rfl, rfl⟩
theorem d_B_firstOf_1 : DlI k_B_firstOf 1 1 2 := Or.inl ⟨1, (by decide +kernel), rfl, rfl⟩
theorem d_B_firstOf_2 : DCV k_B_firstOf 2 k_B_hasLetter 0 1 5 := ⟨93, (by decide +kernel), rfl, tb_at 267 (by decide +kernel) (by decide +kernel), m_B_hasLetter, iv_B_hasLetter.1, iv_B_hasLetter.2, ⟨(RX0, TX0, 13), rfl, rfl⟩, by decide +kernel, by decide⟩
theorem d_B_firstOf_5 : Db k_B_firstOf 5 (.ifCond .eq) 8 17 := ⟨12, (by decide +kernel), rfl, by decide⟩
theorem d_B_firstOf_8 : DlA k_B_firstOf 8 0 9 := Or.inl ⟨0, (by decide +kernel), rfl, rfl⟩
theorem d_B_firstOf_9 : DG k_B_firstOf 9 0 5 12 := ⟨36, (by decide +kernel), f_B_36, rfl⟩
theorem d_B_firstOf_12 : DlI k_B_firstOf 12 1 13 := Or.inl ⟨1, (by decide +kernel), rfl, rfl⟩
theorem d_B_firstOf_13 : Dk k_B_firstOf 13 .iaload 1 14 := ⟨(by decide +kernel), rfl⟩
theorem d_B_firstOf_14 : Db k_B_firstOf 14 .goto 17 19 := ⟨5, (by decide +kernel), rfl, by decide⟩
theorem d_B_firstOf_17 : Dc k_B_firstOf 17 (-4) 19 := Or.inr (Or.inl ⟨(by decide +kernel), by decide, rfl⟩)
theorem d_B_firstOf_19 : DrI k_B_firstOf 19 := ⟨(by decide +kernel), rfl⟩
theorem d_B_nextDraw_0 : DlA k_B_nextDraw 0 0 1 := Or.inl ⟨0, (by decide +kernel), rfl, rfl⟩
theorem d_B_nextDraw_1 : DlA k_B_nextDraw 1 0 2 := Or.inl ⟨0, (by decide +kernel), rfl, rfl⟩
theorem d_B_nextDraw_2 : DG k_B_nextDraw 2 0 1 5 := ⟨23, (by decide +kernel), f_B_23, rfl⟩
theorem d_B_nextDraw_5 : Dc k_B_nextDraw 5 (1103515245) 7 := Or.inr (Or.inr (Or.inr ⟨96, (by decide +kernel), tb_at 261 (by decide +kernel) (by decide +kernel), rfl⟩))
theorem d_B_nextDraw_7 : Dk k_B_nextDraw 7 .imul 1 8 := ⟨(by decide +kernel), rfl⟩
theorem d_B_nextDraw_8 : Dc k_B_nextDraw 8 (12345) 11 := Or.inr (Or.inr (Or.inl ⟨(by decide +kernel), by decide, rfl⟩))
theorem d_B_nextDraw_11 : Dk k_B_nextDraw 11 .iadd 1 12 := ⟨(by decide +kernel), rfl⟩
theorem d_B_nextDraw_12 : Dc k_B_nextDraw 12 (2147483647) 14 := Or.inr (Or.inr (Or.inr ⟨97, (by decide +kernel), tb_at 262 (by decide +kernel) (by decide +kernel), rfl⟩))
theorem d_B_nextDraw_14 : Dk k_B_nextDraw 14 .iand 1 15 := ⟨(by decide +kernel), rfl⟩
theorem d_B_nextDraw_15 : DP k_B_nextDraw 15 0 1 18 .int := ⟨23, (by decide +kernel), p_B_23, rfl, RX0, TX0, 13, rfl, rfl⟩
theorem d_B_nextDraw_18 : DlA k_B_nextDraw 18 0 19 := Or.inl ⟨0, (by decide +kernel), rfl, rfl⟩
theorem d_B_nextDraw_19 : DG k_B_nextDraw 19 0 1 22 := ⟨23, (by decide +kernel), f_B_23, rfl⟩
theorem d_B_nextDraw_22 : Dc k_B_nextDraw 22 (16) 24 := Or.inr (Or.inl ⟨(by decide +kernel), by decide, rfl⟩)
theorem d_B_nextDraw_24 : Dk k_B_nextDraw 24 .ishr 1 25 := ⟨(by decide +kernel), rfl⟩
theorem d_B_nextDraw_25 : DrI k_B_nextDraw 25 := ⟨(by decide +kernel), rfl⟩
theorem d_B_takeLetter_0 : DlA k_B_takeLetter 0 0 1 := Or.inl ⟨0, (by decide +kernel), rfl, rfl⟩
theorem d_B_takeLetter_1 : DlI k_B_takeLetter 1 1 2 := Or.inl ⟨1, (by decide +kernel), rfl, rfl⟩
theorem d_B_takeLetter_2 : DlI k_B_takeLetter 2 2 3 := Or.inl ⟨2, (by decide +kernel), rfl, rfl⟩
theorem d_B_takeLetter_3 : DCV k_B_takeLetter 3 k_B_add 0 2 6 := ⟨98, (by decide +kernel), rfl, tb_at 246 (by decide +kernel) (by decide +kernel), m_B_add, iv_B_add.1, iv_B_add.2, ⟨(RX0, TX0, 13), rfl, rfl⟩, by decide +kernel, by decide⟩
theorem d_B_takeLetter_6 : DlA k_B_takeLetter 6 0 7 := Or.inl ⟨0, (by decide +kernel), rfl, rfl⟩
theorem d_B_takeLetter_7 : DlA k_B_takeLetter 7 0 8 := Or.inl ⟨0, (by decide +kernel), rfl, rfl⟩
theorem d_B_takeLetter_8 : DG k_B_takeLetter 8 0 0 11 := ⟨18, (by decide +kernel), f_B_18, rfl⟩
theorem d_B_takeLetter_11 : Dc k_B_takeLetter 11 (0) 12 := Or.inl ⟨(by decide +kernel), rfl⟩
theorem d_B_takeLetter_12 : Dk k_B_takeLetter 12 .iaload 1 13 := ⟨(by decide +kernel), rfl⟩
theorem d_B_takeLetter_13 : DlA k_B_takeLetter 13 0 14 := Or.inl ⟨0, (by decide +kernel), rfl, rfl⟩
theorem d_B_takeLetter_14 : DG k_B_takeLetter 14 0 0 17 := ⟨18, (by decide +kernel), f_B_18, rfl⟩
theorem d_B_takeLetter_17 : DlA k_B_takeLetter 17 0 18 := Or.inl ⟨0, (by decide +kernel), rfl, rfl⟩
theorem d_B_takeLetter_18 : DG k_B_takeLetter 18 0 8 21 := ⟨45, (by decide +kernel), f_B_45, rfl⟩
theorem d_B_takeLetter_21 : Dc k_B_takeLetter 21 (0) 22 := Or.inl ⟨(by decide +kernel), rfl⟩
theorem d_B_takeLetter_22 : DCS k_B_takeLetter 22 k_B_leaving 4 25 := ⟨102, (by decide +kernel), rfl, Or.inl (tb_at 250 (by decide +kernel) (by decide +kernel)), m_B_leaving, is_B_leaving, by decide +kernel, by decide⟩
theorem d_B_takeLetter_25 : DCV k_B_takeLetter 25 k_B_goRound 0 1 28 := ⟨106, (by decide +kernel), rfl, tb_at 253 (by decide +kernel) (by decide +kernel), m_B_goRound, iv_B_goRound.1, iv_B_goRound.2, ⟨(RX0, TX0, 13), rfl, rfl⟩, by decide +kernel, by decide⟩
theorem d_B_takeLetter_28 : DrI k_B_takeLetter 28 := ⟨(by decide +kernel), rfl⟩
theorem d_B_hearTick_0 : DlA k_B_hearTick 0 0 1 := Or.inl ⟨0, (by decide +kernel), rfl, rfl⟩
theorem d_B_hearTick_1 : DlA k_B_hearTick 1 0 2 := Or.inl ⟨0, (by decide +kernel), rfl, rfl⟩
theorem d_B_hearTick_2 : DG k_B_hearTick 2 0 0 5 := ⟨18, (by decide +kernel), f_B_18, rfl⟩
theorem d_B_hearTick_5 : Dc k_B_hearTick 5 (0) 6 := Or.inl ⟨(by decide +kernel), rfl⟩
theorem d_B_hearTick_6 : Dk k_B_hearTick 6 .iaload 1 7 := ⟨(by decide +kernel), rfl⟩
theorem d_B_hearTick_7 : DlA k_B_hearTick 7 0 8 := Or.inl ⟨0, (by decide +kernel), rfl, rfl⟩
theorem d_B_hearTick_8 : DG k_B_hearTick 8 0 0 11 := ⟨18, (by decide +kernel), f_B_18, rfl⟩
theorem d_B_hearTick_11 : DlA k_B_hearTick 11 0 12 := Or.inl ⟨0, (by decide +kernel), rfl, rfl⟩
theorem d_B_hearTick_12 : DG k_B_hearTick 12 0 8 15 := ⟨45, (by decide +kernel), f_B_45, rfl⟩
theorem d_B_hearTick_15 : Dc k_B_hearTick 15 (1) 16 := Or.inl ⟨(by decide +kernel), rfl⟩
theorem d_B_hearTick_16 : DCS k_B_hearTick 16 k_B_leaving 4 19 := ⟨102, (by decide +kernel), rfl, Or.inl (tb_at 250 (by decide +kernel) (by decide +kernel)), m_B_leaving, is_B_leaving, by decide +kernel, by decide⟩
theorem d_B_hearTick_19 : DCV k_B_hearTick 19 k_B_goRound 0 1 22 := ⟨106, (by decide +kernel), rfl, tb_at 253 (by decide +kernel) (by decide +kernel), m_B_goRound, iv_B_goRound.1, iv_B_goRound.2, ⟨(RX0, TX0, 13), rfl, rfl⟩, by decide +kernel, by decide⟩
theorem d_B_hearTick_22 : DrI k_B_hearTick 22 := ⟨(by decide +kernel), rfl⟩
theorem d_B_leaving_0 : DlI k_B_leaving 0 2 1 := Or.inl ⟨2, (by decide +kernel), rfl, rfl⟩
theorem d_B_leaving_1 : DlA k_B_leaving 1 1 2 := Or.inl ⟨1, (by decide +kernel), rfl, rfl⟩
theorem d_B_leaving_2 : Dc k_B_leaving 2 (3) 3 := Or.inl ⟨(by decide +kernel), rfl⟩
theorem d_B_leaving_3 : Dk k_B_leaving 3 .iaload 1 4 := ⟨(by decide +kernel), rfl⟩
theorem d_B_leaving_4 : Dk k_B_leaving 4 .iadd 1 5 := ⟨(by decide +kernel), rfl⟩
theorem d_B_leaving_5 : DsI k_B_leaving 5 4 7 := ⟨Or.inr ⟨(by decide +kernel), rfl⟩, by decide⟩
theorem d_B_leaving_7 : DlI k_B_leaving 7 0 8 := Or.inl ⟨0, (by decide +kernel), rfl, rfl⟩
theorem d_B_leaving_8 : decode k_B_leaving.2.2.1 8 = .ok (.tableswitch 117 0 3 #[32, 50, 76, 98], 32) := by decide +kernel
theorem d_B_leaving_40 : DlI k_B_leaving 40 3 41 := Or.inl ⟨3, (by decide +kernel), rfl, rfl⟩
theorem d_B_leaving_41 : Db k_B_leaving 41 (.ifCond .ne) 44 56 := ⟨15, (by decide +kernel), rfl, by decide⟩
theorem d_B_leaving_44 : DlI k_B_leaving 44 2 45 := Or.inl ⟨2, (by decide +kernel), rfl, rfl⟩
theorem d_B_leaving_45 : DlA k_B_leaving 45 1 46 := Or.inl ⟨1, (by decide +kernel), rfl, rfl⟩
theorem d_B_leaving_46 : Dc k_B_leaving 46 (1) 47 := Or.inl ⟨(by decide +kernel), rfl⟩
theorem d_B_leaving_47 : Dk k_B_leaving 47 .iaload 1 48 := ⟨(by decide +kernel), rfl⟩
theorem d_B_leaving_48 : Db k_B_leaving 48 (.if_icmp .lt) 51 56 := ⟨8, (by decide +kernel), rfl, by decide⟩
theorem d_B_leaving_51 : DlI k_B_leaving 51 4 53 := Or.inr ⟨(by decide +kernel), rfl⟩
theorem d_B_leaving_53 : Db k_B_leaving 53 .goto 56 57 := ⟨4, (by decide +kernel), rfl, by decide⟩
theorem d_B_leaving_56 : Dc k_B_leaving 56 (0) 57 := Or.inl ⟨(by decide +kernel), rfl⟩
theorem d_B_leaving_57 : DrI k_B_leaving 57 := ⟨(by decide +kernel), rfl⟩
theorem d_B_leaving_58 : DlI k_B_leaving 58 3 59 := Or.inl ⟨3, (by decide +kernel), rfl, rfl⟩
theorem d_B_leaving_59 : Db k_B_leaving 59 (.ifCond .ne) 62 82 := ⟨23, (by decide +kernel), rfl, by decide⟩
theorem d_B_leaving_62 : DlI k_B_leaving 62 2 63 := Or.inl ⟨2, (by decide +kernel), rfl, rfl⟩
theorem d_B_leaving_63 : DlA k_B_leaving 63 1 64 := Or.inl ⟨1, (by decide +kernel), rfl, rfl⟩
theorem d_B_leaving_64 : Dc k_B_leaving 64 (1) 65 := Or.inl ⟨(by decide +kernel), rfl⟩
theorem d_B_leaving_65 : Dk k_B_leaving 65 .iaload 1 66 := ⟨(by decide +kernel), rfl⟩
theorem d_B_leaving_66 : DlA k_B_leaving 66 1 67 := Or.inl ⟨1, (by decide +kernel), rfl, rfl⟩
theorem d_B_leaving_67 : Dc k_B_leaving 67 (2) 68 := Or.inl ⟨(by decide +kernel), rfl⟩
theorem d_B_leaving_68 : Dk k_B_leaving 68 .iaload 1 69 := ⟨(by decide +kernel), rfl⟩
theorem d_B_leaving_69 : Dk k_B_leaving 69 .iadd 1 70 := ⟨(by decide +kernel), rfl⟩
theorem d_B_leaving_70 : Db k_B_leaving 70 (.if_icmp .lt) 73 82 := ⟨12, (by decide +kernel), rfl, by decide⟩
theorem d_B_leaving_73 : DlI k_B_leaving 73 4 75 := Or.inr ⟨(by decide +kernel), rfl⟩
theorem d_B_leaving_75 : DlA k_B_leaving 75 1 76 := Or.inl ⟨1, (by decide +kernel), rfl, rfl⟩
theorem d_B_leaving_76 : Dc k_B_leaving 76 (2) 77 := Or.inl ⟨(by decide +kernel), rfl⟩
theorem d_B_leaving_77 : Dk k_B_leaving 77 .iaload 1 78 := ⟨(by decide +kernel), rfl⟩
theorem d_B_leaving_78 : Dk k_B_leaving 78 .isub 1 79 := ⟨(by decide +kernel), rfl⟩
theorem d_B_leaving_79 : Db k_B_leaving 79 .goto 82 83 := ⟨4, (by decide +kernel), rfl, by decide⟩
theorem d_B_leaving_82 : Dc k_B_leaving 82 (0) 83 := Or.inl ⟨(by decide +kernel), rfl⟩
theorem d_B_leaving_83 : DrI k_B_leaving 83 := ⟨(by decide +kernel), rfl⟩
theorem d_B_leaving_84 : DlI k_B_leaving 84 3 85 := Or.inl ⟨3, (by decide +kernel), rfl, rfl⟩
theorem d_B_leaving_85 : Db k_B_leaving 85 (.ifCond .eq) 88 104 := ⟨19, (by decide +kernel), rfl, by decide⟩
theorem d_B_leaving_88 : DlI k_B_leaving 88 2 89 := Or.inl ⟨2, (by decide +kernel), rfl, rfl⟩
theorem d_B_leaving_89 : DlA k_B_leaving 89 1 90 := Or.inl ⟨1, (by decide +kernel), rfl, rfl⟩
theorem d_B_leaving_90 : Dc k_B_leaving 90 (2) 91 := Or.inl ⟨(by decide +kernel), rfl⟩
theorem d_B_leaving_91 : Dk k_B_leaving 91 .iaload 1 92 := ⟨(by decide +kernel), rfl⟩
theorem d_B_leaving_92 : Db k_B_leaving 92 (.if_icmp .le) 95 104 := ⟨12, (by decide +kernel), rfl, by decide⟩
theorem d_B_leaving_95 : DlI k_B_leaving 95 4 97 := Or.inr ⟨(by decide +kernel), rfl⟩
theorem d_B_leaving_97 : DlA k_B_leaving 97 1 98 := Or.inl ⟨1, (by decide +kernel), rfl, rfl⟩
theorem d_B_leaving_98 : Dc k_B_leaving 98 (2) 99 := Or.inl ⟨(by decide +kernel), rfl⟩
theorem d_B_leaving_99 : Dk k_B_leaving 99 .iaload 1 100 := ⟨(by decide +kernel), rfl⟩
theorem d_B_leaving_100 : Dk k_B_leaving 100 .isub 1 101 := ⟨(by decide +kernel), rfl⟩
theorem d_B_leaving_101 : Db k_B_leaving 101 .goto 104 105 := ⟨4, (by decide +kernel), rfl, by decide⟩
theorem d_B_leaving_104 : Dc k_B_leaving 104 (0) 105 := Or.inl ⟨(by decide +kernel), rfl⟩
theorem d_B_leaving_105 : DrI k_B_leaving 105 := ⟨(by decide +kernel), rfl⟩
theorem d_B_leaving_106 : DlI k_B_leaving 106 3 107 := Or.inl ⟨3, (by decide +kernel), rfl, rfl⟩
theorem d_B_leaving_107 : Db k_B_leaving 107 (.ifCond .eq) 110 123 := ⟨16, (by decide +kernel), rfl, by decide⟩
theorem d_B_leaving_110 : DlI k_B_leaving 110 2 111 := Or.inl ⟨2, (by decide +kernel), rfl, rfl⟩
theorem d_B_leaving_111 : Db k_B_leaving 111 (.ifCond .le) 114 123 := ⟨12, (by decide +kernel), rfl, by decide⟩
theorem d_B_leaving_114 : DlI k_B_leaving 114 4 116 := Or.inr ⟨(by decide +kernel), rfl⟩
theorem d_B_leaving_116 : Dc k_B_leaving 116 (1) 117 := Or.inl ⟨(by decide +kernel), rfl⟩
theorem d_B_leaving_117 : Dk k_B_leaving 117 .iadd 1 118 := ⟨(by decide +kernel), rfl⟩
theorem d_B_leaving_118 : Dc k_B_leaving 118 (2) 119 := Or.inl ⟨(by decide +kernel), rfl⟩
theorem d_B_leaving_119 : Dk k_B_leaving 119 .idiv 1 120 := ⟨(by decide +kernel), rfl⟩
theorem d_B_leaving_120 : Db k_B_leaving 120 .goto 123 124 := ⟨4, (by decide +kernel), rfl, by decide⟩
theorem d_B_leaving_123 : Dc k_B_leaving 123 (0) 124 := Or.inl ⟨(by decide +kernel), rfl⟩
theorem d_B_leaving_124 : DrI k_B_leaving 124 := ⟨(by decide +kernel), rfl⟩
theorem d_B_leaving_125 : Dc k_B_leaving 125 (0) 126 := Or.inl ⟨(by decide +kernel), rfl⟩
theorem d_B_leaving_126 : DrI k_B_leaving 126 := ⟨(by decide +kernel), rfl⟩
theorem d_B_add_0 : DlA k_B_add 0 0 1 := Or.inl ⟨0, (by decide +kernel), rfl, rfl⟩
theorem d_B_add_1 : DG k_B_add 1 0 2 4 := ⟨27, (by decide +kernel), f_B_27, rfl⟩
theorem d_B_add_4 : Dc k_B_add 4 (79) 6 := Or.inr (Or.inl ⟨(by decide +kernel), by decide, rfl⟩)
theorem d_B_add_6 : Db k_B_add 6 (.if_icmp .ge) 9 18 := ⟨12, (by decide +kernel), rfl, by decide⟩
theorem d_B_add_9 : DlA k_B_add 9 0 10 := Or.inl ⟨0, (by decide +kernel), rfl, rfl⟩
theorem d_B_add_10 : DG k_B_add 10 0 8 13 := ⟨45, (by decide +kernel), f_B_45, rfl⟩
theorem d_B_add_13 : Dc k_B_add 13 (15) 15 := Or.inr (Or.inl ⟨(by decide +kernel), by decide, rfl⟩)
theorem d_B_add_15 : Db k_B_add 15 (.if_icmp .lt) 18 19 := ⟨4, (by decide +kernel), rfl, by decide⟩
theorem d_B_add_18 : DrV k_B_add 18 := ⟨(by decide +kernel), rfl⟩
theorem d_B_add_19 : DlA k_B_add 19 0 20 := Or.inl ⟨0, (by decide +kernel), rfl, rfl⟩
theorem d_B_add_20 : DG k_B_add 20 0 3 23 := ⟨30, (by decide +kernel), f_B_30, rfl⟩
theorem d_B_add_23 : DlA k_B_add 23 0 24 := Or.inl ⟨0, (by decide +kernel), rfl, rfl⟩
theorem d_B_add_24 : DG k_B_add 24 0 2 27 := ⟨27, (by decide +kernel), f_B_27, rfl⟩
theorem d_B_add_27 : DlI k_B_add 27 1 28 := Or.inl ⟨1, (by decide +kernel), rfl, rfl⟩
theorem d_B_add_28 : Dk k_B_add 28 .iastore 1 29 := ⟨(by decide +kernel), rfl⟩
theorem d_B_add_29 : DlA k_B_add 29 0 30 := Or.inl ⟨0, (by decide +kernel), rfl, rfl⟩
theorem d_B_add_30 : DG k_B_add 30 0 4 33 := ⟨33, (by decide +kernel), f_B_33, rfl⟩
theorem d_B_add_33 : DlA k_B_add 33 0 34 := Or.inl ⟨0, (by decide +kernel), rfl, rfl⟩
theorem d_B_add_34 : DG k_B_add 34 0 2 37 := ⟨27, (by decide +kernel), f_B_27, rfl⟩
theorem d_B_add_37 : DlI k_B_add 37 2 38 := Or.inl ⟨2, (by decide +kernel), rfl, rfl⟩
theorem d_B_add_38 : Dk k_B_add 38 .iastore 1 39 := ⟨(by decide +kernel), rfl⟩
theorem d_B_add_39 : DlA k_B_add 39 0 40 := Or.inl ⟨0, (by decide +kernel), rfl, rfl⟩
theorem d_B_add_40 : DG k_B_add 40 0 5 43 := ⟨36, (by decide +kernel), f_B_36, rfl⟩
theorem d_B_add_43 : DlA k_B_add 43 0 44 := Or.inl ⟨0, (by decide +kernel), rfl, rfl⟩
theorem d_B_add_44 : DG k_B_add 44 0 2 47 := ⟨27, (by decide +kernel), f_B_27, rfl⟩
theorem d_B_add_47 : DlA k_B_add 47 0 48 := Or.inl ⟨0, (by decide +kernel), rfl, rfl⟩
theorem d_B_add_48 : DG k_B_add 48 0 10 51 := ⟨51, (by decide +kernel), f_B_51, rfl⟩
theorem d_B_add_51 : Dk k_B_add 51 .iastore 1 52 := ⟨(by decide +kernel), rfl⟩
theorem d_B_add_52 : DlA k_B_add 52 0 53 := Or.inl ⟨0, (by decide +kernel), rfl, rfl⟩
theorem d_B_add_53 : DG k_B_add 53 0 6 56 := ⟨39, (by decide +kernel), f_B_39, rfl⟩
theorem d_B_add_56 : DlA k_B_add 56 0 57 := Or.inl ⟨0, (by decide +kernel), rfl, rfl⟩
theorem d_B_add_57 : DG k_B_add 57 0 2 60 := ⟨27, (by decide +kernel), f_B_27, rfl⟩
theorem d_B_add_60 : Dc k_B_add 60 (-4) 62 := Or.inr (Or.inl ⟨(by decide +kernel), by decide, rfl⟩)
theorem d_B_add_62 : Dk k_B_add 62 .iastore 1 63 := ⟨(by decide +kernel), rfl⟩
theorem d_B_add_63 : DlA k_B_add 63 0 64 := Or.inl ⟨0, (by decide +kernel), rfl, rfl⟩
theorem d_B_add_64 : DG k_B_add 64 0 7 67 := ⟨42, (by decide +kernel), f_B_42, rfl⟩
theorem d_B_add_67 : DlA k_B_add 67 0 68 := Or.inl ⟨0, (by decide +kernel), rfl, rfl⟩
theorem d_B_add_68 : DG k_B_add 68 0 2 71 := ⟨27, (by decide +kernel), f_B_27, rfl⟩
theorem d_B_add_71 : Dc k_B_add 71 (-4) 73 := Or.inr (Or.inl ⟨(by decide +kernel), by decide, rfl⟩)
theorem d_B_add_73 : Dk k_B_add 73 .iastore 1 74 := ⟨(by decide +kernel), rfl⟩
theorem d_B_add_74 : DlA k_B_add 74 0 75 := Or.inl ⟨0, (by decide +kernel), rfl, rfl⟩
theorem d_B_add_75 : DG k_B_add 75 0 9 78 := ⟨48, (by decide +kernel), f_B_48, rfl⟩
theorem d_B_add_78 : DlA k_B_add 78 0 79 := Or.inl ⟨0, (by decide +kernel), rfl, rfl⟩
theorem d_B_add_79 : DG k_B_add 79 0 8 82 := ⟨45, (by decide +kernel), f_B_45, rfl⟩
theorem d_B_add_82 : DlA k_B_add 82 0 83 := Or.inl ⟨0, (by decide +kernel), rfl, rfl⟩
theorem d_B_add_83 : DG k_B_add 83 0 2 86 := ⟨27, (by decide +kernel), f_B_27, rfl⟩
theorem d_B_add_86 : Dk k_B_add 86 .iastore 1 87 := ⟨(by decide +kernel), rfl⟩
theorem d_B_add_87 : DlA k_B_add 87 0 88 := Or.inl ⟨0, (by decide +kernel), rfl, rfl⟩
theorem d_B_add_88 : Dk k_B_add 88 .dup 1 89 := ⟨(by decide +kernel), rfl⟩
theorem d_B_add_89 : DG k_B_add 89 0 8 92 := ⟨45, (by decide +kernel), f_B_45, rfl⟩
theorem d_B_add_92 : Dc k_B_add 92 (1) 93 := Or.inl ⟨(by decide +kernel), rfl⟩
theorem d_B_add_93 : Dk k_B_add 93 .iadd 1 94 := ⟨(by decide +kernel), rfl⟩
theorem d_B_add_94 : DP k_B_add 94 0 8 97 .int := ⟨45, (by decide +kernel), p_B_45, rfl, RX0, TX0, 13, rfl, rfl⟩
theorem d_B_add_97 : DlA k_B_add 97 0 98 := Or.inl ⟨0, (by decide +kernel), rfl, rfl⟩
theorem d_B_add_98 : Dk k_B_add 98 .dup 1 99 := ⟨(by decide +kernel), rfl⟩
theorem d_B_add_99 : DG k_B_add 99 0 2 102 := ⟨27, (by decide +kernel), f_B_27, rfl⟩
theorem d_B_add_102 : Dc k_B_add 102 (1) 103 := Or.inl ⟨(by decide +kernel), rfl⟩
theorem d_B_add_103 : Dk k_B_add 103 .iadd 1 104 := ⟨(by decide +kernel), rfl⟩
theorem d_B_add_104 : DP k_B_add 104 0 2 107 .int := ⟨27, (by decide +kernel), p_B_27, rfl, RX0, TX0, 13, rfl, rfl⟩
theorem d_B_add_107 : DrV k_B_add 107 := ⟨(by decide +kernel), rfl⟩
theorem d_B_goRound_0 : DlI k_B_goRound 0 1 1 := Or.inl ⟨1, (by decide +kernel), rfl, rfl⟩
theorem d_B_goRound_1 : Db k_B_goRound 1 (.ifCond .le) 4 13 := ⟨12, (by decide +kernel), rfl, by decide⟩
theorem d_B_goRound_4 : DlA k_B_goRound 4 0 5 := Or.inl ⟨0, (by decide +kernel), rfl, rfl⟩
theorem d_B_goRound_5 : DG k_B_goRound 5 0 10 8 := ⟨51, (by decide +kernel), f_B_51, rfl⟩
theorem d_B_goRound_8 : Dc k_B_goRound 8 (12) 10 := Or.inr (Or.inl ⟨(by decide +kernel), by decide, rfl⟩)
theorem d_B_goRound_10 : Db k_B_goRound 10 (.if_icmp .lt) 13 15 := ⟨5, (by decide +kernel), rfl, by decide⟩
theorem d_B_goRound_13 : Dc k_B_goRound 13 (0) 14 := Or.inl ⟨(by decide +kernel), rfl⟩
theorem d_B_goRound_14 : DrI k_B_goRound 14 := ⟨(by decide +kernel), rfl⟩
theorem d_B_goRound_15 : Dc k_B_goRound 15 (0) 16 := Or.inl ⟨(by decide +kernel), rfl⟩
theorem d_B_goRound_16 : DsI k_B_goRound 16 2 17 := ⟨Or.inl ⟨2, (by decide +kernel), rfl, rfl⟩, by decide⟩
theorem d_B_goRound_17 : DlI k_B_goRound 17 2 18 := Or.inl ⟨2, (by decide +kernel), rfl, rfl⟩
theorem d_B_goRound_18 : DlA k_B_goRound 18 0 19 := Or.inl ⟨0, (by decide +kernel), rfl, rfl⟩
theorem d_B_goRound_19 : DG k_B_goRound 19 0 0 22 := ⟨18, (by decide +kernel), f_B_18, rfl⟩
theorem d_B_goRound_22 : Dc k_B_goRound 22 (3) 23 := Or.inl ⟨(by decide +kernel), rfl⟩
theorem d_B_goRound_23 : Dk k_B_goRound 23 .iaload 1 24 := ⟨(by decide +kernel), rfl⟩
theorem d_B_goRound_24 : Db k_B_goRound 24 (.if_icmp .ge) 27 46 := ⟨22, (by decide +kernel), rfl, by decide⟩
theorem d_B_goRound_27 : DlA k_B_goRound 27 0 28 := Or.inl ⟨0, (by decide +kernel), rfl, rfl⟩
theorem d_B_goRound_28 : Dc k_B_goRound 28 (8) 30 := Or.inr (Or.inl ⟨(by decide +kernel), by decide, rfl⟩)
theorem d_B_goRound_30 : DlA k_B_goRound 30 0 31 := Or.inl ⟨0, (by decide +kernel), rfl, rfl⟩
theorem d_B_goRound_31 : DCV k_B_goRound 31 k_B_nextDraw 0 0 34 := ⟨109, (by decide +kernel), rfl, tb_at 257 (by decide +kernel) (by decide +kernel), m_B_nextDraw, iv_B_nextDraw.1, iv_B_nextDraw.2, ⟨(RX0, TX0, 13), rfl, rfl⟩, by decide +kernel, by decide⟩
theorem d_B_goRound_34 : Dc k_B_goRound 34 (8) 36 := Or.inr (Or.inl ⟨(by decide +kernel), by decide, rfl⟩)
theorem d_B_goRound_36 : Dk k_B_goRound 36 .irem 1 37 := ⟨(by decide +kernel), rfl⟩
theorem d_B_goRound_37 : DCV k_B_goRound 37 k_B_add 0 2 40 := ⟨98, (by decide +kernel), rfl, tb_at 246 (by decide +kernel) (by decide +kernel), m_B_add, iv_B_add.1, iv_B_add.2, ⟨(RX0, TX0, 13), rfl, rfl⟩, by decide +kernel, by decide⟩
theorem d_B_goRound_40 : Dinc k_B_goRound 40 2 (1) 43 := ⟨(by decide +kernel), rfl, by decide⟩
theorem d_B_goRound_43 : Db k_B_goRound 43 .goto 46 17 := ⟨-26, (by decide +kernel), rfl, by decide⟩
theorem d_B_goRound_46 : DlA k_B_goRound 46 0 47 := Or.inl ⟨0, (by decide +kernel), rfl, rfl⟩
theorem d_B_goRound_47 : DG k_B_goRound 47 0 8 50 := ⟨45, (by decide +kernel), f_B_45, rfl⟩
theorem d_B_goRound_50 : DsI k_B_goRound 50 2 51 := ⟨Or.inl ⟨2, (by decide +kernel), rfl, rfl⟩, by decide⟩
theorem d_B_goRound_51 : DlA k_B_goRound 51 0 52 := Or.inl ⟨0, (by decide +kernel), rfl, rfl⟩
theorem d_B_goRound_52 : DCV k_B_goRound 52 k_B_ownWaiting 0 0 55 := ⟨113, (by decide +kernel), rfl, tb_at 263 (by decide +kernel) (by decide +kernel), m_B_ownWaiting, iv_B_ownWaiting.1, iv_B_ownWaiting.2, ⟨(RX0, TX0, 13), rfl, rfl⟩, by decide +kernel, by decide⟩
theorem d_B_goRound_55 : DsI k_B_goRound 55 3 56 := ⟨Or.inl ⟨3, (by decide +kernel), rfl, rfl⟩, by decide⟩
theorem d_B_goRound_56 : Dc k_B_goRound 56 (0) 57 := Or.inl ⟨(by decide +kernel), rfl⟩
theorem d_B_goRound_57 : DsI k_B_goRound 57 4 59 := ⟨Or.inr ⟨(by decide +kernel), rfl⟩, by decide⟩
theorem d_B_goRound_59 : DlI k_B_goRound 59 4 61 := Or.inr ⟨(by decide +kernel), rfl⟩
theorem d_B_goRound_61 : DlI k_B_goRound 61 1 62 := Or.inl ⟨1, (by decide +kernel), rfl, rfl⟩
theorem d_B_goRound_62 : Db k_B_goRound 62 (.if_icmp .ge) 65 77 := ⟨15, (by decide +kernel), rfl, by decide⟩
theorem d_B_goRound_65 : DlA k_B_goRound 65 0 66 := Or.inl ⟨0, (by decide +kernel), rfl, rfl⟩
theorem d_B_goRound_66 : DlI k_B_goRound 66 4 68 := Or.inr ⟨(by decide +kernel), rfl⟩
theorem d_B_goRound_68 : DCV k_B_goRound 68 k_B_letOut 0 1 71 := ⟨116, (by decide +kernel), rfl, tb_at 271 (by decide +kernel) (by decide +kernel), m_B_letOut, iv_B_letOut.1, iv_B_letOut.2, ⟨(RX0, TX0, 13), rfl, rfl⟩, by decide +kernel, by decide⟩
theorem d_B_goRound_71 : Dinc k_B_goRound 71 4 (1) 74 := ⟨(by decide +kernel), rfl, by decide⟩
theorem d_B_goRound_74 : Db k_B_goRound 74 .goto 77 59 := ⟨-15, (by decide +kernel), rfl, by decide⟩
theorem d_B_goRound_77 : DlI k_B_goRound 77 3 78 := Or.inl ⟨3, (by decide +kernel), rfl, rfl⟩
theorem d_B_goRound_78 : DlA k_B_goRound 78 0 79 := Or.inl ⟨0, (by decide +kernel), rfl, rfl⟩
theorem d_B_goRound_79 : DCV k_B_goRound 79 k_B_ownWaiting 0 0 82 := ⟨113, (by decide +kernel), rfl, tb_at 263 (by decide +kernel) (by decide +kernel), m_B_ownWaiting, iv_B_ownWaiting.1, iv_B_ownWaiting.2, ⟨(RX0, TX0, 13), rfl, rfl⟩, by decide +kernel, by decide⟩
theorem d_B_goRound_82 : Dk k_B_goRound 82 .isub 1 83 := ⟨(by decide +kernel), rfl⟩
theorem d_B_goRound_83 : DsI k_B_goRound 83 4 85 := ⟨Or.inr ⟨(by decide +kernel), rfl⟩, by decide⟩
theorem d_B_goRound_85 : DlA k_B_goRound 85 0 86 := Or.inl ⟨0, (by decide +kernel), rfl, rfl⟩
theorem d_B_goRound_86 : DG k_B_goRound 86 0 10 89 := ⟨51, (by decide +kernel), f_B_51, rfl⟩
theorem d_B_goRound_89 : Dc k_B_goRound 89 (6) 91 := Or.inr (Or.inl ⟨(by decide +kernel), by decide, rfl⟩)
theorem d_B_goRound_91 : Dk k_B_goRound 91 .imul 1 92 := ⟨(by decide +kernel), rfl⟩
theorem d_B_goRound_92 : DsI k_B_goRound 92 5 94 := ⟨Or.inr ⟨(by decide +kernel), rfl⟩, by decide⟩
theorem d_B_goRound_94 : DlA k_B_goRound 94 0 95 := Or.inl ⟨0, (by decide +kernel), rfl, rfl⟩
theorem d_B_goRound_95 : DG k_B_goRound 95 0 11 98 := ⟨54, (by decide +kernel), f_B_54, rfl⟩
theorem d_B_goRound_98 : DlI k_B_goRound 98 5 100 := Or.inr ⟨(by decide +kernel), rfl⟩
theorem d_B_goRound_100 : Dc k_B_goRound 100 (0) 101 := Or.inl ⟨(by decide +kernel), rfl⟩
theorem d_B_goRound_101 : Dk k_B_goRound 101 .iadd 1 102 := ⟨(by decide +kernel), rfl⟩
theorem d_B_goRound_102 : DlI k_B_goRound 102 2 103 := Or.inl ⟨2, (by decide +kernel), rfl, rfl⟩
theorem d_B_goRound_103 : Dk k_B_goRound 103 .iastore 1 104 := ⟨(by decide +kernel), rfl⟩
theorem d_B_goRound_104 : DlA k_B_goRound 104 0 105 := Or.inl ⟨0, (by decide +kernel), rfl, rfl⟩
theorem d_B_goRound_105 : DG k_B_goRound 105 0 11 108 := ⟨54, (by decide +kernel), f_B_54, rfl⟩
theorem d_B_goRound_108 : DlI k_B_goRound 108 5 110 := Or.inr ⟨(by decide +kernel), rfl⟩
theorem d_B_goRound_110 : Dc k_B_goRound 110 (1) 111 := Or.inl ⟨(by decide +kernel), rfl⟩
theorem d_B_goRound_111 : Dk k_B_goRound 111 .iadd 1 112 := ⟨(by decide +kernel), rfl⟩
theorem d_B_goRound_112 : DlI k_B_goRound 112 1 113 := Or.inl ⟨1, (by decide +kernel), rfl, rfl⟩
theorem d_B_goRound_113 : Dk k_B_goRound 113 .iastore 1 114 := ⟨(by decide +kernel), rfl⟩
theorem d_B_goRound_114 : DlA k_B_goRound 114 0 115 := Or.inl ⟨0, (by decide +kernel), rfl, rfl⟩
theorem d_B_goRound_115 : DG k_B_goRound 115 0 11 118 := ⟨54, (by decide +kernel), f_B_54, rfl⟩
theorem d_B_goRound_118 : DlI k_B_goRound 118 5 120 := Or.inr ⟨(by decide +kernel), rfl⟩
theorem d_B_goRound_120 : Dc k_B_goRound 120 (2) 121 := Or.inl ⟨(by decide +kernel), rfl⟩
theorem d_B_goRound_121 : Dk k_B_goRound 121 .iadd 1 122 := ⟨(by decide +kernel), rfl⟩
theorem d_B_goRound_122 : DlI k_B_goRound 122 4 124 := Or.inr ⟨(by decide +kernel), rfl⟩
theorem d_B_goRound_124 : Dk k_B_goRound 124 .iastore 1 125 := ⟨(by decide +kernel), rfl⟩
theorem d_B_goRound_125 : DlA k_B_goRound 125 0 126 := Or.inl ⟨0, (by decide +kernel), rfl, rfl⟩
theorem d_B_goRound_126 : DG k_B_goRound 126 0 11 129 := ⟨54, (by decide +kernel), f_B_54, rfl⟩
theorem d_B_goRound_129 : DlI k_B_goRound 129 5 131 := Or.inr ⟨(by decide +kernel), rfl⟩
theorem d_B_goRound_131 : Dc k_B_goRound 131 (3) 132 := Or.inl ⟨(by decide +kernel), rfl⟩
theorem d_B_goRound_132 : Dk k_B_goRound 132 .iadd 1 133 := ⟨(by decide +kernel), rfl⟩
theorem d_B_goRound_133 : DlI k_B_goRound 133 2 134 := Or.inl ⟨2, (by decide +kernel), rfl, rfl⟩
theorem d_B_goRound_134 : DlI k_B_goRound 134 3 135 := Or.inl ⟨3, (by decide +kernel), rfl, rfl⟩
theorem d_B_goRound_135 : Dk k_B_goRound 135 .isub 1 136 := ⟨(by decide +kernel), rfl⟩
theorem d_B_goRound_136 : Dk k_B_goRound 136 .iastore 1 137 := ⟨(by decide +kernel), rfl⟩
theorem d_B_goRound_137 : DlA k_B_goRound 137 0 138 := Or.inl ⟨0, (by decide +kernel), rfl, rfl⟩
theorem d_B_goRound_138 : DG k_B_goRound 138 0 11 141 := ⟨54, (by decide +kernel), f_B_54, rfl⟩
theorem d_B_goRound_141 : DlI k_B_goRound 141 5 143 := Or.inr ⟨(by decide +kernel), rfl⟩
theorem d_B_goRound_143 : Dc k_B_goRound 143 (4) 144 := Or.inl ⟨(by decide +kernel), rfl⟩
theorem d_B_goRound_144 : Dk k_B_goRound 144 .iadd 1 145 := ⟨(by decide +kernel), rfl⟩
theorem d_B_goRound_145 : DlI k_B_goRound 145 1 146 := Or.inl ⟨1, (by decide +kernel), rfl, rfl⟩
theorem d_B_goRound_146 : DlI k_B_goRound 146 4 148 := Or.inr ⟨(by decide +kernel), rfl⟩
theorem d_B_goRound_148 : Dk k_B_goRound 148 .isub 1 149 := ⟨(by decide +kernel), rfl⟩
theorem d_B_goRound_149 : Dk k_B_goRound 149 .iastore 1 150 := ⟨(by decide +kernel), rfl⟩
theorem d_B_goRound_150 : DlA k_B_goRound 150 0 151 := Or.inl ⟨0, (by decide +kernel), rfl, rfl⟩
theorem d_B_goRound_151 : DG k_B_goRound 151 0 11 154 := ⟨54, (by decide +kernel), f_B_54, rfl⟩
theorem d_B_goRound_154 : DlI k_B_goRound 154 5 156 := Or.inr ⟨(by decide +kernel), rfl⟩
theorem d_B_goRound_156 : Dc k_B_goRound 156 (5) 157 := Or.inl ⟨(by decide +kernel), rfl⟩
theorem d_B_goRound_157 : Dk k_B_goRound 157 .iadd 1 158 := ⟨(by decide +kernel), rfl⟩
theorem d_B_goRound_158 : DlA k_B_goRound 158 0 159 := Or.inl ⟨0, (by decide +kernel), rfl, rfl⟩
theorem d_B_goRound_159 : DG k_B_goRound 159 0 0 162 := ⟨18, (by decide +kernel), f_B_18, rfl⟩
theorem d_B_goRound_162 : Dc k_B_goRound 162 (3) 163 := Or.inl ⟨(by decide +kernel), rfl⟩
theorem d_B_goRound_163 : Dk k_B_goRound 163 .iaload 1 164 := ⟨(by decide +kernel), rfl⟩
theorem d_B_goRound_164 : Dk k_B_goRound 164 .iastore 1 165 := ⟨(by decide +kernel), rfl⟩
theorem d_B_goRound_165 : DlA k_B_goRound 165 0 166 := Or.inl ⟨0, (by decide +kernel), rfl, rfl⟩
theorem d_B_goRound_166 : Dk k_B_goRound 166 .dup 1 167 := ⟨(by decide +kernel), rfl⟩
theorem d_B_goRound_167 : DG k_B_goRound 167 0 10 170 := ⟨51, (by decide +kernel), f_B_51, rfl⟩
theorem d_B_goRound_170 : Dc k_B_goRound 170 (1) 171 := Or.inl ⟨(by decide +kernel), rfl⟩
theorem d_B_goRound_171 : Dk k_B_goRound 171 .iadd 1 172 := ⟨(by decide +kernel), rfl⟩
theorem d_B_goRound_172 : DP k_B_goRound 172 0 10 175 .int := ⟨51, (by decide +kernel), p_B_51, rfl, RX0, TX0, 13, rfl, rfl⟩
theorem d_B_goRound_175 : DlI k_B_goRound 175 1 176 := Or.inl ⟨1, (by decide +kernel), rfl, rfl⟩
theorem d_B_goRound_176 : DrI k_B_goRound 176 := ⟨(by decide +kernel), rfl⟩
theorem d_B_ownWaiting_0 : Dc k_B_ownWaiting 0 (0) 1 := Or.inl ⟨(by decide +kernel), rfl⟩
theorem d_B_ownWaiting_1 : DsI k_B_ownWaiting 1 1 2 := ⟨Or.inl ⟨1, (by decide +kernel), rfl, rfl⟩, by decide⟩
theorem d_B_ownWaiting_2 : Dc k_B_ownWaiting 2 (0) 3 := Or.inl ⟨(by decide +kernel), rfl⟩
theorem d_B_ownWaiting_3 : DsI k_B_ownWaiting 3 2 4 := ⟨Or.inl ⟨2, (by decide +kernel), rfl, rfl⟩, by decide⟩
theorem d_B_ownWaiting_4 : DlI k_B_ownWaiting 4 2 5 := Or.inl ⟨2, (by decide +kernel), rfl, rfl⟩
theorem d_B_ownWaiting_5 : DlA k_B_ownWaiting 5 0 6 := Or.inl ⟨0, (by decide +kernel), rfl, rfl⟩
theorem d_B_ownWaiting_6 : DG k_B_ownWaiting 6 0 8 9 := ⟨45, (by decide +kernel), f_B_45, rfl⟩
theorem d_B_ownWaiting_9 : Db k_B_ownWaiting 9 (.if_icmp .ge) 12 47 := ⟨38, (by decide +kernel), rfl, by decide⟩
theorem d_B_ownWaiting_12 : DlA k_B_ownWaiting 12 0 13 := Or.inl ⟨0, (by decide +kernel), rfl, rfl⟩
theorem d_B_ownWaiting_13 : DG k_B_ownWaiting 13 0 9 16 := ⟨48, (by decide +kernel), f_B_48, rfl⟩
theorem d_B_ownWaiting_16 : DlI k_B_ownWaiting 16 2 17 := Or.inl ⟨2, (by decide +kernel), rfl, rfl⟩
theorem d_B_ownWaiting_17 : Dk k_B_ownWaiting 17 .iaload 1 18 := ⟨(by decide +kernel), rfl⟩
theorem d_B_ownWaiting_18 : DsI k_B_ownWaiting 18 3 19 := ⟨Or.inl ⟨3, (by decide +kernel), rfl, rfl⟩, by decide⟩
theorem d_B_ownWaiting_19 : DlA k_B_ownWaiting 19 0 20 := Or.inl ⟨0, (by decide +kernel), rfl, rfl⟩
theorem d_B_ownWaiting_20 : DlI k_B_ownWaiting 20 3 21 := Or.inl ⟨3, (by decide +kernel), rfl, rfl⟩
theorem d_B_ownWaiting_21 : DCV k_B_ownWaiting 21 k_B_hasLetter 0 1 24 := ⟨93, (by decide +kernel), rfl, tb_at 267 (by decide +kernel) (by decide +kernel), m_B_hasLetter, iv_B_hasLetter.1, iv_B_hasLetter.2, ⟨(RX0, TX0, 13), rfl, rfl⟩, by decide +kernel, by decide⟩
theorem d_B_ownWaiting_24 : Db k_B_ownWaiting 24 (.ifCond .eq) 27 41 := ⟨17, (by decide +kernel), rfl, by decide⟩
theorem d_B_ownWaiting_27 : DlA k_B_ownWaiting 27 0 28 := Or.inl ⟨0, (by decide +kernel), rfl, rfl⟩
theorem d_B_ownWaiting_28 : DG k_B_ownWaiting 28 0 3 31 := ⟨30, (by decide +kernel), f_B_30, rfl⟩
theorem d_B_ownWaiting_31 : DlI k_B_ownWaiting 31 3 32 := Or.inl ⟨3, (by decide +kernel), rfl, rfl⟩
theorem d_B_ownWaiting_32 : Dk k_B_ownWaiting 32 .iaload 1 33 := ⟨(by decide +kernel), rfl⟩
theorem d_B_ownWaiting_33 : Dc k_B_ownWaiting 33 (9) 35 := Or.inr (Or.inl ⟨(by decide +kernel), by decide, rfl⟩)
theorem d_B_ownWaiting_35 : Db k_B_ownWaiting 35 (.if_icmp .ne) 38 41 := ⟨6, (by decide +kernel), rfl, by decide⟩
theorem d_B_ownWaiting_38 : Dinc k_B_ownWaiting 38 1 (1) 41 := ⟨(by decide +kernel), rfl, by decide⟩
theorem d_B_ownWaiting_41 : Dinc k_B_ownWaiting 41 2 (1) 44 := ⟨(by decide +kernel), rfl, by decide⟩
theorem d_B_ownWaiting_44 : Db k_B_ownWaiting 44 .goto 47 4 := ⟨-40, (by decide +kernel), rfl, by decide⟩
theorem d_B_ownWaiting_47 : DlI k_B_ownWaiting 47 1 48 := Or.inl ⟨1, (by decide +kernel), rfl, rfl⟩
theorem d_B_ownWaiting_48 : DrI k_B_ownWaiting 48 := ⟨(by decide +kernel), rfl⟩
theorem d_B_letOut_0 : DlA k_B_letOut 0 0 1 := Or.inl ⟨0, (by decide +kernel), rfl, rfl⟩
theorem d_B_letOut_1 : DCV k_B_letOut 1 k_B_nextDraw 0 0 4 := ⟨109, (by decide +kernel), rfl, tb_at 257 (by decide +kernel) (by decide +kernel), m_B_nextDraw, iv_B_nextDraw.1, iv_B_nextDraw.2, ⟨(RX0, TX0, 13), rfl, rfl⟩, by decide +kernel, by decide⟩
theorem d_B_letOut_4 : DsI k_B_letOut 4 2 5 := ⟨Or.inl ⟨2, (by decide +kernel), rfl, rfl⟩, by decide⟩
theorem d_B_letOut_5 : DlA k_B_letOut 5 0 6 := Or.inl ⟨0, (by decide +kernel), rfl, rfl⟩
theorem d_B_letOut_6 : DG k_B_letOut 6 0 8 9 := ⟨45, (by decide +kernel), f_B_45, rfl⟩
theorem d_B_letOut_9 : Db k_B_letOut 9 (.ifCond .le) 12 27 := ⟨18, (by decide +kernel), rfl, by decide⟩
theorem d_B_letOut_12 : DlI k_B_letOut 12 1 13 := Or.inl ⟨1, (by decide +kernel), rfl, rfl⟩
theorem d_B_letOut_13 : Dc k_B_letOut 13 (15) 15 := Or.inr (Or.inl ⟨(by decide +kernel), by decide, rfl⟩)
theorem d_B_letOut_15 : Db k_B_letOut 15 (.if_icmp .ge) 18 27 := ⟨12, (by decide +kernel), rfl, by decide⟩
theorem d_B_letOut_18 : DlA k_B_letOut 18 0 19 := Or.inl ⟨0, (by decide +kernel), rfl, rfl⟩
theorem d_B_letOut_19 : DG k_B_letOut 19 0 10 22 := ⟨51, (by decide +kernel), f_B_51, rfl⟩
theorem d_B_letOut_22 : Dc k_B_letOut 22 (12) 24 := Or.inr (Or.inl ⟨(by decide +kernel), by decide, rfl⟩)
theorem d_B_letOut_24 : Db k_B_letOut 24 (.if_icmp .lt) 27 28 := ⟨4, (by decide +kernel), rfl, by decide⟩
theorem d_B_letOut_27 : DrV k_B_letOut 27 := ⟨(by decide +kernel), rfl⟩
theorem d_B_letOut_28 : DlI k_B_letOut 28 2 29 := Or.inl ⟨2, (by decide +kernel), rfl, rfl⟩
theorem d_B_letOut_29 : DlA k_B_letOut 29 0 30 := Or.inl ⟨0, (by decide +kernel), rfl, rfl⟩
theorem d_B_letOut_30 : DG k_B_letOut 30 0 8 33 := ⟨45, (by decide +kernel), f_B_45, rfl⟩
theorem d_B_letOut_33 : Dk k_B_letOut 33 .irem 1 34 := ⟨(by decide +kernel), rfl⟩
theorem d_B_letOut_34 : DsI k_B_letOut 34 3 35 := ⟨Or.inl ⟨3, (by decide +kernel), rfl, rfl⟩, by decide⟩
theorem d_B_letOut_35 : DlA k_B_letOut 35 0 36 := Or.inl ⟨0, (by decide +kernel), rfl, rfl⟩
theorem d_B_letOut_36 : DG k_B_letOut 36 0 9 39 := ⟨48, (by decide +kernel), f_B_48, rfl⟩
theorem d_B_letOut_39 : DlI k_B_letOut 39 3 40 := Or.inl ⟨3, (by decide +kernel), rfl, rfl⟩
theorem d_B_letOut_40 : Dk k_B_letOut 40 .iaload 1 41 := ⟨(by decide +kernel), rfl⟩
theorem d_B_letOut_41 : DsI k_B_letOut 41 4 43 := ⟨Or.inr ⟨(by decide +kernel), rfl⟩, by decide⟩
theorem d_B_letOut_43 : DlA k_B_letOut 43 0 44 := Or.inl ⟨0, (by decide +kernel), rfl, rfl⟩
theorem d_B_letOut_44 : DlI k_B_letOut 44 4 46 := Or.inr ⟨(by decide +kernel), rfl⟩
theorem d_B_letOut_46 : DCV k_B_letOut 46 k_B_hasLetter 0 1 49 := ⟨93, (by decide +kernel), rfl, tb_at 267 (by decide +kernel) (by decide +kernel), m_B_hasLetter, iv_B_hasLetter.1, iv_B_hasLetter.2, ⟨(RX0, TX0, 13), rfl, rfl⟩, by decide +kernel, by decide⟩
theorem d_B_letOut_49 : Db k_B_letOut 49 (.ifCond .ne) 52 53 := ⟨4, (by decide +kernel), rfl, by decide⟩
theorem d_B_letOut_52 : DrV k_B_letOut 52 := ⟨(by decide +kernel), rfl⟩
theorem d_B_letOut_53 : DlA k_B_letOut 53 0 54 := Or.inl ⟨0, (by decide +kernel), rfl, rfl⟩
theorem d_B_letOut_54 : Dk k_B_letOut 54 .dup 1 55 := ⟨(by decide +kernel), rfl⟩
theorem d_B_letOut_55 : DG k_B_letOut 55 0 8 58 := ⟨45, (by decide +kernel), f_B_45, rfl⟩
theorem d_B_letOut_58 : Dc k_B_letOut 58 (1) 59 := Or.inl ⟨(by decide +kernel), rfl⟩
theorem d_B_letOut_59 : Dk k_B_letOut 59 .isub 1 60 := ⟨(by decide +kernel), rfl⟩
theorem d_B_letOut_60 : DP k_B_letOut 60 0 8 63 .int := ⟨45, (by decide +kernel), p_B_45, rfl, RX0, TX0, 13, rfl, rfl⟩
theorem d_B_letOut_63 : DlA k_B_letOut 63 0 64 := Or.inl ⟨0, (by decide +kernel), rfl, rfl⟩
theorem d_B_letOut_64 : DG k_B_letOut 64 0 9 67 := ⟨48, (by decide +kernel), f_B_48, rfl⟩
theorem d_B_letOut_67 : DlI k_B_letOut 67 3 68 := Or.inl ⟨3, (by decide +kernel), rfl, rfl⟩
theorem d_B_letOut_68 : Dc k_B_letOut 68 (1) 69 := Or.inl ⟨(by decide +kernel), rfl⟩
theorem d_B_letOut_69 : Dk k_B_letOut 69 .iadd 1 70 := ⟨(by decide +kernel), rfl⟩
theorem d_B_letOut_70 : DlA k_B_letOut 70 0 71 := Or.inl ⟨0, (by decide +kernel), rfl, rfl⟩
theorem d_B_letOut_71 : DG k_B_letOut 71 0 9 74 := ⟨48, (by decide +kernel), f_B_48, rfl⟩
theorem d_B_letOut_74 : DlI k_B_letOut 74 3 75 := Or.inl ⟨3, (by decide +kernel), rfl, rfl⟩
theorem d_B_letOut_75 : DlA k_B_letOut 75 0 76 := Or.inl ⟨0, (by decide +kernel), rfl, rfl⟩
theorem d_B_letOut_76 : DG k_B_letOut 76 0 8 79 := ⟨45, (by decide +kernel), f_B_45, rfl⟩
theorem d_B_letOut_79 : DlI k_B_letOut 79 3 80 := Or.inl ⟨3, (by decide +kernel), rfl, rfl⟩
theorem d_B_letOut_80 : Dk k_B_letOut 80 .isub 1 81 := ⟨(by decide +kernel), rfl⟩
theorem d_B_letOut_81 : DAC k_B_letOut 81 84 := ⟨60, (by decide +kernel), rfl, tb_at 239 (by decide +kernel) (by decide +kernel), by decide⟩
theorem d_B_letOut_84 : DlA k_B_letOut 84 0 85 := Or.inl ⟨0, (by decide +kernel), rfl, rfl⟩
theorem d_B_letOut_85 : DG k_B_letOut 85 0 6 88 := ⟨39, (by decide +kernel), f_B_39, rfl⟩
theorem d_B_letOut_88 : DlI k_B_letOut 88 4 90 := Or.inr ⟨(by decide +kernel), rfl⟩
theorem d_B_letOut_90 : DlA k_B_letOut 90 0 91 := Or.inl ⟨0, (by decide +kernel), rfl, rfl⟩
theorem d_B_letOut_91 : DG k_B_letOut 91 0 10 94 := ⟨51, (by decide +kernel), f_B_51, rfl⟩
theorem d_B_letOut_94 : Dk k_B_letOut 94 .iastore 1 95 := ⟨(by decide +kernel), rfl⟩
theorem d_B_letOut_95 : DlA k_B_letOut 95 0 96 := Or.inl ⟨0, (by decide +kernel), rfl, rfl⟩
theorem d_B_letOut_96 : DG k_B_letOut 96 0 7 99 := ⟨42, (by decide +kernel), f_B_42, rfl⟩
theorem d_B_letOut_99 : DlI k_B_letOut 99 4 101 := Or.inr ⟨(by decide +kernel), rfl⟩
theorem d_B_letOut_101 : DlI k_B_letOut 101 1 102 := Or.inl ⟨1, (by decide +kernel), rfl, rfl⟩
theorem d_B_letOut_102 : Dk k_B_letOut 102 .iastore 1 103 := ⟨(by decide +kernel), rfl⟩
theorem d_B_letOut_103 : DlA k_B_letOut 103 0 104 := Or.inl ⟨0, (by decide +kernel), rfl, rfl⟩
theorem d_B_letOut_104 : DG k_B_letOut 104 0 12 107 := ⟨57, (by decide +kernel), f_B_57, rfl⟩
theorem d_B_letOut_107 : DlA k_B_letOut 107 0 108 := Or.inl ⟨0, (by decide +kernel), rfl, rfl⟩
theorem d_B_letOut_108 : DG k_B_letOut 108 0 10 111 := ⟨51, (by decide +kernel), f_B_51, rfl⟩
theorem d_B_letOut_111 : Dc k_B_letOut 111 (15) 113 := Or.inr (Or.inl ⟨(by decide +kernel), by decide, rfl⟩)
theorem d_B_letOut_113 : Dk k_B_letOut 113 .imul 1 114 := ⟨(by decide +kernel), rfl⟩
theorem d_B_letOut_114 : DlI k_B_letOut 114 1 115 := Or.inl ⟨1, (by decide +kernel), rfl, rfl⟩
theorem d_B_letOut_115 : Dk k_B_letOut 115 .iadd 1 116 := ⟨(by decide +kernel), rfl⟩
theorem d_B_letOut_116 : DlI k_B_letOut 116 4 118 := Or.inr ⟨(by decide +kernel), rfl⟩
theorem d_B_letOut_118 : Dk k_B_letOut 118 .iastore 1 119 := ⟨(by decide +kernel), rfl⟩
theorem d_B_letOut_119 : DrV k_B_letOut 119 := ⟨(by decide +kernel), rfl⟩
theorem d_P_init_0 : DlA k_P_init 0 0 1 := Or.inl ⟨0, (by decide +kernel), rfl, rfl⟩
theorem d_P_init_4 : DlA k_P_init 4 0 5 := Or.inl ⟨0, (by decide +kernel), rfl, rfl⟩
theorem d_P_init_5 : Dc k_P_init 5 (6) 7 := Or.inr (Or.inl ⟨(by decide +kernel), by decide, rfl⟩)
theorem d_P_init_13 : DlA k_P_init 13 0 14 := Or.inl ⟨0, (by decide +kernel), rfl, rfl⟩
theorem d_P_init_14 : Dc k_P_init 14 (0) 15 := Or.inl ⟨(by decide +kernel), rfl⟩
theorem d_P_init_15 : DP k_P_init 15 1 1 18 .int := ⟨17, (by decide +kernel), p_P_17, rfl, RX1, TX1, 3, rfl, rfl⟩
theorem d_P_init_18 : DlA k_P_init 18 0 19 := Or.inl ⟨0, (by decide +kernel), rfl, rfl⟩
theorem d_P_init_19 : Dc k_P_init 19 (0) 20 := Or.inl ⟨(by decide +kernel), rfl⟩
theorem d_P_init_20 : DP k_P_init 20 1 2 23 .int := ⟨21, (by decide +kernel), p_P_21, rfl, RX1, TX1, 3, rfl, rfl⟩
theorem d_P_init_23 : Dc k_P_init 23 (0) 24 := Or.inl ⟨(by decide +kernel), rfl⟩
theorem d_P_init_24 : DsI k_P_init 24 1 25 := ⟨Or.inl ⟨1, (by decide +kernel), rfl, rfl⟩, by decide⟩
theorem d_P_init_25 : DlI k_P_init 25 1 26 := Or.inl ⟨1, (by decide +kernel), rfl, rfl⟩
theorem d_P_init_26 : Dc k_P_init 26 (6) 28 := Or.inr (Or.inl ⟨(by decide +kernel), by decide, rfl⟩)
theorem d_P_init_28 : Db k_P_init 28 (.if_icmp .ge) 31 50 := ⟨22, (by decide +kernel), rfl, by decide⟩
theorem d_P_init_31 : DlA k_P_init 31 0 32 := Or.inl ⟨0, (by decide +kernel), rfl, rfl⟩
theorem d_P_init_32 : DG k_P_init 32 1 0 35 := ⟨11, (by decide +kernel), f_P_11, rfl⟩
theorem d_P_init_35 : DlI k_P_init 35 1 36 := Or.inl ⟨1, (by decide +kernel), rfl, rfl⟩
theorem d_P_init_39 : Dk k_P_init 39 .dup 1 40 := ⟨(by decide +kernel), rfl⟩
theorem d_P_init_44 : Dinc k_P_init 44 1 (1) 47 := ⟨(by decide +kernel), rfl, by decide⟩
theorem d_P_init_47 : Db k_P_init 47 .goto 50 25 := ⟨-22, (by decide +kernel), rfl, by decide⟩
theorem d_P_init_50 : DrV k_P_init 50 := ⟨(by decide +kernel), rfl⟩
theorem d_P_remember_0 : DlA k_P_remember 0 0 1 := Or.inl ⟨0, (by decide +kernel), rfl, rfl⟩
theorem d_P_remember_1 : DG k_P_remember 1 1 0 4 := ⟨11, (by decide +kernel), f_P_11, rfl⟩
theorem d_P_remember_4 : DlA k_P_remember 4 0 5 := Or.inl ⟨0, (by decide +kernel), rfl, rfl⟩
theorem d_P_remember_5 : DG k_P_remember 5 1 1 8 := ⟨17, (by decide +kernel), f_P_17, rfl⟩
theorem d_P_remember_8 : DlA k_P_remember 8 0 9 := Or.inl ⟨0, (by decide +kernel), rfl, rfl⟩
theorem d_P_remember_9 : DG k_P_remember 9 1 2 12 := ⟨21, (by decide +kernel), f_P_21, rfl⟩
theorem d_P_remember_12 : Dk k_P_remember 12 .iadd 1 13 := ⟨(by decide +kernel), rfl⟩
theorem d_P_remember_13 : Dc k_P_remember 13 (6) 15 := Or.inr (Or.inl ⟨(by decide +kernel), by decide, rfl⟩)
theorem d_P_remember_15 : Dk k_P_remember 15 .irem 1 16 := ⟨(by decide +kernel), rfl⟩
theorem d_P_remember_16 : Dk k_P_remember 16 .aaload 1 17 := ⟨(by decide +kernel), rfl⟩
theorem d_P_remember_17 : DlA k_P_remember 17 1 18 := Or.inl ⟨1, (by decide +kernel), rfl, rfl⟩
theorem d_P_remember_18 : DCV k_P_remember 18 k_B_become 0 1 21 := ⟨25, (by decide +kernel), rfl, tb_at 235 (by decide +kernel) (by decide +kernel), m_B_become, iv_B_become.1, iv_B_become.2, ⟨(RX0, TX0, 13), rfl, rfl⟩, by decide +kernel, by decide⟩
theorem d_P_remember_21 : DlA k_P_remember 21 0 22 := Or.inl ⟨0, (by decide +kernel), rfl, rfl⟩
theorem d_P_remember_22 : DG k_P_remember 22 1 2 25 := ⟨21, (by decide +kernel), f_P_21, rfl⟩
theorem d_P_remember_25 : Dc k_P_remember 25 (6) 27 := Or.inr (Or.inl ⟨(by decide +kernel), by decide, rfl⟩)
theorem d_P_remember_27 : Db k_P_remember 27 (.if_icmp .ge) 30 43 := ⟨16, (by decide +kernel), rfl, by decide⟩
theorem d_P_remember_30 : DlA k_P_remember 30 0 31 := Or.inl ⟨0, (by decide +kernel), rfl, rfl⟩
theorem d_P_remember_31 : Dk k_P_remember 31 .dup 1 32 := ⟨(by decide +kernel), rfl⟩
theorem d_P_remember_32 : DG k_P_remember 32 1 2 35 := ⟨21, (by decide +kernel), f_P_21, rfl⟩
theorem d_P_remember_35 : Dc k_P_remember 35 (1) 36 := Or.inl ⟨(by decide +kernel), rfl⟩
theorem d_P_remember_36 : Dk k_P_remember 36 .iadd 1 37 := ⟨(by decide +kernel), rfl⟩
theorem d_P_remember_37 : DP k_P_remember 37 1 2 40 .int := ⟨21, (by decide +kernel), p_P_21, rfl, RX1, TX1, 3, rfl, rfl⟩
theorem d_P_remember_40 : Db k_P_remember 40 .goto 43 56 := ⟨16, (by decide +kernel), rfl, by decide⟩
theorem d_P_remember_43 : DlA k_P_remember 43 0 44 := Or.inl ⟨0, (by decide +kernel), rfl, rfl⟩
theorem d_P_remember_44 : DlA k_P_remember 44 0 45 := Or.inl ⟨0, (by decide +kernel), rfl, rfl⟩
theorem d_P_remember_45 : DG k_P_remember 45 1 1 48 := ⟨17, (by decide +kernel), f_P_17, rfl⟩
theorem d_P_remember_48 : Dc k_P_remember 48 (1) 49 := Or.inl ⟨(by decide +kernel), rfl⟩
theorem d_P_remember_49 : Dk k_P_remember 49 .iadd 1 50 := ⟨(by decide +kernel), rfl⟩
theorem d_P_remember_50 : Dc k_P_remember 50 (6) 52 := Or.inr (Or.inl ⟨(by decide +kernel), by decide, rfl⟩)
theorem d_P_remember_52 : Dk k_P_remember 52 .irem 1 53 := ⟨(by decide +kernel), rfl⟩
theorem d_P_remember_53 : DP k_P_remember 53 1 1 56 .int := ⟨17, (by decide +kernel), p_P_17, rfl, RX1, TX1, 3, rfl, rfl⟩
theorem d_P_remember_56 : DrV k_P_remember 56 := ⟨(by decide +kernel), rfl⟩
theorem d_P_bringBack_0 : DlA k_P_bringBack 0 0 1 := Or.inl ⟨0, (by decide +kernel), rfl, rfl⟩
theorem d_P_bringBack_1 : DG k_P_bringBack 1 1 2 4 := ⟨21, (by decide +kernel), f_P_21, rfl⟩
theorem d_P_bringBack_4 : Db k_P_bringBack 4 (.ifCond .gt) 7 8 := ⟨4, (by decide +kernel), rfl, by decide⟩
theorem d_P_bringBack_7 : DrV k_P_bringBack 7 := ⟨(by decide +kernel), rfl⟩
theorem d_P_bringBack_8 : DlA k_P_bringBack 8 0 9 := Or.inl ⟨0, (by decide +kernel), rfl, rfl⟩
theorem d_P_bringBack_9 : Dk k_P_bringBack 9 .dup 1 10 := ⟨(by decide +kernel), rfl⟩
theorem d_P_bringBack_10 : DG k_P_bringBack 10 1 2 13 := ⟨21, (by decide +kernel), f_P_21, rfl⟩
theorem d_P_bringBack_13 : Dc k_P_bringBack 13 (1) 14 := Or.inl ⟨(by decide +kernel), rfl⟩
theorem d_P_bringBack_14 : Dk k_P_bringBack 14 .isub 1 15 := ⟨(by decide +kernel), rfl⟩
theorem d_P_bringBack_15 : DP k_P_bringBack 15 1 2 18 .int := ⟨21, (by decide +kernel), p_P_21, rfl, RX1, TX1, 3, rfl, rfl⟩
theorem d_P_bringBack_18 : DlA k_P_bringBack 18 1 19 := Or.inl ⟨1, (by decide +kernel), rfl, rfl⟩
theorem d_P_bringBack_19 : DlA k_P_bringBack 19 0 20 := Or.inl ⟨0, (by decide +kernel), rfl, rfl⟩
theorem d_P_bringBack_20 : DG k_P_bringBack 20 1 0 23 := ⟨11, (by decide +kernel), f_P_11, rfl⟩
theorem d_P_bringBack_23 : DlA k_P_bringBack 23 0 24 := Or.inl ⟨0, (by decide +kernel), rfl, rfl⟩
theorem d_P_bringBack_24 : DG k_P_bringBack 24 1 1 27 := ⟨17, (by decide +kernel), f_P_17, rfl⟩
theorem d_P_bringBack_27 : DlA k_P_bringBack 27 0 28 := Or.inl ⟨0, (by decide +kernel), rfl, rfl⟩
theorem d_P_bringBack_28 : DG k_P_bringBack 28 1 2 31 := ⟨21, (by decide +kernel), f_P_21, rfl⟩
theorem d_P_bringBack_31 : Dk k_P_bringBack 31 .iadd 1 32 := ⟨(by decide +kernel), rfl⟩
theorem d_P_bringBack_32 : Dc k_P_bringBack 32 (6) 34 := Or.inr (Or.inl ⟨(by decide +kernel), by decide, rfl⟩)
theorem d_P_bringBack_34 : Dk k_P_bringBack 34 .irem 1 35 := ⟨(by decide +kernel), rfl⟩
theorem d_P_bringBack_35 : Dk k_P_bringBack 35 .aaload 1 36 := ⟨(by decide +kernel), rfl⟩
theorem d_P_bringBack_36 : DCV k_P_bringBack 36 k_B_become 0 1 39 := ⟨25, (by decide +kernel), rfl, tb_at 235 (by decide +kernel) (by decide +kernel), m_B_become, iv_B_become.1, iv_B_become.2, ⟨(RX0, TX0, 13), rfl, rfl⟩, by decide +kernel, by decide⟩
theorem d_P_bringBack_39 : DrV k_P_bringBack 39 := ⟨(by decide +kernel), rfl⟩
theorem d_P_become_0 : DlA k_P_become 0 0 1 := Or.inl ⟨0, (by decide +kernel), rfl, rfl⟩
theorem d_P_become_1 : Dc k_P_become 1 (0) 2 := Or.inl ⟨(by decide +kernel), rfl⟩
theorem d_P_become_2 : DP k_P_become 2 1 1 5 .int := ⟨17, (by decide +kernel), p_P_17, rfl, RX1, TX1, 3, rfl, rfl⟩
theorem d_P_become_5 : DlA k_P_become 5 0 6 := Or.inl ⟨0, (by decide +kernel), rfl, rfl⟩
theorem d_P_become_6 : DlA k_P_become 6 1 7 := Or.inl ⟨1, (by decide +kernel), rfl, rfl⟩
theorem d_P_become_7 : DG k_P_become 7 1 2 10 := ⟨21, (by decide +kernel), f_P_21, rfl⟩
theorem d_P_become_10 : DP k_P_become 10 1 2 13 .int := ⟨21, (by decide +kernel), p_P_21, rfl, RX1, TX1, 3, rfl, rfl⟩
theorem d_P_become_13 : Dc k_P_become 13 (0) 14 := Or.inl ⟨(by decide +kernel), rfl⟩
theorem d_P_become_14 : DsI k_P_become 14 2 15 := ⟨Or.inl ⟨2, (by decide +kernel), rfl, rfl⟩, by decide⟩
theorem d_P_become_15 : DlI k_P_become 15 2 16 := Or.inl ⟨2, (by decide +kernel), rfl, rfl⟩
theorem d_P_become_16 : DlA k_P_become 16 0 17 := Or.inl ⟨0, (by decide +kernel), rfl, rfl⟩
theorem d_P_become_17 : DG k_P_become 17 1 2 20 := ⟨21, (by decide +kernel), f_P_21, rfl⟩
theorem d_P_become_20 : Db k_P_become 20 (.if_icmp .ge) 23 52 := ⟨32, (by decide +kernel), rfl, by decide⟩
theorem d_P_become_23 : DlA k_P_become 23 0 24 := Or.inl ⟨0, (by decide +kernel), rfl, rfl⟩
theorem d_P_become_24 : DG k_P_become 24 1 0 27 := ⟨11, (by decide +kernel), f_P_11, rfl⟩
theorem d_P_become_27 : DlI k_P_become 27 2 28 := Or.inl ⟨2, (by decide +kernel), rfl, rfl⟩
theorem d_P_become_28 : Dk k_P_become 28 .aaload 1 29 := ⟨(by decide +kernel), rfl⟩
theorem d_P_become_29 : DlA k_P_become 29 1 30 := Or.inl ⟨1, (by decide +kernel), rfl, rfl⟩
theorem d_P_become_30 : DG k_P_become 30 1 0 33 := ⟨11, (by decide +kernel), f_P_11, rfl⟩
theorem d_P_become_33 : DlA k_P_become 33 1 34 := Or.inl ⟨1, (by decide +kernel), rfl, rfl⟩
theorem d_P_become_34 : DG k_P_become 34 1 1 37 := ⟨17, (by decide +kernel), f_P_17, rfl⟩
theorem d_P_become_37 : DlI k_P_become 37 2 38 := Or.inl ⟨2, (by decide +kernel), rfl, rfl⟩
theorem d_P_become_38 : Dk k_P_become 38 .iadd 1 39 := ⟨(by decide +kernel), rfl⟩
theorem d_P_become_39 : Dc k_P_become 39 (6) 41 := Or.inr (Or.inl ⟨(by decide +kernel), by decide, rfl⟩)
theorem d_P_become_41 : Dk k_P_become 41 .irem 1 42 := ⟨(by decide +kernel), rfl⟩
theorem d_P_become_42 : Dk k_P_become 42 .aaload 1 43 := ⟨(by decide +kernel), rfl⟩
theorem d_P_become_43 : DCV k_P_become 43 k_B_become 0 1 46 := ⟨25, (by decide +kernel), rfl, tb_at 235 (by decide +kernel) (by decide +kernel), m_B_become, iv_B_become.1, iv_B_become.2, ⟨(RX0, TX0, 13), rfl, rfl⟩, by decide +kernel, by decide⟩
theorem d_P_become_46 : Dinc k_P_become 46 2 (1) 49 := ⟨(by decide +kernel), rfl, by decide⟩
theorem d_P_become_49 : Db k_P_become 49 .goto 52 15 := ⟨-34, (by decide +kernel), rfl, by decide⟩
theorem d_P_become_52 : DrV k_P_become 52 := ⟨(by decide +kernel), rfl⟩
theorem d_H_init_0 : DlA k_H_init 0 0 1 := Or.inl ⟨0, (by decide +kernel), rfl, rfl⟩
theorem d_H_init_4 : DlA k_H_init 4 0 5 := Or.inl ⟨0, (by decide +kernel), rfl, rfl⟩
theorem d_H_init_5 : Dc k_H_init 5 (-1) 6 := Or.inl ⟨(by decide +kernel), rfl⟩
theorem d_H_init_6 : DP k_H_init 6 2 0 9 .int := ⟨9, (by decide +kernel), p_H_9, rfl, RX2, TX2, 3, rfl, rfl⟩
theorem d_H_init_9 : DlA k_H_init 9 0 10 := Or.inl ⟨0, (by decide +kernel), rfl, rfl⟩
theorem d_H_init_10 : Dc k_H_init 10 (0) 11 := Or.inl ⟨(by decide +kernel), rfl⟩
theorem d_H_init_11 : DP k_H_init 11 2 1 14 .int := ⟨15, (by decide +kernel), p_H_15, rfl, RX2, TX2, 3, rfl, rfl⟩
theorem d_H_init_14 : DlA k_H_init 14 0 15 := Or.inl ⟨0, (by decide +kernel), rfl, rfl⟩
theorem d_H_init_15 : Dc k_H_init 15 (24) 17 := Or.inr (Or.inl ⟨(by decide +kernel), by decide, rfl⟩)
theorem d_H_init_22 : DrV k_H_init 22 := ⟨(by decide +kernel), rfl⟩
theorem d_H_isMissing_0 : DlA k_H_isMissing 0 0 1 := Or.inl ⟨0, (by decide +kernel), rfl, rfl⟩
theorem d_H_isMissing_1 : DG k_H_isMissing 1 2 0 4 := ⟨9, (by decide +kernel), f_H_9, rfl⟩
theorem d_H_isMissing_4 : Dc k_H_isMissing 4 (-1) 5 := Or.inl ⟨(by decide +kernel), rfl⟩
theorem d_H_isMissing_5 : Db k_H_isMissing 5 (.if_icmp .ne) 8 12 := ⟨7, (by decide +kernel), rfl, by decide⟩
theorem d_H_isMissing_8 : Dc k_H_isMissing 8 (1) 9 := Or.inl ⟨(by decide +kernel), rfl⟩
theorem d_H_isMissing_9 : Db k_H_isMissing 9 .goto 12 13 := ⟨4, (by decide +kernel), rfl, by decide⟩
theorem d_H_isMissing_12 : Dc k_H_isMissing 12 (0) 13 := Or.inl ⟨(by decide +kernel), rfl⟩
theorem d_H_isMissing_13 : DrZ k_H_isMissing 13 := ⟨(by decide +kernel), rfl⟩
theorem d_H_renew_0 : DlA k_H_renew 0 0 1 := Or.inl ⟨0, (by decide +kernel), rfl, rfl⟩
theorem d_H_renew_1 : DlI k_H_renew 1 1 2 := Or.inl ⟨1, (by decide +kernel), rfl, rfl⟩
theorem d_H_renew_2 : DP k_H_renew 2 2 0 5 .int := ⟨9, (by decide +kernel), p_H_9, rfl, RX2, TX2, 3, rfl, rfl⟩
theorem d_H_renew_5 : DlA k_H_renew 5 0 6 := Or.inl ⟨0, (by decide +kernel), rfl, rfl⟩
theorem d_H_renew_6 : DlI k_H_renew 6 2 7 := Or.inl ⟨2, (by decide +kernel), rfl, rfl⟩
theorem d_H_renew_7 : DP k_H_renew 7 2 1 10 .int := ⟨15, (by decide +kernel), p_H_15, rfl, RX2, TX2, 3, rfl, rfl⟩
theorem d_H_renew_10 : DlA k_H_renew 10 0 11 := Or.inl ⟨0, (by decide +kernel), rfl, rfl⟩
theorem d_H_renew_11 : DG k_H_renew 11 2 2 14 := ⟨18, (by decide +kernel), f_H_18, rfl⟩
theorem d_H_renew_14 : DcL k_H_renew 14 0 15 := Or.inl ⟨0, (by decide +kernel), by decide, rfl⟩
theorem d_H_renew_15 : DCS k_H_renew 15 k_J_fill 2 18 := ⟨22, (by decide +kernel), rfl, Or.inl (tb_at 573 (by decide +kernel) (by decide +kernel)), m_J_fill, is_J_fill, by decide +kernel, by decide⟩
theorem d_H_renew_18 : DrV k_H_renew 18 := ⟨(by decide +kernel), rfl⟩
theorem d_H_holds_0 : DlI k_H_holds 0 1 1 := Or.inl ⟨1, (by decide +kernel), rfl, rfl⟩
theorem d_H_holds_1 : Db k_H_holds 1 (.ifCond .lt) 4 30 := ⟨29, (by decide +kernel), rfl, by decide⟩
theorem d_H_holds_4 : DlI k_H_holds 4 2 5 := Or.inl ⟨2, (by decide +kernel), rfl, rfl⟩
theorem d_H_holds_5 : Db k_H_holds 5 (.ifCond .lt) 8 30 := ⟨25, (by decide +kernel), rfl, by decide⟩
theorem d_H_holds_8 : DlI k_H_holds 8 1 9 := Or.inl ⟨1, (by decide +kernel), rfl, rfl⟩
theorem d_H_holds_9 : DlA k_H_holds 9 0 10 := Or.inl ⟨0, (by decide +kernel), rfl, rfl⟩
theorem d_H_holds_10 : DG k_H_holds 10 2 1 13 := ⟨15, (by decide +kernel), f_H_15, rfl⟩
theorem d_H_holds_13 : Db k_H_holds 13 (.if_icmp .gt) 16 30 := ⟨17, (by decide +kernel), rfl, by decide⟩
theorem d_H_holds_16 : DlI k_H_holds 16 2 17 := Or.inl ⟨2, (by decide +kernel), rfl, rfl⟩
theorem d_H_holds_17 : DlA k_H_holds 17 0 18 := Or.inl ⟨0, (by decide +kernel), rfl, rfl⟩
theorem d_H_holds_18 : DG k_H_holds 18 2 1 21 := ⟨15, (by decide +kernel), f_H_15, rfl⟩
theorem d_H_holds_21 : DlI k_H_holds 21 1 22 := Or.inl ⟨1, (by decide +kernel), rfl, rfl⟩
theorem d_H_holds_22 : Dk k_H_holds 22 .isub 1 23 := ⟨(by decide +kernel), rfl⟩
theorem d_H_holds_23 : Db k_H_holds 23 (.if_icmp .gt) 26 30 := ⟨7, (by decide +kernel), rfl, by decide⟩
theorem d_H_holds_26 : Dc k_H_holds 26 (1) 27 := Or.inl ⟨(by decide +kernel), rfl⟩
theorem d_H_holds_27 : Db k_H_holds 27 .goto 30 31 := ⟨4, (by decide +kernel), rfl, by decide⟩
theorem d_H_holds_30 : Dc k_H_holds 30 (0) 31 := Or.inl ⟨(by decide +kernel), rfl⟩
theorem d_H_holds_31 : DrZ k_H_holds 31 := ⟨(by decide +kernel), rfl⟩
theorem d_H_fault_0 : DlA k_H_fault 0 0 1 := Or.inl ⟨0, (by decide +kernel), rfl, rfl⟩
theorem d_H_fault_1 : DCV k_H_fault 1 k_H_isMissing 2 0 4 := ⟨28, (by decide +kernel), rfl, tb_at 529 (by decide +kernel) (by decide +kernel), m_H_isMissing, iv_H_isMissing.1, iv_H_isMissing.2, ⟨(RX2, TX2, 3), rfl, rfl⟩, by decide +kernel, by decide⟩
theorem d_H_fault_4 : Db k_H_fault 4 (.ifCond .eq) 7 10 := ⟨6, (by decide +kernel), rfl, by decide⟩
theorem d_H_fault_7 : Dc k_H_fault 7 (-11) 9 := Or.inr (Or.inl ⟨(by decide +kernel), by decide, rfl⟩)
theorem d_H_fault_9 : DrI k_H_fault 9 := ⟨(by decide +kernel), rfl⟩
theorem d_H_fault_10 : DlA k_H_fault 10 0 11 := Or.inl ⟨0, (by decide +kernel), rfl, rfl⟩
theorem d_H_fault_11 : DG k_H_fault 11 2 0 14 := ⟨9, (by decide +kernel), f_H_9, rfl⟩
theorem d_H_fault_14 : DlI k_H_fault 14 1 15 := Or.inl ⟨1, (by decide +kernel), rfl, rfl⟩
theorem d_H_fault_15 : Db k_H_fault 15 (.if_icmp .eq) 18 21 := ⟨6, (by decide +kernel), rfl, by decide⟩
theorem d_H_fault_18 : Dc k_H_fault 18 (-12) 20 := Or.inr (Or.inl ⟨(by decide +kernel), by decide, rfl⟩)
theorem d_H_fault_20 : DrI k_H_fault 20 := ⟨(by decide +kernel), rfl⟩
theorem d_H_fault_21 : DlA k_H_fault 21 0 22 := Or.inl ⟨0, (by decide +kernel), rfl, rfl⟩
theorem d_H_fault_22 : DlI k_H_fault 22 2 23 := Or.inl ⟨2, (by decide +kernel), rfl, rfl⟩
theorem d_H_fault_23 : DlI k_H_fault 23 3 24 := Or.inl ⟨3, (by decide +kernel), rfl, rfl⟩
theorem d_H_fault_24 : DCV k_H_fault 24 k_H_holds 2 2 27 := ⟨32, (by decide +kernel), rfl, tb_at 533 (by decide +kernel) (by decide +kernel), m_H_holds, iv_H_holds.1, iv_H_holds.2, ⟨(RX2, TX2, 3), rfl, rfl⟩, by decide +kernel, by decide⟩
theorem d_H_fault_27 : Db k_H_fault 27 (.ifCond .eq) 30 34 := ⟨7, (by decide +kernel), rfl, by decide⟩
theorem d_H_fault_30 : Dc k_H_fault 30 (0) 31 := Or.inl ⟨(by decide +kernel), rfl⟩
theorem d_H_fault_31 : Db k_H_fault 31 .goto 34 36 := ⟨5, (by decide +kernel), rfl, by decide⟩
theorem d_H_fault_34 : Dc k_H_fault 34 (-13) 36 := Or.inr (Or.inl ⟨(by decide +kernel), by decide, rfl⟩)
theorem d_H_fault_36 : DrI k_H_fault 36 := ⟨(by decide +kernel), rfl⟩
theorem d_H_tellsPairs_0 : Dc k_H_tellsPairs 0 (0) 1 := Or.inl ⟨(by decide +kernel), rfl⟩
theorem d_H_tellsPairs_1 : DsI k_H_tellsPairs 1 3 2 := ⟨Or.inl ⟨3, (by decide +kernel), rfl, rfl⟩, by decide⟩
theorem d_H_tellsPairs_2 : DlI k_H_tellsPairs 2 3 3 := Or.inl ⟨3, (by decide +kernel), rfl, rfl⟩
theorem d_H_tellsPairs_3 : DlI k_H_tellsPairs 3 2 4 := Or.inl ⟨2, (by decide +kernel), rfl, rfl⟩
theorem d_H_tellsPairs_4 : Db k_H_tellsPairs 4 (.if_icmp .ge) 7 71 := ⟨67, (by decide +kernel), rfl, by decide⟩
theorem d_H_tellsPairs_7 : DlA k_H_tellsPairs 7 0 8 := Or.inl ⟨0, (by decide +kernel), rfl, rfl⟩
theorem d_H_tellsPairs_8 : DlI k_H_tellsPairs 8 1 9 := Or.inl ⟨1, (by decide +kernel), rfl, rfl⟩
theorem d_H_tellsPairs_9 : Dc k_H_tellsPairs 9 (2) 10 := Or.inl ⟨(by decide +kernel), rfl⟩
theorem d_H_tellsPairs_10 : DlI k_H_tellsPairs 10 3 11 := Or.inl ⟨3, (by decide +kernel), rfl, rfl⟩
theorem d_H_tellsPairs_11 : Dk k_H_tellsPairs 11 .imul 1 12 := ⟨(by decide +kernel), rfl⟩
theorem d_H_tellsPairs_12 : Dk k_H_tellsPairs 12 .iadd 1 13 := ⟨(by decide +kernel), rfl⟩
theorem d_H_tellsPairs_13 : DCV k_H_tellsPairs 13 k_H_at 2 1 16 := ⟨36, (by decide +kernel), rfl, tb_at 541 (by decide +kernel) (by decide +kernel), m_H_at, iv_H_at.1, iv_H_at.2, ⟨(RX2, TX2, 3), rfl, rfl⟩, by decide +kernel, by decide⟩
theorem d_H_tellsPairs_16 : DsL k_H_tellsPairs 16 4 18 := ⟨Or.inr ⟨(by decide +kernel), rfl⟩, by decide⟩
theorem d_H_tellsPairs_18 : DlA k_H_tellsPairs 18 0 19 := Or.inl ⟨0, (by decide +kernel), rfl, rfl⟩
theorem d_H_tellsPairs_19 : DlI k_H_tellsPairs 19 1 20 := Or.inl ⟨1, (by decide +kernel), rfl, rfl⟩
theorem d_H_tellsPairs_20 : Dc k_H_tellsPairs 20 (2) 21 := Or.inl ⟨(by decide +kernel), rfl⟩
theorem d_H_tellsPairs_21 : DlI k_H_tellsPairs 21 3 22 := Or.inl ⟨3, (by decide +kernel), rfl, rfl⟩
theorem d_H_tellsPairs_22 : Dk k_H_tellsPairs 22 .imul 1 23 := ⟨(by decide +kernel), rfl⟩
theorem d_H_tellsPairs_23 : Dk k_H_tellsPairs 23 .iadd 1 24 := ⟨(by decide +kernel), rfl⟩
theorem d_H_tellsPairs_24 : Dc k_H_tellsPairs 24 (1) 25 := Or.inl ⟨(by decide +kernel), rfl⟩
theorem d_H_tellsPairs_25 : Dk k_H_tellsPairs 25 .iadd 1 26 := ⟨(by decide +kernel), rfl⟩
theorem d_H_tellsPairs_26 : DCV k_H_tellsPairs 26 k_H_at 2 1 29 := ⟨36, (by decide +kernel), rfl, tb_at 541 (by decide +kernel) (by decide +kernel), m_H_at, iv_H_at.1, iv_H_at.2, ⟨(RX2, TX2, 3), rfl, rfl⟩, by decide +kernel, by decide⟩
theorem d_H_tellsPairs_29 : DsL k_H_tellsPairs 29 6 31 := ⟨Or.inr ⟨(by decide +kernel), rfl⟩, by decide⟩
theorem d_H_tellsPairs_31 : DlL k_H_tellsPairs 31 4 33 := Or.inr ⟨(by decide +kernel), rfl⟩
theorem d_H_tellsPairs_33 : DcL k_H_tellsPairs 33 0 34 := Or.inl ⟨0, (by decide +kernel), by decide, rfl⟩
theorem d_H_tellsPairs_34 : Dk k_H_tellsPairs 34 .lcmp 1 35 := ⟨(by decide +kernel), rfl⟩
theorem d_H_tellsPairs_35 : Db k_H_tellsPairs 35 (.ifCond .lt) 38 63 := ⟨28, (by decide +kernel), rfl, by decide⟩
theorem d_H_tellsPairs_38 : DlL k_H_tellsPairs 38 4 40 := Or.inr ⟨(by decide +kernel), rfl⟩
theorem d_H_tellsPairs_40 : DcL k_H_tellsPairs 40 (9) 43 := Or.inr ⟨40, (by decide +kernel), tb_at 545 (by decide +kernel) (by decide +kernel), rfl⟩
theorem d_H_tellsPairs_43 : Dk k_H_tellsPairs 43 .lcmp 1 44 := ⟨(by decide +kernel), rfl⟩
theorem d_H_tellsPairs_44 : Db k_H_tellsPairs 44 (.ifCond .gt) 47 63 := ⟨19, (by decide +kernel), rfl, by decide⟩
theorem d_H_tellsPairs_47 : DlL k_H_tellsPairs 47 6 49 := Or.inr ⟨(by decide +kernel), rfl⟩
theorem d_H_tellsPairs_49 : DcL k_H_tellsPairs 49 0 50 := Or.inl ⟨0, (by decide +kernel), by decide, rfl⟩
theorem d_H_tellsPairs_50 : Dk k_H_tellsPairs 50 .lcmp 1 51 := ⟨(by decide +kernel), rfl⟩
theorem d_H_tellsPairs_51 : Db k_H_tellsPairs 51 (.ifCond .lt) 54 63 := ⟨12, (by decide +kernel), rfl, by decide⟩
theorem d_H_tellsPairs_54 : DlL k_H_tellsPairs 54 6 56 := Or.inr ⟨(by decide +kernel), rfl⟩
theorem d_H_tellsPairs_56 : DcL k_H_tellsPairs 56 (40) 59 := Or.inr ⟨42, (by decide +kernel), tb_at 546 (by decide +kernel) (by decide +kernel), rfl⟩
theorem d_H_tellsPairs_59 : Dk k_H_tellsPairs 59 .lcmp 1 60 := ⟨(by decide +kernel), rfl⟩
theorem d_H_tellsPairs_60 : Db k_H_tellsPairs 60 (.ifCond .le) 63 65 := ⟨5, (by decide +kernel), rfl, by decide⟩
theorem d_H_tellsPairs_63 : Dc k_H_tellsPairs 63 (0) 64 := Or.inl ⟨(by decide +kernel), rfl⟩
theorem d_H_tellsPairs_64 : DrZ k_H_tellsPairs 64 := ⟨(by decide +kernel), rfl⟩
theorem d_H_tellsPairs_65 : Dinc k_H_tellsPairs 65 3 (1) 68 := ⟨(by decide +kernel), rfl, by decide⟩
theorem d_H_tellsPairs_68 : Db k_H_tellsPairs 68 .goto 71 2 := ⟨-66, (by decide +kernel), rfl, by decide⟩
theorem d_H_tellsPairs_71 : Dc k_H_tellsPairs 71 (1) 72 := Or.inl ⟨(by decide +kernel), rfl⟩
theorem d_H_tellsPairs_72 : DrZ k_H_tellsPairs 72 := ⟨(by decide +kernel), rfl⟩
theorem d_H_at_0 : DlA k_H_at 0 0 1 := Or.inl ⟨0, (by decide +kernel), rfl, rfl⟩
theorem d_H_at_1 : DlI k_H_at 1 1 2 := Or.inl ⟨1, (by decide +kernel), rfl, rfl⟩
theorem d_H_at_2 : Dc k_H_at 2 (1) 3 := Or.inl ⟨(by decide +kernel), rfl⟩
theorem d_H_at_3 : DCV k_H_at 3 k_H_holds 2 2 6 := ⟨32, (by decide +kernel), rfl, tb_at 533 (by decide +kernel) (by decide +kernel), m_H_holds, iv_H_holds.1, iv_H_holds.2, ⟨(RX2, TX2, 3), rfl, rfl⟩, by decide +kernel, by decide⟩
theorem d_H_at_6 : Db k_H_at 6 (.ifCond .eq) 9 18 := ⟨12, (by decide +kernel), rfl, by decide⟩
theorem d_H_at_9 : DlA k_H_at 9 0 10 := Or.inl ⟨0, (by decide +kernel), rfl, rfl⟩
theorem d_H_at_10 : DG k_H_at 10 2 2 13 := ⟨18, (by decide +kernel), f_H_18, rfl⟩
theorem d_H_at_13 : DlI k_H_at 13 1 14 := Or.inl ⟨1, (by decide +kernel), rfl, rfl⟩
theorem d_H_at_14 : Dk k_H_at 14 .laload 1 15 := ⟨(by decide +kernel), rfl⟩
theorem d_H_at_15 : Db k_H_at 15 .goto 18 19 := ⟨4, (by decide +kernel), rfl, by decide⟩
theorem d_H_at_18 : DcL k_H_at 18 0 19 := Or.inl ⟨0, (by decide +kernel), by decide, rfl⟩
theorem d_H_at_19 : DrL k_H_at 19 := ⟨(by decide +kernel), rfl⟩
theorem d_H_put_0 : DlA k_H_put 0 0 1 := Or.inl ⟨0, (by decide +kernel), rfl, rfl⟩
theorem d_H_put_1 : DlI k_H_put 1 1 2 := Or.inl ⟨1, (by decide +kernel), rfl, rfl⟩
theorem d_H_put_2 : Dc k_H_put 2 (1) 3 := Or.inl ⟨(by decide +kernel), rfl⟩
theorem d_H_put_3 : DCV k_H_put 3 k_H_holds 2 2 6 := ⟨32, (by decide +kernel), rfl, tb_at 533 (by decide +kernel) (by decide +kernel), m_H_holds, iv_H_holds.1, iv_H_holds.2, ⟨(RX2, TX2, 3), rfl, rfl⟩, by decide +kernel, by decide⟩
theorem d_H_put_6 : Db k_H_put 6 (.ifCond .ne) 9 10 := ⟨4, (by decide +kernel), rfl, by decide⟩
theorem d_H_put_9 : DrV k_H_put 9 := ⟨(by decide +kernel), rfl⟩
theorem d_H_put_10 : DlA k_H_put 10 0 11 := Or.inl ⟨0, (by decide +kernel), rfl, rfl⟩
theorem d_H_put_11 : DG k_H_put 11 2 0 14 := ⟨9, (by decide +kernel), f_H_9, rfl⟩
theorem d_H_put_14 : decode k_H_put.2.2.1 14 = .ok (.tableswitch 64 0 2 #[26, 39, 52], 26) := by decide +kernel
theorem d_H_put_40 : DlA k_H_put 40 0 41 := Or.inl ⟨0, (by decide +kernel), rfl, rfl⟩
theorem d_H_put_41 : DG k_H_put 41 2 2 44 := ⟨18, (by decide +kernel), f_H_18, rfl⟩
theorem d_H_put_44 : DlI k_H_put 44 1 45 := Or.inl ⟨1, (by decide +kernel), rfl, rfl⟩
theorem d_H_put_45 : DlL k_H_put 45 2 46 := Or.inl ⟨2, (by decide +kernel), rfl, rfl⟩
theorem d_H_put_46 : Dk k_H_put 46 .l2i 1 47 := ⟨(by decide +kernel), rfl⟩
theorem d_H_put_47 : Dk k_H_put 47 .i2b 1 48 := ⟨(by decide +kernel), rfl⟩
theorem d_H_put_48 : Dk k_H_put 48 .i2l 1 49 := ⟨(by decide +kernel), rfl⟩
theorem d_H_put_49 : Dk k_H_put 49 .lastore 1 50 := ⟨(by decide +kernel), rfl⟩
theorem d_H_put_50 : Db k_H_put 50 .goto 53 85 := ⟨35, (by decide +kernel), rfl, by decide⟩
theorem d_H_put_53 : DlA k_H_put 53 0 54 := Or.inl ⟨0, (by decide +kernel), rfl, rfl⟩
theorem d_H_put_54 : DG k_H_put 54 2 2 57 := ⟨18, (by decide +kernel), f_H_18, rfl⟩
theorem d_H_put_57 : DlI k_H_put 57 1 58 := Or.inl ⟨1, (by decide +kernel), rfl, rfl⟩
theorem d_H_put_58 : DlL k_H_put 58 2 59 := Or.inl ⟨2, (by decide +kernel), rfl, rfl⟩
theorem d_H_put_59 : Dk k_H_put 59 .l2i 1 60 := ⟨(by decide +kernel), rfl⟩
theorem d_H_put_60 : Dk k_H_put 60 .i2s 1 61 := ⟨(by decide +kernel), rfl⟩
theorem d_H_put_61 : Dk k_H_put 61 .i2l 1 62 := ⟨(by decide +kernel), rfl⟩
theorem d_H_put_62 : Dk k_H_put 62 .lastore 1 63 := ⟨(by decide +kernel), rfl⟩
theorem d_H_put_63 : Db k_H_put 63 .goto 66 85 := ⟨22, (by decide +kernel), rfl, by decide⟩
theorem d_H_put_66 : DlA k_H_put 66 0 67 := Or.inl ⟨0, (by decide +kernel), rfl, rfl⟩
theorem d_H_put_67 : DG k_H_put 67 2 2 70 := ⟨18, (by decide +kernel), f_H_18, rfl⟩
theorem d_H_put_70 : DlI k_H_put 70 1 71 := Or.inl ⟨1, (by decide +kernel), rfl, rfl⟩
theorem d_H_put_71 : DlL k_H_put 71 2 72 := Or.inl ⟨2, (by decide +kernel), rfl, rfl⟩
theorem d_H_put_72 : Dk k_H_put 72 .l2i 1 73 := ⟨(by decide +kernel), rfl⟩
theorem d_H_put_73 : Dk k_H_put 73 .i2l 1 74 := ⟨(by decide +kernel), rfl⟩
theorem d_H_put_74 : Dk k_H_put 74 .lastore 1 75 := ⟨(by decide +kernel), rfl⟩
theorem d_H_put_75 : Db k_H_put 75 .goto 78 85 := ⟨10, (by decide +kernel), rfl, by decide⟩
theorem d_H_put_78 : DlA k_H_put 78 0 79 := Or.inl ⟨0, (by decide +kernel), rfl, rfl⟩
theorem d_H_put_79 : DG k_H_put 79 2 2 82 := ⟨18, (by decide +kernel), f_H_18, rfl⟩
theorem d_H_put_82 : DlI k_H_put 82 1 83 := Or.inl ⟨1, (by decide +kernel), rfl, rfl⟩
theorem d_H_put_83 : DlL k_H_put 83 2 84 := Or.inl ⟨2, (by decide +kernel), rfl, rfl⟩
theorem d_H_put_84 : Dk k_H_put 84 .lastore 1 85 := ⟨(by decide +kernel), rfl⟩
theorem d_H_put_85 : DrV k_H_put 85 := ⟨(by decide +kernel), rfl⟩
theorem d_T_init_0 : DlA k_T_init 0 0 1 := Or.inl ⟨0, (by decide +kernel), rfl, rfl⟩
theorem d_T_init_4 : DlA k_T_init 4 0 5 := Or.inl ⟨0, (by decide +kernel), rfl, rfl⟩
theorem d_T_init_5 : Dc k_T_init 5 (90) 7 := Or.inr (Or.inl ⟨(by decide +kernel), by decide, rfl⟩)
theorem d_T_init_12 : DlA k_T_init 12 0 13 := Or.inl ⟨0, (by decide +kernel), rfl, rfl⟩
theorem d_T_init_13 : Dc k_T_init 13 (0) 14 := Or.inl ⟨(by decide +kernel), rfl⟩
theorem d_T_init_14 : DP k_T_init 14 3 1 17 .int := ⟨15, (by decide +kernel), p_T_15, rfl, RX3, TX3, 5, rfl, rfl⟩
theorem d_T_init_17 : DlA k_T_init 17 0 18 := Or.inl ⟨0, (by decide +kernel), rfl, rfl⟩
theorem d_T_init_18 : Dc k_T_init 18 (90) 20 := Or.inr (Or.inl ⟨(by decide +kernel), by decide, rfl⟩)
theorem d_T_init_25 : DlA k_T_init 25 0 26 := Or.inl ⟨0, (by decide +kernel), rfl, rfl⟩
theorem d_T_init_26 : Dc k_T_init 26 (90) 28 := Or.inr (Or.inl ⟨(by decide +kernel), by decide, rfl⟩)
theorem d_T_init_33 : DlA k_T_init 33 0 34 := Or.inl ⟨0, (by decide +kernel), rfl, rfl⟩
theorem d_T_init_34 : Dc k_T_init 34 (0) 35 := Or.inl ⟨(by decide +kernel), rfl⟩
theorem d_T_init_35 : DP k_T_init 35 3 4 38 .int := ⟨25, (by decide +kernel), p_T_25, rfl, RX3, TX3, 5, rfl, rfl⟩
theorem d_T_init_38 : DrV k_T_init 38 := ⟨(by decide +kernel), rfl⟩
theorem d_T_add_0 : DlA k_T_add 0 0 1 := Or.inl ⟨0, (by decide +kernel), rfl, rfl⟩
theorem d_T_add_1 : DG k_T_add 1 3 1 4 := ⟨15, (by decide +kernel), f_T_15, rfl⟩
theorem d_T_add_4 : Dc k_T_add 4 (90) 6 := Or.inr (Or.inl ⟨(by decide +kernel), by decide, rfl⟩)
theorem d_T_add_6 : Db k_T_add 6 (.if_icmp .ge) 9 29 := ⟨23, (by decide +kernel), rfl, by decide⟩
theorem d_T_add_9 : DlA k_T_add 9 0 10 := Or.inl ⟨0, (by decide +kernel), rfl, rfl⟩
theorem d_T_add_10 : DG k_T_add 10 3 0 13 := ⟨9, (by decide +kernel), f_T_9, rfl⟩
theorem d_T_add_13 : DlA k_T_add 13 0 14 := Or.inl ⟨0, (by decide +kernel), rfl, rfl⟩
theorem d_T_add_14 : DG k_T_add 14 3 1 17 := ⟨15, (by decide +kernel), f_T_15, rfl⟩
theorem d_T_add_17 : DlI k_T_add 17 1 18 := Or.inl ⟨1, (by decide +kernel), rfl, rfl⟩
theorem d_T_add_18 : Dk k_T_add 18 .iastore 1 19 := ⟨(by decide +kernel), rfl⟩
theorem d_T_add_19 : DlA k_T_add 19 0 20 := Or.inl ⟨0, (by decide +kernel), rfl, rfl⟩
theorem d_T_add_20 : Dk k_T_add 20 .dup 1 21 := ⟨(by decide +kernel), rfl⟩
theorem d_T_add_21 : DG k_T_add 21 3 1 24 := ⟨15, (by decide +kernel), f_T_15, rfl⟩
theorem d_T_add_24 : Dc k_T_add 24 (1) 25 := Or.inl ⟨(by decide +kernel), rfl⟩
theorem d_T_add_25 : Dk k_T_add 25 .iadd 1 26 := ⟨(by decide +kernel), rfl⟩
theorem d_T_add_26 : DP k_T_add 26 3 1 29 .int := ⟨15, (by decide +kernel), p_T_15, rfl, RX3, TX3, 5, rfl, rfl⟩
theorem d_T_add_29 : DrV k_T_add 29 := ⟨(by decide +kernel), rfl⟩
theorem d_T_parse_0 : DlA k_T_parse 0 0 1 := Or.inl ⟨0, (by decide +kernel), rfl, rfl⟩
theorem d_T_parse_1 : Dc k_T_parse 1 (0) 2 := Or.inl ⟨(by decide +kernel), rfl⟩
theorem d_T_parse_2 : DP k_T_parse 2 3 4 5 .int := ⟨25, (by decide +kernel), p_T_25, rfl, RX3, TX3, 5, rfl, rfl⟩
theorem d_T_parse_5 : DlA k_T_parse 5 0 6 := Or.inl ⟨0, (by decide +kernel), rfl, rfl⟩
theorem d_T_parse_6 : Dc k_T_parse 6 (0) 7 := Or.inl ⟨(by decide +kernel), rfl⟩
theorem d_T_parse_7 : DCV k_T_parse 7 k_T_skipBlanks 3 1 10 := ⟨28, (by decide +kernel), rfl, tb_at 452 (by decide +kernel) (by decide +kernel), m_T_skipBlanks, iv_T_skipBlanks.1, iv_T_skipBlanks.2, ⟨(RX3, TX3, 5), rfl, rfl⟩, by decide +kernel, by decide⟩
theorem d_T_parse_10 : DsI k_T_parse 10 1 11 := ⟨Or.inl ⟨1, (by decide +kernel), rfl, rfl⟩, by decide⟩
theorem d_T_parse_11 : Dc k_T_parse 11 (0) 12 := Or.inl ⟨(by decide +kernel), rfl⟩
theorem d_T_parse_12 : DsI k_T_parse 12 2 13 := ⟨Or.inl ⟨2, (by decide +kernel), rfl, rfl⟩, by decide⟩
theorem d_T_parse_13 : DlI k_T_parse 13 2 14 := Or.inl ⟨2, (by decide +kernel), rfl, rfl⟩
theorem d_T_parse_14 : Dc k_T_parse 14 (90) 16 := Or.inr (Or.inl ⟨(by decide +kernel), by decide, rfl⟩)
theorem d_T_parse_16 : Db k_T_parse 16 (.if_icmp .ge) 19 133 := ⟨117, (by decide +kernel), rfl, by decide⟩
theorem d_T_parse_19 : DlI k_T_parse 19 1 20 := Or.inl ⟨1, (by decide +kernel), rfl, rfl⟩
theorem d_T_parse_20 : DlA k_T_parse 20 0 21 := Or.inl ⟨0, (by decide +kernel), rfl, rfl⟩
theorem d_T_parse_21 : DG k_T_parse 21 3 1 24 := ⟨15, (by decide +kernel), f_T_15, rfl⟩
theorem d_T_parse_24 : Db k_T_parse 24 (.if_icmp .lt) 27 31 := ⟨7, (by decide +kernel), rfl, by decide⟩
theorem d_T_parse_27 : DlI k_T_parse 27 2 28 := Or.inl ⟨2, (by decide +kernel), rfl, rfl⟩
theorem d_T_parse_28 : Db k_T_parse 28 (.ifCond .ne) 31 133 := ⟨105, (by decide +kernel), rfl, by decide⟩
theorem d_T_parse_31 : DlA k_T_parse 31 0 32 := Or.inl ⟨0, (by decide +kernel), rfl, rfl⟩
theorem d_T_parse_32 : DlI k_T_parse 32 1 33 := Or.inl ⟨1, (by decide +kernel), rfl, rfl⟩
theorem d_T_parse_33 : DCV k_T_parse 33 k_T_senderAt 3 1 36 := ⟨32, (by decide +kernel), rfl, tb_at 460 (by decide +kernel) (by decide +kernel), m_T_senderAt, iv_T_senderAt.1, iv_T_senderAt.2, ⟨(RX3, TX3, 5), rfl, rfl⟩, by decide +kernel, by decide⟩
theorem d_T_parse_36 : DsI k_T_parse 36 3 37 := ⟨Or.inl ⟨3, (by decide +kernel), rfl, rfl⟩, by decide⟩
theorem d_T_parse_37 : DlI k_T_parse 37 3 38 := Or.inl ⟨3, (by decide +kernel), rfl, rfl⟩
theorem d_T_parse_38 : Dc k_T_parse 38 (-4) 40 := Or.inr (Or.inl ⟨(by decide +kernel), by decide, rfl⟩)
theorem d_T_parse_40 : Db k_T_parse 40 (.if_icmp .ne) 43 45 := ⟨5, (by decide +kernel), rfl, by decide⟩
theorem d_T_parse_43 : DlI k_T_parse 43 1 44 := Or.inl ⟨1, (by decide +kernel), rfl, rfl⟩
theorem d_T_parse_44 : DrI k_T_parse 44 := ⟨(by decide +kernel), rfl⟩
theorem d_T_parse_45 : Dc k_T_parse 45 (0) 46 := Or.inl ⟨(by decide +kernel), rfl⟩
theorem d_T_parse_46 : DsI k_T_parse 46 4 48 := ⟨Or.inr ⟨(by decide +kernel), rfl⟩, by decide⟩
theorem d_T_parse_48 : DlI k_T_parse 48 3 49 := Or.inl ⟨3, (by decide +kernel), rfl, rfl⟩
theorem d_T_parse_49 : Dc k_T_parse 49 (-1) 50 := Or.inl ⟨(by decide +kernel), rfl⟩
theorem d_T_parse_50 : Db k_T_parse 50 (.if_icmp .eq) 53 97 := ⟨47, (by decide +kernel), rfl, by decide⟩
theorem d_T_parse_53 : DlA k_T_parse 53 0 54 := Or.inl ⟨0, (by decide +kernel), rfl, rfl⟩
theorem d_T_parse_54 : DlI k_T_parse 54 1 55 := Or.inl ⟨1, (by decide +kernel), rfl, rfl⟩
theorem d_T_parse_55 : Dc k_T_parse 55 (1) 56 := Or.inl ⟨(by decide +kernel), rfl⟩
theorem d_T_parse_56 : Dk k_T_parse 56 .iadd 1 57 := ⟨(by decide +kernel), rfl⟩
theorem d_T_parse_57 : DCV k_T_parse 57 k_T_skipBlanks 3 1 60 := ⟨28, (by decide +kernel), rfl, tb_at 452 (by decide +kernel) (by decide +kernel), m_T_skipBlanks, iv_T_skipBlanks.1, iv_T_skipBlanks.2, ⟨(RX3, TX3, 5), rfl, rfl⟩, by decide +kernel, by decide⟩
theorem d_T_parse_60 : DsI k_T_parse 60 1 61 := ⟨Or.inl ⟨1, (by decide +kernel), rfl, rfl⟩, by decide⟩
theorem d_T_parse_61 : DlA k_T_parse 61 0 62 := Or.inl ⟨0, (by decide +kernel), rfl, rfl⟩
theorem d_T_parse_62 : DlI k_T_parse 62 1 63 := Or.inl ⟨1, (by decide +kernel), rfl, rfl⟩
theorem d_T_parse_63 : DCV k_T_parse 63 k_T_signAt 3 1 66 := ⟨35, (by decide +kernel), rfl, tb_at 456 (by decide +kernel) (by decide +kernel), m_T_signAt, iv_T_signAt.1, iv_T_signAt.2, ⟨(RX3, TX3, 5), rfl, rfl⟩, by decide +kernel, by decide⟩
theorem d_T_parse_66 : Dc k_T_parse 66 (62) 68 := Or.inr (Or.inl ⟨(by decide +kernel), by decide, rfl⟩)
theorem d_T_parse_68 : Db k_T_parse 68 (.if_icmp .eq) 71 73 := ⟨5, (by decide +kernel), rfl, by decide⟩
theorem d_T_parse_71 : DlI k_T_parse 71 1 72 := Or.inl ⟨1, (by decide +kernel), rfl, rfl⟩
theorem d_T_parse_72 : DrI k_T_parse 72 := ⟨(by decide +kernel), rfl⟩
theorem d_T_parse_73 : DlA k_T_parse 73 0 74 := Or.inl ⟨0, (by decide +kernel), rfl, rfl⟩
theorem d_T_parse_74 : DlI k_T_parse 74 1 75 := Or.inl ⟨1, (by decide +kernel), rfl, rfl⟩
theorem d_T_parse_75 : Dc k_T_parse 75 (1) 76 := Or.inl ⟨(by decide +kernel), rfl⟩
theorem d_T_parse_76 : Dk k_T_parse 76 .iadd 1 77 := ⟨(by decide +kernel), rfl⟩
theorem d_T_parse_77 : DCV k_T_parse 77 k_T_skipBlanks 3 1 80 := ⟨28, (by decide +kernel), rfl, tb_at 452 (by decide +kernel) (by decide +kernel), m_T_skipBlanks, iv_T_skipBlanks.1, iv_T_skipBlanks.2, ⟨(RX3, TX3, 5), rfl, rfl⟩, by decide +kernel, by decide⟩
theorem d_T_parse_80 : DsI k_T_parse 80 1 81 := ⟨Or.inl ⟨1, (by decide +kernel), rfl, rfl⟩, by decide⟩
theorem d_T_parse_81 : DlA k_T_parse 81 0 82 := Or.inl ⟨0, (by decide +kernel), rfl, rfl⟩
theorem d_T_parse_82 : DlI k_T_parse 82 1 83 := Or.inl ⟨1, (by decide +kernel), rfl, rfl⟩
theorem d_T_parse_83 : DCV k_T_parse 83 k_T_figureAt 3 1 86 := ⟨38, (by decide +kernel), rfl, tb_at 464 (by decide +kernel) (by decide +kernel), m_T_figureAt, iv_T_figureAt.1, iv_T_figureAt.2, ⟨(RX3, TX3, 5), rfl, rfl⟩, by decide +kernel, by decide⟩
theorem d_T_parse_86 : DsI k_T_parse 86 4 88 := ⟨Or.inr ⟨(by decide +kernel), rfl⟩, by decide⟩
theorem d_T_parse_88 : DlI k_T_parse 88 4 90 := Or.inr ⟨(by decide +kernel), rfl⟩
theorem d_T_parse_90 : Dc k_T_parse 90 (-4) 92 := Or.inr (Or.inl ⟨(by decide +kernel), by decide, rfl⟩)
theorem d_T_parse_92 : Db k_T_parse 92 (.if_icmp .ne) 95 97 := ⟨5, (by decide +kernel), rfl, by decide⟩
theorem d_T_parse_95 : DlI k_T_parse 95 1 96 := Or.inl ⟨1, (by decide +kernel), rfl, rfl⟩
theorem d_T_parse_96 : DrI k_T_parse 96 := ⟨(by decide +kernel), rfl⟩
theorem d_T_parse_97 : DlA k_T_parse 97 0 98 := Or.inl ⟨0, (by decide +kernel), rfl, rfl⟩
theorem d_T_parse_98 : DG k_T_parse 98 3 2 101 := ⟨19, (by decide +kernel), f_T_19, rfl⟩
theorem d_T_parse_101 : DlI k_T_parse 101 2 102 := Or.inl ⟨2, (by decide +kernel), rfl, rfl⟩
theorem d_T_parse_102 : DlI k_T_parse 102 3 103 := Or.inl ⟨3, (by decide +kernel), rfl, rfl⟩
theorem d_T_parse_103 : Dk k_T_parse 103 .iastore 1 104 := ⟨(by decide +kernel), rfl⟩
theorem d_T_parse_104 : DlA k_T_parse 104 0 105 := Or.inl ⟨0, (by decide +kernel), rfl, rfl⟩
theorem d_T_parse_105 : DG k_T_parse 105 3 3 108 := ⟨22, (by decide +kernel), f_T_22, rfl⟩
theorem d_T_parse_108 : DlI k_T_parse 108 2 109 := Or.inl ⟨2, (by decide +kernel), rfl, rfl⟩
theorem d_T_parse_109 : DlI k_T_parse 109 4 111 := Or.inr ⟨(by decide +kernel), rfl⟩
theorem d_T_parse_111 : Dk k_T_parse 111 .iastore 1 112 := ⟨(by decide +kernel), rfl⟩
theorem d_T_parse_112 : DlA k_T_parse 112 0 113 := Or.inl ⟨0, (by decide +kernel), rfl, rfl⟩
theorem d_T_parse_113 : DlI k_T_parse 113 2 114 := Or.inl ⟨2, (by decide +kernel), rfl, rfl⟩
theorem d_T_parse_114 : Dc k_T_parse 114 (1) 115 := Or.inl ⟨(by decide +kernel), rfl⟩
theorem d_T_parse_115 : Dk k_T_parse 115 .iadd 1 116 := ⟨(by decide +kernel), rfl⟩
theorem d_T_parse_116 : DP k_T_parse 116 3 4 119 .int := ⟨25, (by decide +kernel), p_T_25, rfl, RX3, TX3, 5, rfl, rfl⟩
theorem d_T_parse_119 : DlA k_T_parse 119 0 120 := Or.inl ⟨0, (by decide +kernel), rfl, rfl⟩
theorem d_T_parse_120 : DlI k_T_parse 120 1 121 := Or.inl ⟨1, (by decide +kernel), rfl, rfl⟩
theorem d_T_parse_121 : Dc k_T_parse 121 (1) 122 := Or.inl ⟨(by decide +kernel), rfl⟩
theorem d_T_parse_122 : Dk k_T_parse 122 .iadd 1 123 := ⟨(by decide +kernel), rfl⟩
theorem d_T_parse_123 : DCV k_T_parse 123 k_T_skipBlanks 3 1 126 := ⟨28, (by decide +kernel), rfl, tb_at 452 (by decide +kernel) (by decide +kernel), m_T_skipBlanks, iv_T_skipBlanks.1, iv_T_skipBlanks.2, ⟨(RX3, TX3, 5), rfl, rfl⟩, by decide +kernel, by decide⟩
theorem d_T_parse_126 : DsI k_T_parse 126 1 127 := ⟨Or.inl ⟨1, (by decide +kernel), rfl, rfl⟩, by decide⟩
theorem d_T_parse_127 : Dinc k_T_parse 127 2 (1) 130 := ⟨(by decide +kernel), rfl, by decide⟩
theorem d_T_parse_130 : Db k_T_parse 130 .goto 133 13 := ⟨-117, (by decide +kernel), rfl, by decide⟩
theorem d_T_parse_133 : Dc k_T_parse 133 (-1) 134 := Or.inl ⟨(by decide +kernel), rfl⟩
theorem d_T_parse_134 : DrI k_T_parse 134 := ⟨(by decide +kernel), rfl⟩
theorem d_T_skipBlanks_0 : DlI k_T_skipBlanks 0 1 1 := Or.inl ⟨1, (by decide +kernel), rfl, rfl⟩
theorem d_T_skipBlanks_1 : DsI k_T_skipBlanks 1 2 2 := ⟨Or.inl ⟨2, (by decide +kernel), rfl, rfl⟩, by decide⟩
theorem d_T_skipBlanks_2 : DlI k_T_skipBlanks 2 2 3 := Or.inl ⟨2, (by decide +kernel), rfl, rfl⟩
theorem d_T_skipBlanks_3 : DlA k_T_skipBlanks 3 0 4 := Or.inl ⟨0, (by decide +kernel), rfl, rfl⟩
theorem d_T_skipBlanks_4 : DG k_T_skipBlanks 4 3 1 7 := ⟨15, (by decide +kernel), f_T_15, rfl⟩
theorem d_T_skipBlanks_7 : Db k_T_skipBlanks 7 (.if_icmp .ge) 10 26 := ⟨19, (by decide +kernel), rfl, by decide⟩
theorem d_T_skipBlanks_10 : DlA k_T_skipBlanks 10 0 11 := Or.inl ⟨0, (by decide +kernel), rfl, rfl⟩
theorem d_T_skipBlanks_11 : DlI k_T_skipBlanks 11 2 12 := Or.inl ⟨2, (by decide +kernel), rfl, rfl⟩
theorem d_T_skipBlanks_12 : DCV k_T_skipBlanks 12 k_T_signAt 3 1 15 := ⟨35, (by decide +kernel), rfl, tb_at 456 (by decide +kernel) (by decide +kernel), m_T_signAt, iv_T_signAt.1, iv_T_signAt.2, ⟨(RX3, TX3, 5), rfl, rfl⟩, by decide +kernel, by decide⟩
theorem d_T_skipBlanks_15 : Dc k_T_skipBlanks 15 (32) 17 := Or.inr (Or.inl ⟨(by decide +kernel), by decide, rfl⟩)
theorem d_T_skipBlanks_17 : Db k_T_skipBlanks 17 (.if_icmp .ne) 20 26 := ⟨9, (by decide +kernel), rfl, by decide⟩
theorem d_T_skipBlanks_20 : Dinc k_T_skipBlanks 20 2 (1) 23 := ⟨(by decide +kernel), rfl, by decide⟩
theorem d_T_skipBlanks_23 : Db k_T_skipBlanks 23 .goto 26 2 := ⟨-21, (by decide +kernel), rfl, by decide⟩
theorem d_T_skipBlanks_26 : DlI k_T_skipBlanks 26 2 27 := Or.inl ⟨2, (by decide +kernel), rfl, rfl⟩
theorem d_T_skipBlanks_27 : DrI k_T_skipBlanks 27 := ⟨(by decide +kernel), rfl⟩
theorem d_T_signAt_0 : DlI k_T_signAt 0 1 1 := Or.inl ⟨1, (by decide +kernel), rfl, rfl⟩
theorem d_T_signAt_1 : Db k_T_signAt 1 (.ifCond .lt) 4 27 := ⟨26, (by decide +kernel), rfl, by decide⟩
theorem d_T_signAt_4 : DlI k_T_signAt 4 1 5 := Or.inl ⟨1, (by decide +kernel), rfl, rfl⟩
theorem d_T_signAt_5 : DlA k_T_signAt 5 0 6 := Or.inl ⟨0, (by decide +kernel), rfl, rfl⟩
theorem d_T_signAt_6 : DG k_T_signAt 6 3 1 9 := ⟨15, (by decide +kernel), f_T_15, rfl⟩
theorem d_T_signAt_9 : Db k_T_signAt 9 (.if_icmp .ge) 12 27 := ⟨18, (by decide +kernel), rfl, by decide⟩
theorem d_T_signAt_12 : DlI k_T_signAt 12 1 13 := Or.inl ⟨1, (by decide +kernel), rfl, rfl⟩
theorem d_T_signAt_13 : Dc k_T_signAt 13 (90) 15 := Or.inr (Or.inl ⟨(by decide +kernel), by decide, rfl⟩)
theorem d_T_signAt_15 : Db k_T_signAt 15 (.if_icmp .ge) 18 27 := ⟨12, (by decide +kernel), rfl, by decide⟩
theorem d_T_signAt_18 : DlA k_T_signAt 18 0 19 := Or.inl ⟨0, (by decide +kernel), rfl, rfl⟩
theorem d_T_signAt_19 : DG k_T_signAt 19 3 0 22 := ⟨9, (by decide +kernel), f_T_9, rfl⟩
theorem d_T_signAt_22 : DlI k_T_signAt 22 1 23 := Or.inl ⟨1, (by decide +kernel), rfl, rfl⟩
theorem d_T_signAt_23 : Dk k_T_signAt 23 .iaload 1 24 := ⟨(by decide +kernel), rfl⟩
theorem d_T_signAt_24 : Db k_T_signAt 24 .goto 27 28 := ⟨4, (by decide +kernel), rfl, by decide⟩
theorem d_T_signAt_27 : Dc k_T_signAt 27 (0) 28 := Or.inl ⟨(by decide +kernel), rfl⟩
theorem d_T_signAt_28 : DrI k_T_signAt 28 := ⟨(by decide +kernel), rfl⟩
theorem d_T_senderAt_0 : DlA k_T_senderAt 0 0 1 := Or.inl ⟨0, (by decide +kernel), rfl, rfl⟩
theorem d_T_senderAt_1 : DlI k_T_senderAt 1 1 2 := Or.inl ⟨1, (by decide +kernel), rfl, rfl⟩
theorem d_T_senderAt_2 : DCV k_T_senderAt 2 k_T_signAt 3 1 5 := ⟨35, (by decide +kernel), rfl, tb_at 456 (by decide +kernel) (by decide +kernel), m_T_signAt, iv_T_signAt.1, iv_T_signAt.2, ⟨(RX3, TX3, 5), rfl, rfl⟩, by decide +kernel, by decide⟩
theorem d_T_senderAt_5 : decode k_T_senderAt.2.2.1 5 = .ok (.lookupswitch 32 #[(33, 29), (46, 27)], 27) := by decide +kernel
theorem d_T_senderAt_32 : Dc k_T_senderAt 32 (-1) 33 := Or.inl ⟨(by decide +kernel), rfl⟩
theorem d_T_senderAt_33 : DrI k_T_senderAt 33 := ⟨(by decide +kernel), rfl⟩
theorem d_T_senderAt_34 : Dc k_T_senderAt 34 (9) 36 := Or.inr (Or.inl ⟨(by decide +kernel), by decide, rfl⟩)
theorem d_T_senderAt_36 : DrI k_T_senderAt 36 := ⟨(by decide +kernel), rfl⟩
theorem d_T_senderAt_37 : DlA k_T_senderAt 37 0 38 := Or.inl ⟨0, (by decide +kernel), rfl, rfl⟩
theorem d_T_senderAt_38 : DlI k_T_senderAt 38 1 39 := Or.inl ⟨1, (by decide +kernel), rfl, rfl⟩
theorem d_T_senderAt_39 : DCV k_T_senderAt 39 k_T_figureAt 3 1 42 := ⟨38, (by decide +kernel), rfl, tb_at 464 (by decide +kernel) (by decide +kernel), m_T_figureAt, iv_T_figureAt.1, iv_T_figureAt.2, ⟨(RX3, TX3, 5), rfl, rfl⟩, by decide +kernel, by decide⟩
theorem d_T_senderAt_42 : DrI k_T_senderAt 42 := ⟨(by decide +kernel), rfl⟩
theorem d_T_figureAt_0 : DlA k_T_figureAt 0 0 1 := Or.inl ⟨0, (by decide +kernel), rfl, rfl⟩
theorem d_T_figureAt_1 : DlI k_T_figureAt 1 1 2 := Or.inl ⟨1, (by decide +kernel), rfl, rfl⟩
theorem d_T_figureAt_2 : DCV k_T_figureAt 2 k_T_signAt 3 1 5 := ⟨35, (by decide +kernel), rfl, tb_at 456 (by decide +kernel) (by decide +kernel), m_T_signAt, iv_T_signAt.1, iv_T_signAt.2, ⟨(RX3, TX3, 5), rfl, rfl⟩, by decide +kernel, by decide⟩
theorem d_T_figureAt_5 : Dc k_T_figureAt 5 (48) 7 := Or.inr (Or.inl ⟨(by decide +kernel), by decide, rfl⟩)
theorem d_T_figureAt_7 : Dk k_T_figureAt 7 .isub 1 8 := ⟨(by decide +kernel), rfl⟩
theorem d_T_figureAt_8 : DsI k_T_figureAt 8 2 9 := ⟨Or.inl ⟨2, (by decide +kernel), rfl, rfl⟩, by decide⟩
theorem d_T_figureAt_9 : DlI k_T_figureAt 9 2 10 := Or.inl ⟨2, (by decide +kernel), rfl, rfl⟩
theorem d_T_figureAt_10 : Dc k_T_figureAt 10 (0) 11 := Or.inl ⟨(by decide +kernel), rfl⟩
theorem d_T_figureAt_11 : Dc k_T_figureAt 11 (7) 13 := Or.inr (Or.inl ⟨(by decide +kernel), by decide, rfl⟩)
theorem d_T_figureAt_13 : DCS k_T_figureAt 13 k_X_within 3 16 := ⟨41, (by decide +kernel), rfl, Or.inr ⟨"MixRounds", by decide⟩, m_X_within, is_X_within, by decide +kernel, by decide⟩
theorem d_T_figureAt_16 : Db k_T_figureAt 16 (.ifCond .eq) 19 23 := ⟨7, (by decide +kernel), rfl, by decide⟩
theorem d_T_figureAt_19 : DlI k_T_figureAt 19 2 20 := Or.inl ⟨2, (by decide +kernel), rfl, rfl⟩
theorem d_T_figureAt_20 : Db k_T_figureAt 20 .goto 23 25 := ⟨5, (by decide +kernel), rfl, by decide⟩
theorem d_T_figureAt_23 : Dc k_T_figureAt 23 (-4) 25 := Or.inr (Or.inl ⟨(by decide +kernel), by decide, rfl⟩)
theorem d_T_figureAt_25 : DrI k_T_figureAt 25 := ⟨(by decide +kernel), rfl⟩
theorem d_J_max_0 : DlI k_J_max 0 0 1 := Or.inl ⟨0, (by decide +kernel), rfl, rfl⟩
theorem d_J_max_1 : DlI k_J_max 1 1 2 := Or.inl ⟨1, (by decide +kernel), rfl, rfl⟩
theorem d_J_max_2 : Db k_J_max 2 (.if_icmp .lt) 5 9 := ⟨7, (by decide +kernel), rfl, by decide⟩
theorem d_J_max_5 : DlI k_J_max 5 0 6 := Or.inl ⟨0, (by decide +kernel), rfl, rfl⟩
theorem d_J_max_6 : Db k_J_max 6 .goto 9 10 := ⟨4, (by decide +kernel), rfl, by decide⟩
theorem d_J_max_9 : DlI k_J_max 9 1 10 := Or.inl ⟨1, (by decide +kernel), rfl, rfl⟩
theorem d_J_max_10 : DrI k_J_max 10 := ⟨(by decide +kernel), rfl⟩
theorem d_J_fill_0 : Dc k_J_fill 0 (0) 1 := Or.inl ⟨(by decide +kernel), rfl⟩
theorem d_J_fill_1 : DsI k_J_fill 1 3 2 := ⟨Or.inl ⟨3, (by decide +kernel), rfl, rfl⟩, by decide⟩
theorem d_J_fill_2 : DlA k_J_fill 2 0 3 := Or.inl ⟨0, (by decide +kernel), rfl, rfl⟩
theorem d_J_fill_3 : Dk k_J_fill 3 .arraylength 1 4 := ⟨(by decide +kernel), rfl⟩
theorem d_J_fill_4 : DsI k_J_fill 4 4 6 := ⟨Or.inr ⟨(by decide +kernel), rfl⟩, by decide⟩
theorem d_J_fill_6 : DlI k_J_fill 6 3 7 := Or.inl ⟨3, (by decide +kernel), rfl, rfl⟩
theorem d_J_fill_7 : DlI k_J_fill 7 4 9 := Or.inr ⟨(by decide +kernel), rfl⟩
theorem d_J_fill_9 : Db k_J_fill 9 (.if_icmp .ge) 12 22 := ⟨13, (by decide +kernel), rfl, by decide⟩
theorem d_J_fill_12 : DlA k_J_fill 12 0 13 := Or.inl ⟨0, (by decide +kernel), rfl, rfl⟩
theorem d_J_fill_13 : DlI k_J_fill 13 3 14 := Or.inl ⟨3, (by decide +kernel), rfl, rfl⟩
theorem d_J_fill_14 : DlL k_J_fill 14 1 15 := Or.inl ⟨1, (by decide +kernel), rfl, rfl⟩
theorem d_J_fill_15 : Dk k_J_fill 15 .lastore 1 16 := ⟨(by decide +kernel), rfl⟩
theorem d_J_fill_16 : Dinc k_J_fill 16 3 (1) 19 := ⟨(by decide +kernel), rfl, by decide⟩
theorem d_J_fill_19 : Db k_J_fill 19 .goto 22 6 := ⟨-13, (by decide +kernel), rfl, by decide⟩
theorem d_J_fill_22 : DrV k_J_fill 22 := ⟨(by decide +kernel), rfl⟩
end
section
theorem d_L_law_3 : Dk k_L_law 3 .dup 1 4 := ⟨(by decide +kernel), rfl⟩
theorem d_L_law_7 : DsA k_L_law 7 1 8 := ⟨Or.inl ⟨1, (by decide +kernel), rfl, rfl⟩, by decide⟩
theorem d_L_law_11 : Dk k_L_law 11 .dup 1 12 := ⟨(by decide +kernel), rfl⟩
theorem d_L_law_15 : DsA k_L_law 15 2 16 := ⟨Or.inl ⟨2, (by decide +kernel), rfl, rfl⟩, by decide⟩
theorem d_L_law_16 : Dc k_L_law 16 (0) 17 := Or.inl ⟨(by decide +kernel), rfl⟩
theorem d_L_law_17 : DsI k_L_law 17 3 18 := ⟨Or.inl ⟨3, (by decide +kernel), rfl, rfl⟩, by decide⟩
theorem d_L_law_18 : DlI k_L_law 18 3 19 := Or.inl ⟨3, (by decide +kernel), rfl, rfl⟩
theorem d_L_law_19 : DlA k_L_law 19 0 20 := Or.inl ⟨0, (by decide +kernel), rfl, rfl⟩
theorem d_L_law_20 : Dk k_L_law 20 .arraylength 1 21 := ⟨(by decide +kernel), rfl⟩
theorem d_L_law_21 : Dc k_L_law 21 (6) 23 := Or.inr (Or.inl ⟨(by decide +kernel), by decide, rfl⟩)
theorem d_L_law_23 : Dk k_L_law 23 .isub 1 24 := ⟨(by decide +kernel), rfl⟩
theorem d_L_law_24 : Db k_L_law 24 (.if_icmp .gt) 27 1047 := ⟨1023, (by decide +kernel), rfl, by decide⟩
theorem d_L_law_27 : DlA k_L_law 27 0 28 := Or.inl ⟨0, (by decide +kernel), rfl, rfl⟩
theorem d_L_law_28 : DlI k_L_law 28 3 29 := Or.inl ⟨3, (by decide +kernel), rfl, rfl⟩
theorem d_L_law_29 : Dk k_L_law 29 .iaload 1 30 := ⟨(by decide +kernel), rfl⟩
theorem d_L_law_30 : Dc k_L_law 30 (31) 32 := Or.inr (Or.inl ⟨(by decide +kernel), by decide, rfl⟩)
theorem d_L_law_32 : Dk k_L_law 32 .iand 1 33 := ⟨(by decide +kernel), rfl⟩
theorem d_L_law_33 : decode k_L_law.2.2.1 33 = .ok (.tableswitch 1008 0 26 #[123, 156, 169, 202, 215, 248, 271, 304, 347, 370, 424, 478, 512, 556, 569, 592, 605, 628, 641, 664, 677, 690, 743, 796, 839, 862, 945], 123) := by decide +kernel
theorem d_L_law_156 : DlA k_L_law 156 1 157 := Or.inl ⟨1, (by decide +kernel), rfl, rfl⟩
theorem d_L_law_157 : DlA k_L_law 157 0 158 := Or.inl ⟨0, (by decide +kernel), rfl, rfl⟩
theorem d_L_law_158 : DlI k_L_law 158 3 159 := Or.inl ⟨3, (by decide +kernel), rfl, rfl⟩
theorem d_L_law_159 : Dc k_L_law 159 (1) 160 := Or.inl ⟨(by decide +kernel), rfl⟩
theorem d_L_law_160 : Dk k_L_law 160 .iadd 1 161 := ⟨(by decide +kernel), rfl⟩
theorem d_L_law_161 : Dk k_L_law 161 .iaload 1 162 := ⟨(by decide +kernel), rfl⟩
theorem d_L_law_162 : DlA k_L_law 162 0 163 := Or.inl ⟨0, (by decide +kernel), rfl, rfl⟩
theorem d_L_law_163 : DlI k_L_law 163 3 164 := Or.inl ⟨3, (by decide +kernel), rfl, rfl⟩
theorem d_L_law_164 : Dc k_L_law 164 (2) 165 := Or.inl ⟨(by decide +kernel), rfl⟩
theorem d_L_law_165 : Dk k_L_law 165 .iadd 1 166 := ⟨(by decide +kernel), rfl⟩
theorem d_L_law_166 : Dk k_L_law 166 .iaload 1 167 := ⟨(by decide +kernel), rfl⟩
theorem d_L_law_167 : DCV k_L_law 167 k_X_come 4 2 170 := ⟨13, (by decide +kernel), rfl, tb_at 216 (by decide +kernel) (by decide +kernel), m_X_come, iv_X_come.1, iv_X_come.2, ⟨(RX5, TX5, 7), rfl, rfl⟩, by decide +kernel, by decide⟩
theorem d_L_law_170 : DlA k_L_law 170 2 171 := Or.inl ⟨2, (by decide +kernel), rfl, rfl⟩
theorem d_L_law_171 : DlA k_L_law 171 0 172 := Or.inl ⟨0, (by decide +kernel), rfl, rfl⟩
theorem d_L_law_172 : DlI k_L_law 172 3 173 := Or.inl ⟨3, (by decide +kernel), rfl, rfl⟩
theorem d_L_law_173 : Dc k_L_law 173 (1) 174 := Or.inl ⟨(by decide +kernel), rfl⟩
theorem d_L_law_174 : Dk k_L_law 174 .iadd 1 175 := ⟨(by decide +kernel), rfl⟩
theorem d_L_law_175 : Dk k_L_law 175 .iaload 1 176 := ⟨(by decide +kernel), rfl⟩
theorem d_L_law_176 : DlA k_L_law 176 0 177 := Or.inl ⟨0, (by decide +kernel), rfl, rfl⟩
theorem d_L_law_177 : DlI k_L_law 177 3 178 := Or.inl ⟨3, (by decide +kernel), rfl, rfl⟩
theorem d_L_law_178 : Dc k_L_law 178 (2) 179 := Or.inl ⟨(by decide +kernel), rfl⟩
theorem d_L_law_179 : Dk k_L_law 179 .iadd 1 180 := ⟨(by decide +kernel), rfl⟩
theorem d_L_law_180 : Dk k_L_law 180 .iaload 1 181 := ⟨(by decide +kernel), rfl⟩
theorem d_L_law_181 : DCV k_L_law 181 k_M_come 5 2 184 := ⟨17, (by decide +kernel), rfl, tb_at 646 (by decide +kernel) (by decide +kernel), m_M_come, iv_M_come.1, iv_M_come.2, ⟨(RX6, TX6, 16), rfl, rfl⟩, by decide +kernel, by decide⟩
theorem d_L_law_184 : Db k_L_law 184 (.if_icmp .eq) 187 1041 := ⟨857, (by decide +kernel), rfl, by decide⟩
theorem d_L_law_187 : Dc k_L_law 187 (0) 188 := Or.inl ⟨(by decide +kernel), rfl⟩
theorem d_L_law_188 : DrZ k_L_law 188 := ⟨(by decide +kernel), rfl⟩
theorem d_L_law_189 : DlA k_L_law 189 1 190 := Or.inl ⟨1, (by decide +kernel), rfl, rfl⟩
theorem d_L_law_190 : DCV k_L_law 190 k_X_tick 4 0 193 := ⟨18, (by decide +kernel), rfl, tb_at 275 (by decide +kernel) (by decide +kernel), m_X_tick, iv_X_tick.1, iv_X_tick.2, ⟨(RX5, TX5, 7), rfl, rfl⟩, by decide +kernel, by decide⟩
theorem d_L_law_193 : DlA k_L_law 193 2 194 := Or.inl ⟨2, (by decide +kernel), rfl, rfl⟩
theorem d_L_law_194 : DCV k_L_law 194 k_M_tick 5 0 197 := ⟨22, (by decide +kernel), rfl, tb_at 709 (by decide +kernel) (by decide +kernel), m_M_tick, iv_M_tick.1, iv_M_tick.2, ⟨(RX6, TX6, 16), rfl, rfl⟩, by decide +kernel, by decide⟩
theorem d_L_law_197 : Db k_L_law 197 (.if_icmp .eq) 200 1041 := ⟨844, (by decide +kernel), rfl, by decide⟩
theorem d_L_law_200 : Dc k_L_law 200 (0) 201 := Or.inl ⟨(by decide +kernel), rfl⟩
theorem d_L_law_201 : DrZ k_L_law 201 := ⟨(by decide +kernel), rfl⟩
theorem d_L_law_202 : DlA k_L_law 202 1 203 := Or.inl ⟨1, (by decide +kernel), rfl, rfl⟩
theorem d_L_law_203 : DlA k_L_law 203 0 204 := Or.inl ⟨0, (by decide +kernel), rfl, rfl⟩
theorem d_L_law_204 : DlI k_L_law 204 3 205 := Or.inl ⟨3, (by decide +kernel), rfl, rfl⟩
theorem d_L_law_205 : Dc k_L_law 205 (1) 206 := Or.inl ⟨(by decide +kernel), rfl⟩
theorem d_L_law_206 : Dk k_L_law 206 .iadd 1 207 := ⟨(by decide +kernel), rfl⟩
theorem d_L_law_207 : Dk k_L_law 207 .iaload 1 208 := ⟨(by decide +kernel), rfl⟩
theorem d_L_law_208 : DlA k_L_law 208 0 209 := Or.inl ⟨0, (by decide +kernel), rfl, rfl⟩
theorem d_L_law_209 : DlI k_L_law 209 3 210 := Or.inl ⟨3, (by decide +kernel), rfl, rfl⟩
theorem d_L_law_210 : Dc k_L_law 210 (2) 211 := Or.inl ⟨(by decide +kernel), rfl⟩
theorem d_L_law_211 : Dk k_L_law 211 .iadd 1 212 := ⟨(by decide +kernel), rfl⟩
theorem d_L_law_212 : Dk k_L_law 212 .iaload 1 213 := ⟨(by decide +kernel), rfl⟩
theorem d_L_law_213 : DCV k_L_law 213 k_X_tell 4 2 216 := ⟨23, (by decide +kernel), rfl, tb_at 284 (by decide +kernel) (by decide +kernel), m_X_tell, iv_X_tell.1, iv_X_tell.2, ⟨(RX5, TX5, 7), rfl, rfl⟩, by decide +kernel, by decide⟩
theorem d_L_law_216 : DlA k_L_law 216 2 217 := Or.inl ⟨2, (by decide +kernel), rfl, rfl⟩
theorem d_L_law_217 : DlA k_L_law 217 0 218 := Or.inl ⟨0, (by decide +kernel), rfl, rfl⟩
theorem d_L_law_218 : DlI k_L_law 218 3 219 := Or.inl ⟨3, (by decide +kernel), rfl, rfl⟩
theorem d_L_law_219 : Dc k_L_law 219 (1) 220 := Or.inl ⟨(by decide +kernel), rfl⟩
theorem d_L_law_220 : Dk k_L_law 220 .iadd 1 221 := ⟨(by decide +kernel), rfl⟩
theorem d_L_law_221 : Dk k_L_law 221 .iaload 1 222 := ⟨(by decide +kernel), rfl⟩
theorem d_L_law_222 : DlA k_L_law 222 0 223 := Or.inl ⟨0, (by decide +kernel), rfl, rfl⟩
theorem d_L_law_223 : DlI k_L_law 223 3 224 := Or.inl ⟨3, (by decide +kernel), rfl, rfl⟩
theorem d_L_law_224 : Dc k_L_law 224 (2) 225 := Or.inl ⟨(by decide +kernel), rfl⟩
theorem d_L_law_225 : Dk k_L_law 225 .iadd 1 226 := ⟨(by decide +kernel), rfl⟩
theorem d_L_law_226 : Dk k_L_law 226 .iaload 1 227 := ⟨(by decide +kernel), rfl⟩
theorem d_L_law_227 : DCV k_L_law 227 k_M_tell 5 2 230 := ⟨26, (by decide +kernel), rfl, tb_at 717 (by decide +kernel) (by decide +kernel), m_M_tell, iv_M_tell.1, iv_M_tell.2, ⟨(RX6, TX6, 16), rfl, rfl⟩, by decide +kernel, by decide⟩
theorem d_L_law_230 : Db k_L_law 230 (.if_icmp .eq) 233 1041 := ⟨811, (by decide +kernel), rfl, by decide⟩
theorem d_L_law_233 : Dc k_L_law 233 (0) 234 := Or.inl ⟨(by decide +kernel), rfl⟩
theorem d_L_law_234 : DrZ k_L_law 234 := ⟨(by decide +kernel), rfl⟩
theorem d_L_law_235 : DlA k_L_law 235 1 236 := Or.inl ⟨1, (by decide +kernel), rfl, rfl⟩
theorem d_L_law_236 : DCV k_L_law 236 k_X_begin 4 0 239 := ⟨27, (by decide +kernel), rfl, tb_at 292 (by decide +kernel) (by decide +kernel), m_X_begin, iv_X_begin.1, iv_X_begin.2, ⟨(RX5, TX5, 7), rfl, rfl⟩, by decide +kernel, by decide⟩
theorem d_L_law_239 : DlA k_L_law 239 2 240 := Or.inl ⟨2, (by decide +kernel), rfl, rfl⟩
theorem d_L_law_240 : DCV k_L_law 240 k_M_begin 5 0 243 := ⟨30, (by decide +kernel), rfl, tb_at 727 (by decide +kernel) (by decide +kernel), m_M_begin, iv_M_begin.1, iv_M_begin.2, ⟨(RX6, TX6, 16), rfl, rfl⟩, by decide +kernel, by decide⟩
theorem d_L_law_243 : Db k_L_law 243 (.if_icmp .eq) 246 1041 := ⟨798, (by decide +kernel), rfl, by decide⟩
theorem d_L_law_246 : Dc k_L_law 246 (0) 247 := Or.inl ⟨(by decide +kernel), rfl⟩
theorem d_L_law_247 : DrZ k_L_law 247 := ⟨(by decide +kernel), rfl⟩
theorem d_L_law_248 : DlA k_L_law 248 1 249 := Or.inl ⟨1, (by decide +kernel), rfl, rfl⟩
theorem d_L_law_249 : DlA k_L_law 249 0 250 := Or.inl ⟨0, (by decide +kernel), rfl, rfl⟩
theorem d_L_law_250 : DlI k_L_law 250 3 251 := Or.inl ⟨3, (by decide +kernel), rfl, rfl⟩
theorem d_L_law_251 : Dc k_L_law 251 (1) 252 := Or.inl ⟨(by decide +kernel), rfl⟩
theorem d_L_law_252 : Dk k_L_law 252 .iadd 1 253 := ⟨(by decide +kernel), rfl⟩
theorem d_L_law_253 : Dk k_L_law 253 .iaload 1 254 := ⟨(by decide +kernel), rfl⟩
theorem d_L_law_254 : DlA k_L_law 254 0 255 := Or.inl ⟨0, (by decide +kernel), rfl, rfl⟩
theorem d_L_law_255 : DlI k_L_law 255 3 256 := Or.inl ⟨3, (by decide +kernel), rfl, rfl⟩
theorem d_L_law_256 : Dc k_L_law 256 (2) 257 := Or.inl ⟨(by decide +kernel), rfl⟩
theorem d_L_law_257 : Dk k_L_law 257 .iadd 1 258 := ⟨(by decide +kernel), rfl⟩
theorem d_L_law_258 : Dk k_L_law 258 .iaload 1 259 := ⟨(by decide +kernel), rfl⟩
theorem d_L_law_259 : DCV k_L_law 259 k_X_letter 4 2 262 := ⟨31, (by decide +kernel), rfl, tb_at 300 (by decide +kernel) (by decide +kernel), m_X_letter, iv_X_letter.1, iv_X_letter.2, ⟨(RX5, TX5, 7), rfl, rfl⟩, by decide +kernel, by decide⟩
theorem d_L_law_262 : DlA k_L_law 262 2 263 := Or.inl ⟨2, (by decide +kernel), rfl, rfl⟩
theorem d_L_law_263 : DlA k_L_law 263 0 264 := Or.inl ⟨0, (by decide +kernel), rfl, rfl⟩
theorem d_L_law_264 : DlI k_L_law 264 3 265 := Or.inl ⟨3, (by decide +kernel), rfl, rfl⟩
theorem d_L_law_265 : Dc k_L_law 265 (1) 266 := Or.inl ⟨(by decide +kernel), rfl⟩
theorem d_L_law_266 : Dk k_L_law 266 .iadd 1 267 := ⟨(by decide +kernel), rfl⟩
theorem d_L_law_267 : Dk k_L_law 267 .iaload 1 268 := ⟨(by decide +kernel), rfl⟩
theorem d_L_law_268 : DlA k_L_law 268 0 269 := Or.inl ⟨0, (by decide +kernel), rfl, rfl⟩
theorem d_L_law_269 : DlI k_L_law 269 3 270 := Or.inl ⟨3, (by decide +kernel), rfl, rfl⟩
theorem d_L_law_270 : Dc k_L_law 270 (2) 271 := Or.inl ⟨(by decide +kernel), rfl⟩
theorem d_L_law_271 : Dk k_L_law 271 .iadd 1 272 := ⟨(by decide +kernel), rfl⟩
theorem d_L_law_272 : Dk k_L_law 272 .iaload 1 273 := ⟨(by decide +kernel), rfl⟩
theorem d_L_law_273 : DCV k_L_law 273 k_M_letter 5 2 276 := ⟨34, (by decide +kernel), rfl, tb_at 731 (by decide +kernel) (by decide +kernel), m_M_letter, iv_M_letter.1, iv_M_letter.2, ⟨(RX6, TX6, 16), rfl, rfl⟩, by decide +kernel, by decide⟩
theorem d_L_law_276 : Db k_L_law 276 (.if_icmp .eq) 279 1041 := ⟨765, (by decide +kernel), rfl, by decide⟩
theorem d_L_law_279 : Dc k_L_law 279 (0) 280 := Or.inl ⟨(by decide +kernel), rfl⟩
theorem d_L_law_280 : DrZ k_L_law 280 := ⟨(by decide +kernel), rfl⟩
theorem d_L_law_281 : DlA k_L_law 281 1 282 := Or.inl ⟨1, (by decide +kernel), rfl, rfl⟩
theorem d_L_law_282 : DlA k_L_law 282 0 283 := Or.inl ⟨0, (by decide +kernel), rfl, rfl⟩
theorem d_L_law_283 : DlI k_L_law 283 3 284 := Or.inl ⟨3, (by decide +kernel), rfl, rfl⟩
theorem d_L_law_284 : Dc k_L_law 284 (1) 285 := Or.inl ⟨(by decide +kernel), rfl⟩
theorem d_L_law_285 : Dk k_L_law 285 .iadd 1 286 := ⟨(by decide +kernel), rfl⟩
theorem d_L_law_286 : Dk k_L_law 286 .iaload 1 287 := ⟨(by decide +kernel), rfl⟩
theorem d_L_law_287 : DCV k_L_law 287 k_X_inside 4 1 290 := ⟨35, (by decide +kernel), rfl, tb_at 317 (by decide +kernel) (by decide +kernel), m_X_inside, iv_X_inside.1, iv_X_inside.2, ⟨(RX5, TX5, 7), rfl, rfl⟩, by decide +kernel, by decide⟩
theorem d_L_law_290 : DlA k_L_law 290 2 291 := Or.inl ⟨2, (by decide +kernel), rfl, rfl⟩
theorem d_L_law_291 : DlA k_L_law 291 0 292 := Or.inl ⟨0, (by decide +kernel), rfl, rfl⟩
theorem d_L_law_292 : DlI k_L_law 292 3 293 := Or.inl ⟨3, (by decide +kernel), rfl, rfl⟩
theorem d_L_law_293 : Dc k_L_law 293 (1) 294 := Or.inl ⟨(by decide +kernel), rfl⟩
theorem d_L_law_294 : Dk k_L_law 294 .iadd 1 295 := ⟨(by decide +kernel), rfl⟩
theorem d_L_law_295 : Dk k_L_law 295 .iaload 1 296 := ⟨(by decide +kernel), rfl⟩
theorem d_L_law_296 : DCV k_L_law 296 k_M_inside 5 1 299 := ⟨39, (by decide +kernel), rfl, tb_at 739 (by decide +kernel) (by decide +kernel), m_M_inside, iv_M_inside.1, iv_M_inside.2, ⟨(RX6, TX6, 16), rfl, rfl⟩, by decide +kernel, by decide⟩
theorem d_L_law_299 : Db k_L_law 299 (.if_icmp .eq) 302 1041 := ⟨742, (by decide +kernel), rfl, by decide⟩
theorem d_L_law_302 : Dc k_L_law 302 (0) 303 := Or.inl ⟨(by decide +kernel), rfl⟩
theorem d_L_law_303 : DrZ k_L_law 303 := ⟨(by decide +kernel), rfl⟩
theorem d_L_law_304 : DlA k_L_law 304 1 305 := Or.inl ⟨1, (by decide +kernel), rfl, rfl⟩
theorem d_L_law_305 : DlA k_L_law 305 0 306 := Or.inl ⟨0, (by decide +kernel), rfl, rfl⟩
theorem d_L_law_306 : DlI k_L_law 306 3 307 := Or.inl ⟨3, (by decide +kernel), rfl, rfl⟩
theorem d_L_law_307 : Dc k_L_law 307 (1) 308 := Or.inl ⟨(by decide +kernel), rfl⟩
theorem d_L_law_308 : Dk k_L_law 308 .iadd 1 309 := ⟨(by decide +kernel), rfl⟩
theorem d_L_law_309 : Dk k_L_law 309 .iaload 1 310 := ⟨(by decide +kernel), rfl⟩
theorem d_L_law_310 : DlA k_L_law 310 0 311 := Or.inl ⟨0, (by decide +kernel), rfl, rfl⟩
theorem d_L_law_311 : DlI k_L_law 311 3 312 := Or.inl ⟨3, (by decide +kernel), rfl, rfl⟩
theorem d_L_law_312 : Dc k_L_law 312 (2) 313 := Or.inl ⟨(by decide +kernel), rfl⟩
theorem d_L_law_313 : Dk k_L_law 313 .iadd 1 314 := ⟨(by decide +kernel), rfl⟩
theorem d_L_law_314 : Dk k_L_law 314 .iaload 1 315 := ⟨(by decide +kernel), rfl⟩
theorem d_L_law_315 : DCV k_L_law 315 k_X_round 4 2 318 := ⟨40, (by decide +kernel), rfl, tb_at 321 (by decide +kernel) (by decide +kernel), m_X_round, iv_X_round.1, iv_X_round.2, ⟨(RX5, TX5, 7), rfl, rfl⟩, by decide +kernel, by decide⟩
theorem d_L_law_318 : DlA k_L_law 318 2 319 := Or.inl ⟨2, (by decide +kernel), rfl, rfl⟩
theorem d_L_law_319 : DlA k_L_law 319 0 320 := Or.inl ⟨0, (by decide +kernel), rfl, rfl⟩
theorem d_L_law_320 : DlI k_L_law 320 3 321 := Or.inl ⟨3, (by decide +kernel), rfl, rfl⟩
theorem d_L_law_321 : Dc k_L_law 321 (1) 322 := Or.inl ⟨(by decide +kernel), rfl⟩
theorem d_L_law_322 : Dk k_L_law 322 .iadd 1 323 := ⟨(by decide +kernel), rfl⟩
theorem d_L_law_323 : Dk k_L_law 323 .iaload 1 324 := ⟨(by decide +kernel), rfl⟩
theorem d_L_law_324 : DlA k_L_law 324 0 325 := Or.inl ⟨0, (by decide +kernel), rfl, rfl⟩
theorem d_L_law_325 : DlI k_L_law 325 3 326 := Or.inl ⟨3, (by decide +kernel), rfl, rfl⟩
theorem d_L_law_326 : Dc k_L_law 326 (2) 327 := Or.inl ⟨(by decide +kernel), rfl⟩
theorem d_L_law_327 : Dk k_L_law 327 .iadd 1 328 := ⟨(by decide +kernel), rfl⟩
theorem d_L_law_328 : Dk k_L_law 328 .iaload 1 329 := ⟨(by decide +kernel), rfl⟩
theorem d_L_law_329 : DCV k_L_law 329 k_M_round 5 2 332 := ⟨43, (by decide +kernel), rfl, tb_at 743 (by decide +kernel) (by decide +kernel), m_M_round, iv_M_round.1, iv_M_round.2, ⟨(RX6, TX6, 16), rfl, rfl⟩, by decide +kernel, by decide⟩
theorem d_L_law_332 : Db k_L_law 332 (.if_icmp .eq) 335 1041 := ⟨709, (by decide +kernel), rfl, by decide⟩
theorem d_L_law_335 : Dc k_L_law 335 (0) 336 := Or.inl ⟨(by decide +kernel), rfl⟩
theorem d_L_law_336 : DrZ k_L_law 336 := ⟨(by decide +kernel), rfl⟩
theorem d_L_law_337 : DlA k_L_law 337 1 338 := Or.inl ⟨1, (by decide +kernel), rfl, rfl⟩
theorem d_L_law_338 : DlA k_L_law 338 0 339 := Or.inl ⟨0, (by decide +kernel), rfl, rfl⟩
theorem d_L_law_339 : DlI k_L_law 339 3 340 := Or.inl ⟨3, (by decide +kernel), rfl, rfl⟩
theorem d_L_law_340 : Dc k_L_law 340 (1) 341 := Or.inl ⟨(by decide +kernel), rfl⟩
theorem d_L_law_341 : Dk k_L_law 341 .iadd 1 342 := ⟨(by decide +kernel), rfl⟩
theorem d_L_law_342 : Dk k_L_law 342 .iaload 1 343 := ⟨(by decide +kernel), rfl⟩
theorem d_L_law_343 : DlA k_L_law 343 0 344 := Or.inl ⟨0, (by decide +kernel), rfl, rfl⟩
theorem d_L_law_344 : DlI k_L_law 344 3 345 := Or.inl ⟨3, (by decide +kernel), rfl, rfl⟩
theorem d_L_law_345 : Dc k_L_law 345 (2) 346 := Or.inl ⟨(by decide +kernel), rfl⟩
theorem d_L_law_346 : Dk k_L_law 346 .iadd 1 347 := ⟨(by decide +kernel), rfl⟩
theorem d_L_law_347 : Dk k_L_law 347 .iaload 1 348 := ⟨(by decide +kernel), rfl⟩
theorem d_L_law_348 : DlA k_L_law 348 0 349 := Or.inl ⟨0, (by decide +kernel), rfl, rfl⟩
theorem d_L_law_349 : DlI k_L_law 349 3 350 := Or.inl ⟨3, (by decide +kernel), rfl, rfl⟩
theorem d_L_law_350 : Dc k_L_law 350 (3) 351 := Or.inl ⟨(by decide +kernel), rfl⟩
theorem d_L_law_351 : Dk k_L_law 351 .iadd 1 352 := ⟨(by decide +kernel), rfl⟩
theorem d_L_law_352 : Dk k_L_law 352 .iaload 1 353 := ⟨(by decide +kernel), rfl⟩
theorem d_L_law_353 : DCV k_L_law 353 k_X_out 4 3 356 := ⟨44, (by decide +kernel), rfl, tb_at 335 (by decide +kernel) (by decide +kernel), m_X_out, iv_X_out.1, iv_X_out.2, ⟨(RX5, TX5, 7), rfl, rfl⟩, by decide +kernel, by decide⟩
theorem d_L_law_356 : DlA k_L_law 356 2 357 := Or.inl ⟨2, (by decide +kernel), rfl, rfl⟩
theorem d_L_law_357 : DlA k_L_law 357 0 358 := Or.inl ⟨0, (by decide +kernel), rfl, rfl⟩
theorem d_L_law_358 : DlI k_L_law 358 3 359 := Or.inl ⟨3, (by decide +kernel), rfl, rfl⟩
theorem d_L_law_359 : Dc k_L_law 359 (1) 360 := Or.inl ⟨(by decide +kernel), rfl⟩
theorem d_L_law_360 : Dk k_L_law 360 .iadd 1 361 := ⟨(by decide +kernel), rfl⟩
theorem d_L_law_361 : Dk k_L_law 361 .iaload 1 362 := ⟨(by decide +kernel), rfl⟩
theorem d_L_law_362 : DlA k_L_law 362 0 363 := Or.inl ⟨0, (by decide +kernel), rfl, rfl⟩
theorem d_L_law_363 : DlI k_L_law 363 3 364 := Or.inl ⟨3, (by decide +kernel), rfl, rfl⟩
theorem d_L_law_364 : Dc k_L_law 364 (2) 365 := Or.inl ⟨(by decide +kernel), rfl⟩
theorem d_L_law_365 : Dk k_L_law 365 .iadd 1 366 := ⟨(by decide +kernel), rfl⟩
theorem d_L_law_366 : Dk k_L_law 366 .iaload 1 367 := ⟨(by decide +kernel), rfl⟩
theorem d_L_law_367 : DlA k_L_law 367 0 368 := Or.inl ⟨0, (by decide +kernel), rfl, rfl⟩
theorem d_L_law_368 : DlI k_L_law 368 3 369 := Or.inl ⟨3, (by decide +kernel), rfl, rfl⟩
theorem d_L_law_369 : Dc k_L_law 369 (3) 370 := Or.inl ⟨(by decide +kernel), rfl⟩
theorem d_L_law_370 : Dk k_L_law 370 .iadd 1 371 := ⟨(by decide +kernel), rfl⟩
theorem d_L_law_371 : Dk k_L_law 371 .iaload 1 372 := ⟨(by decide +kernel), rfl⟩
theorem d_L_law_372 : DCV k_L_law 372 k_M_out 5 3 375 := ⟨48, (by decide +kernel), rfl, tb_at 764 (by decide +kernel) (by decide +kernel), m_M_out, iv_M_out.1, iv_M_out.2, ⟨(RX6, TX6, 16), rfl, rfl⟩, by decide +kernel, by decide⟩
theorem d_L_law_375 : Db k_L_law 375 (.if_icmp .eq) 378 1041 := ⟨666, (by decide +kernel), rfl, by decide⟩
theorem d_L_law_378 : Dc k_L_law 378 (0) 379 := Or.inl ⟨(by decide +kernel), rfl⟩
theorem d_L_law_379 : DrZ k_L_law 379 := ⟨(by decide +kernel), rfl⟩
theorem d_L_law_380 : DlA k_L_law 380 1 381 := Or.inl ⟨1, (by decide +kernel), rfl, rfl⟩
theorem d_L_law_381 : DlA k_L_law 381 0 382 := Or.inl ⟨0, (by decide +kernel), rfl, rfl⟩
theorem d_L_law_382 : DlI k_L_law 382 3 383 := Or.inl ⟨3, (by decide +kernel), rfl, rfl⟩
theorem d_L_law_383 : Dc k_L_law 383 (1) 384 := Or.inl ⟨(by decide +kernel), rfl⟩
theorem d_L_law_384 : Dk k_L_law 384 .iadd 1 385 := ⟨(by decide +kernel), rfl⟩
theorem d_L_law_385 : Dk k_L_law 385 .iaload 1 386 := ⟨(by decide +kernel), rfl⟩
theorem d_L_law_386 : DCV k_L_law 386 k_X_count 4 1 389 := ⟨49, (by decide +kernel), rfl, tb_at 383 (by decide +kernel) (by decide +kernel), m_X_count, iv_X_count.1, iv_X_count.2, ⟨(RX5, TX5, 7), rfl, rfl⟩, by decide +kernel, by decide⟩
theorem d_L_law_389 : DlA k_L_law 389 2 390 := Or.inl ⟨2, (by decide +kernel), rfl, rfl⟩
theorem d_L_law_390 : DlA k_L_law 390 0 391 := Or.inl ⟨0, (by decide +kernel), rfl, rfl⟩
theorem d_L_law_391 : DlI k_L_law 391 3 392 := Or.inl ⟨3, (by decide +kernel), rfl, rfl⟩
theorem d_L_law_392 : Dc k_L_law 392 (1) 393 := Or.inl ⟨(by decide +kernel), rfl⟩
theorem d_L_law_393 : Dk k_L_law 393 .iadd 1 394 := ⟨(by decide +kernel), rfl⟩
theorem d_L_law_394 : Dk k_L_law 394 .iaload 1 395 := ⟨(by decide +kernel), rfl⟩
theorem d_L_law_395 : DCV k_L_law 395 k_M_count 5 1 398 := ⟨52, (by decide +kernel), rfl, tb_at 785 (by decide +kernel) (by decide +kernel), m_M_count, iv_M_count.1, iv_M_count.2, ⟨(RX6, TX6, 16), rfl, rfl⟩, by decide +kernel, by decide⟩
theorem d_L_law_398 : Db k_L_law 398 (.if_icmp .eq) 401 1041 := ⟨643, (by decide +kernel), rfl, by decide⟩
theorem d_L_law_401 : Dc k_L_law 401 (0) 402 := Or.inl ⟨(by decide +kernel), rfl⟩
theorem d_L_law_402 : DrZ k_L_law 402 := ⟨(by decide +kernel), rfl⟩
theorem d_L_law_403 : DlA k_L_law 403 1 404 := Or.inl ⟨1, (by decide +kernel), rfl, rfl⟩
theorem d_L_law_404 : DlA k_L_law 404 0 405 := Or.inl ⟨0, (by decide +kernel), rfl, rfl⟩
theorem d_L_law_405 : DlI k_L_law 405 3 406 := Or.inl ⟨3, (by decide +kernel), rfl, rfl⟩
theorem d_L_law_406 : Dc k_L_law 406 (1) 407 := Or.inl ⟨(by decide +kernel), rfl⟩
theorem d_L_law_407 : Dk k_L_law 407 .iadd 1 408 := ⟨(by decide +kernel), rfl⟩
theorem d_L_law_408 : Dk k_L_law 408 .iaload 1 409 := ⟨(by decide +kernel), rfl⟩
theorem d_L_law_409 : DlA k_L_law 409 0 410 := Or.inl ⟨0, (by decide +kernel), rfl, rfl⟩
theorem d_L_law_410 : DlI k_L_law 410 3 411 := Or.inl ⟨3, (by decide +kernel), rfl, rfl⟩
theorem d_L_law_411 : Dc k_L_law 411 (2) 412 := Or.inl ⟨(by decide +kernel), rfl⟩
theorem d_L_law_412 : Dk k_L_law 412 .iadd 1 413 := ⟨(by decide +kernel), rfl⟩
theorem d_L_law_413 : Dk k_L_law 413 .iaload 1 414 := ⟨(by decide +kernel), rfl⟩
theorem d_L_law_414 : DlA k_L_law 414 0 415 := Or.inl ⟨0, (by decide +kernel), rfl, rfl⟩
theorem d_L_law_415 : DlI k_L_law 415 3 416 := Or.inl ⟨3, (by decide +kernel), rfl, rfl⟩
theorem d_L_law_416 : Dc k_L_law 416 (3) 417 := Or.inl ⟨(by decide +kernel), rfl⟩
theorem d_L_law_417 : Dk k_L_law 417 .iadd 1 418 := ⟨(by decide +kernel), rfl⟩
theorem d_L_law_418 : Dk k_L_law 418 .iaload 1 419 := ⟨(by decide +kernel), rfl⟩
theorem d_L_law_419 : DlA k_L_law 419 0 420 := Or.inl ⟨0, (by decide +kernel), rfl, rfl⟩
theorem d_L_law_420 : DlI k_L_law 420 3 421 := Or.inl ⟨3, (by decide +kernel), rfl, rfl⟩
theorem d_L_law_421 : Dc k_L_law 421 (4) 422 := Or.inl ⟨(by decide +kernel), rfl⟩
theorem d_L_law_422 : Dk k_L_law 422 .iadd 1 423 := ⟨(by decide +kernel), rfl⟩
theorem d_L_law_423 : Dk k_L_law 423 .iaload 1 424 := ⟨(by decide +kernel), rfl⟩
theorem d_L_law_424 : DCV k_L_law 424 k_X_chance 4 4 427 := ⟨53, (by decide +kernel), rfl, tb_at 387 (by decide +kernel) (by decide +kernel), m_X_chance, iv_X_chance.1, iv_X_chance.2, ⟨(RX5, TX5, 7), rfl, rfl⟩, by decide +kernel, by decide⟩
theorem d_L_law_427 : DlA k_L_law 427 2 428 := Or.inl ⟨2, (by decide +kernel), rfl, rfl⟩
theorem d_L_law_428 : DlA k_L_law 428 0 429 := Or.inl ⟨0, (by decide +kernel), rfl, rfl⟩
theorem d_L_law_429 : DlI k_L_law 429 3 430 := Or.inl ⟨3, (by decide +kernel), rfl, rfl⟩
theorem d_L_law_430 : Dc k_L_law 430 (1) 431 := Or.inl ⟨(by decide +kernel), rfl⟩
theorem d_L_law_431 : Dk k_L_law 431 .iadd 1 432 := ⟨(by decide +kernel), rfl⟩
theorem d_L_law_432 : Dk k_L_law 432 .iaload 1 433 := ⟨(by decide +kernel), rfl⟩
theorem d_L_law_433 : DlA k_L_law 433 0 434 := Or.inl ⟨0, (by decide +kernel), rfl, rfl⟩
theorem d_L_law_434 : DlI k_L_law 434 3 435 := Or.inl ⟨3, (by decide +kernel), rfl, rfl⟩
theorem d_L_law_435 : Dc k_L_law 435 (2) 436 := Or.inl ⟨(by decide +kernel), rfl⟩
theorem d_L_law_436 : Dk k_L_law 436 .iadd 1 437 := ⟨(by decide +kernel), rfl⟩
theorem d_L_law_437 : Dk k_L_law 437 .iaload 1 438 := ⟨(by decide +kernel), rfl⟩
theorem d_L_law_438 : DlA k_L_law 438 0 439 := Or.inl ⟨0, (by decide +kernel), rfl, rfl⟩
theorem d_L_law_439 : DlI k_L_law 439 3 440 := Or.inl ⟨3, (by decide +kernel), rfl, rfl⟩
theorem d_L_law_440 : Dc k_L_law 440 (3) 441 := Or.inl ⟨(by decide +kernel), rfl⟩
theorem d_L_law_441 : Dk k_L_law 441 .iadd 1 442 := ⟨(by decide +kernel), rfl⟩
theorem d_L_law_442 : Dk k_L_law 442 .iaload 1 443 := ⟨(by decide +kernel), rfl⟩
theorem d_L_law_443 : DlA k_L_law 443 0 444 := Or.inl ⟨0, (by decide +kernel), rfl, rfl⟩
theorem d_L_law_444 : DlI k_L_law 444 3 445 := Or.inl ⟨3, (by decide +kernel), rfl, rfl⟩
theorem d_L_law_445 : Dc k_L_law 445 (4) 446 := Or.inl ⟨(by decide +kernel), rfl⟩
theorem d_L_law_446 : Dk k_L_law 446 .iadd 1 447 := ⟨(by decide +kernel), rfl⟩
theorem d_L_law_447 : Dk k_L_law 447 .iaload 1 448 := ⟨(by decide +kernel), rfl⟩
theorem d_L_law_448 : DCV k_L_law 448 k_M_chance 5 4 451 := ⟨57, (by decide +kernel), rfl, tb_at 789 (by decide +kernel) (by decide +kernel), m_M_chance, iv_M_chance.1, iv_M_chance.2, ⟨(RX6, TX6, 16), rfl, rfl⟩, by decide +kernel, by decide⟩
theorem d_L_law_451 : Dk k_L_law 451 .lcmp 1 452 := ⟨(by decide +kernel), rfl⟩
theorem d_L_law_452 : Db k_L_law 452 (.ifCond .eq) 455 1041 := ⟨589, (by decide +kernel), rfl, by decide⟩
theorem d_L_law_455 : Dc k_L_law 455 (0) 456 := Or.inl ⟨(by decide +kernel), rfl⟩
theorem d_L_law_456 : DrZ k_L_law 456 := ⟨(by decide +kernel), rfl⟩
theorem d_L_law_457 : DlA k_L_law 457 1 458 := Or.inl ⟨1, (by decide +kernel), rfl, rfl⟩
theorem d_L_law_458 : DlA k_L_law 458 0 459 := Or.inl ⟨0, (by decide +kernel), rfl, rfl⟩
theorem d_L_law_459 : DlI k_L_law 459 3 460 := Or.inl ⟨3, (by decide +kernel), rfl, rfl⟩
theorem d_L_law_460 : Dc k_L_law 460 (1) 461 := Or.inl ⟨(by decide +kernel), rfl⟩
theorem d_L_law_461 : Dk k_L_law 461 .iadd 1 462 := ⟨(by decide +kernel), rfl⟩
theorem d_L_law_462 : Dk k_L_law 462 .iaload 1 463 := ⟨(by decide +kernel), rfl⟩
theorem d_L_law_463 : DlA k_L_law 463 0 464 := Or.inl ⟨0, (by decide +kernel), rfl, rfl⟩
theorem d_L_law_464 : DlI k_L_law 464 3 465 := Or.inl ⟨3, (by decide +kernel), rfl, rfl⟩
theorem d_L_law_465 : Dc k_L_law 465 (2) 466 := Or.inl ⟨(by decide +kernel), rfl⟩
theorem d_L_law_466 : Dk k_L_law 466 .iadd 1 467 := ⟨(by decide +kernel), rfl⟩
theorem d_L_law_467 : Dk k_L_law 467 .iaload 1 468 := ⟨(by decide +kernel), rfl⟩
theorem d_L_law_468 : DlA k_L_law 468 0 469 := Or.inl ⟨0, (by decide +kernel), rfl, rfl⟩
theorem d_L_law_469 : DlI k_L_law 469 3 470 := Or.inl ⟨3, (by decide +kernel), rfl, rfl⟩
theorem d_L_law_470 : Dc k_L_law 470 (3) 471 := Or.inl ⟨(by decide +kernel), rfl⟩
theorem d_L_law_471 : Dk k_L_law 471 .iadd 1 472 := ⟨(by decide +kernel), rfl⟩
theorem d_L_law_472 : Dk k_L_law 472 .iaload 1 473 := ⟨(by decide +kernel), rfl⟩
theorem d_L_law_473 : DlA k_L_law 473 0 474 := Or.inl ⟨0, (by decide +kernel), rfl, rfl⟩
theorem d_L_law_474 : DlI k_L_law 474 3 475 := Or.inl ⟨3, (by decide +kernel), rfl, rfl⟩
theorem d_L_law_475 : Dc k_L_law 475 (4) 476 := Or.inl ⟨(by decide +kernel), rfl⟩
theorem d_L_law_476 : Dk k_L_law 476 .iadd 1 477 := ⟨(by decide +kernel), rfl⟩
theorem d_L_law_477 : Dk k_L_law 477 .iaload 1 478 := ⟨(by decide +kernel), rfl⟩
theorem d_L_law_478 : DCV k_L_law 478 k_X_sender 4 4 481 := ⟨58, (by decide +kernel), rfl, tb_at 404 (by decide +kernel) (by decide +kernel), m_X_sender, iv_X_sender.1, iv_X_sender.2, ⟨(RX5, TX5, 7), rfl, rfl⟩, by decide +kernel, by decide⟩
theorem d_L_law_481 : DlA k_L_law 481 2 482 := Or.inl ⟨2, (by decide +kernel), rfl, rfl⟩
theorem d_L_law_482 : DlA k_L_law 482 0 483 := Or.inl ⟨0, (by decide +kernel), rfl, rfl⟩
theorem d_L_law_483 : DlI k_L_law 483 3 484 := Or.inl ⟨3, (by decide +kernel), rfl, rfl⟩
theorem d_L_law_484 : Dc k_L_law 484 (1) 485 := Or.inl ⟨(by decide +kernel), rfl⟩
theorem d_L_law_485 : Dk k_L_law 485 .iadd 1 486 := ⟨(by decide +kernel), rfl⟩
theorem d_L_law_486 : Dk k_L_law 486 .iaload 1 487 := ⟨(by decide +kernel), rfl⟩
theorem d_L_law_487 : DlA k_L_law 487 0 488 := Or.inl ⟨0, (by decide +kernel), rfl, rfl⟩
theorem d_L_law_488 : DlI k_L_law 488 3 489 := Or.inl ⟨3, (by decide +kernel), rfl, rfl⟩
theorem d_L_law_489 : Dc k_L_law 489 (2) 490 := Or.inl ⟨(by decide +kernel), rfl⟩
theorem d_L_law_490 : Dk k_L_law 490 .iadd 1 491 := ⟨(by decide +kernel), rfl⟩
theorem d_L_law_491 : Dk k_L_law 491 .iaload 1 492 := ⟨(by decide +kernel), rfl⟩
theorem d_L_law_492 : DlA k_L_law 492 0 493 := Or.inl ⟨0, (by decide +kernel), rfl, rfl⟩
theorem d_L_law_493 : DlI k_L_law 493 3 494 := Or.inl ⟨3, (by decide +kernel), rfl, rfl⟩
theorem d_L_law_494 : Dc k_L_law 494 (3) 495 := Or.inl ⟨(by decide +kernel), rfl⟩
theorem d_L_law_495 : Dk k_L_law 495 .iadd 1 496 := ⟨(by decide +kernel), rfl⟩
theorem d_L_law_496 : Dk k_L_law 496 .iaload 1 497 := ⟨(by decide +kernel), rfl⟩
theorem d_L_law_497 : DlA k_L_law 497 0 498 := Or.inl ⟨0, (by decide +kernel), rfl, rfl⟩
theorem d_L_law_498 : DlI k_L_law 498 3 499 := Or.inl ⟨3, (by decide +kernel), rfl, rfl⟩
theorem d_L_law_499 : Dc k_L_law 499 (4) 500 := Or.inl ⟨(by decide +kernel), rfl⟩
theorem d_L_law_500 : Dk k_L_law 500 .iadd 1 501 := ⟨(by decide +kernel), rfl⟩
theorem d_L_law_501 : Dk k_L_law 501 .iaload 1 502 := ⟨(by decide +kernel), rfl⟩
theorem d_L_law_502 : DCV k_L_law 502 k_M_sender 5 4 505 := ⟨61, (by decide +kernel), rfl, tb_at 796 (by decide +kernel) (by decide +kernel), m_M_sender, iv_M_sender.1, iv_M_sender.2, ⟨(RX6, TX6, 16), rfl, rfl⟩, by decide +kernel, by decide⟩
theorem d_L_law_505 : Dk k_L_law 505 .lcmp 1 506 := ⟨(by decide +kernel), rfl⟩
theorem d_L_law_506 : Db k_L_law 506 (.ifCond .eq) 509 1041 := ⟨535, (by decide +kernel), rfl, by decide⟩
theorem d_L_law_509 : Dc k_L_law 509 (0) 510 := Or.inl ⟨(by decide +kernel), rfl⟩
theorem d_L_law_510 : DrZ k_L_law 510 := ⟨(by decide +kernel), rfl⟩
theorem d_L_law_511 : DlA k_L_law 511 1 512 := Or.inl ⟨1, (by decide +kernel), rfl, rfl⟩
theorem d_L_law_512 : DlA k_L_law 512 0 513 := Or.inl ⟨0, (by decide +kernel), rfl, rfl⟩
theorem d_L_law_513 : DlI k_L_law 513 3 514 := Or.inl ⟨3, (by decide +kernel), rfl, rfl⟩
theorem d_L_law_514 : Dc k_L_law 514 (1) 515 := Or.inl ⟨(by decide +kernel), rfl⟩
theorem d_L_law_515 : Dk k_L_law 515 .iadd 1 516 := ⟨(by decide +kernel), rfl⟩
theorem d_L_law_516 : Dk k_L_law 516 .iaload 1 517 := ⟨(by decide +kernel), rfl⟩
theorem d_L_law_517 : DlA k_L_law 517 0 518 := Or.inl ⟨0, (by decide +kernel), rfl, rfl⟩
theorem d_L_law_518 : DlI k_L_law 518 3 519 := Or.inl ⟨3, (by decide +kernel), rfl, rfl⟩
theorem d_L_law_519 : Dc k_L_law 519 (2) 520 := Or.inl ⟨(by decide +kernel), rfl⟩
theorem d_L_law_520 : Dk k_L_law 520 .iadd 1 521 := ⟨(by decide +kernel), rfl⟩
theorem d_L_law_521 : Dk k_L_law 521 .iaload 1 522 := ⟨(by decide +kernel), rfl⟩
theorem d_L_law_522 : DCV k_L_law 522 k_X_stays 4 2 525 := ⟨62, (by decide +kernel), rfl, tb_at 414 (by decide +kernel) (by decide +kernel), m_X_stays, iv_X_stays.1, iv_X_stays.2, ⟨(RX5, TX5, 7), rfl, rfl⟩, by decide +kernel, by decide⟩
theorem d_L_law_525 : DlA k_L_law 525 2 526 := Or.inl ⟨2, (by decide +kernel), rfl, rfl⟩
theorem d_L_law_526 : DlA k_L_law 526 0 527 := Or.inl ⟨0, (by decide +kernel), rfl, rfl⟩
theorem d_L_law_527 : DlI k_L_law 527 3 528 := Or.inl ⟨3, (by decide +kernel), rfl, rfl⟩
theorem d_L_law_528 : Dc k_L_law 528 (1) 529 := Or.inl ⟨(by decide +kernel), rfl⟩
theorem d_L_law_529 : Dk k_L_law 529 .iadd 1 530 := ⟨(by decide +kernel), rfl⟩
theorem d_L_law_530 : Dk k_L_law 530 .iaload 1 531 := ⟨(by decide +kernel), rfl⟩
theorem d_L_law_531 : DlA k_L_law 531 0 532 := Or.inl ⟨0, (by decide +kernel), rfl, rfl⟩
theorem d_L_law_532 : DlI k_L_law 532 3 533 := Or.inl ⟨3, (by decide +kernel), rfl, rfl⟩
theorem d_L_law_533 : Dc k_L_law 533 (2) 534 := Or.inl ⟨(by decide +kernel), rfl⟩
theorem d_L_law_534 : Dk k_L_law 534 .iadd 1 535 := ⟨(by decide +kernel), rfl⟩
theorem d_L_law_535 : Dk k_L_law 535 .iaload 1 536 := ⟨(by decide +kernel), rfl⟩
theorem d_L_law_536 : DCV k_L_law 536 k_M_stays 5 2 539 := ⟨66, (by decide +kernel), rfl, tb_at 805 (by decide +kernel) (by decide +kernel), m_M_stays, iv_M_stays.1, iv_M_stays.2, ⟨(RX6, TX6, 16), rfl, rfl⟩, by decide +kernel, by decide⟩
theorem d_L_law_539 : Dk k_L_law 539 .lcmp 1 540 := ⟨(by decide +kernel), rfl⟩
theorem d_L_law_540 : Db k_L_law 540 (.ifCond .eq) 543 1041 := ⟨501, (by decide +kernel), rfl, by decide⟩
theorem d_L_law_543 : Dc k_L_law 543 (0) 544 := Or.inl ⟨(by decide +kernel), rfl⟩
theorem d_L_law_544 : DrZ k_L_law 544 := ⟨(by decide +kernel), rfl⟩
theorem d_L_law_545 : DlA k_L_law 545 1 546 := Or.inl ⟨1, (by decide +kernel), rfl, rfl⟩
theorem d_L_law_546 : DlA k_L_law 546 0 547 := Or.inl ⟨0, (by decide +kernel), rfl, rfl⟩
theorem d_L_law_547 : DlI k_L_law 547 3 548 := Or.inl ⟨3, (by decide +kernel), rfl, rfl⟩
theorem d_L_law_548 : Dc k_L_law 548 (1) 549 := Or.inl ⟨(by decide +kernel), rfl⟩
theorem d_L_law_549 : Dk k_L_law 549 .iadd 1 550 := ⟨(by decide +kernel), rfl⟩
theorem d_L_law_550 : Dk k_L_law 550 .iaload 1 551 := ⟨(by decide +kernel), rfl⟩
theorem d_L_law_551 : DlA k_L_law 551 0 552 := Or.inl ⟨0, (by decide +kernel), rfl, rfl⟩
theorem d_L_law_552 : DlI k_L_law 552 3 553 := Or.inl ⟨3, (by decide +kernel), rfl, rfl⟩
theorem d_L_law_553 : Dc k_L_law 553 (2) 554 := Or.inl ⟨(by decide +kernel), rfl⟩
theorem d_L_law_554 : Dk k_L_law 554 .iadd 1 555 := ⟨(by decide +kernel), rfl⟩
theorem d_L_law_555 : Dk k_L_law 555 .iaload 1 556 := ⟨(by decide +kernel), rfl⟩
theorem d_L_law_556 : DlA k_L_law 556 0 557 := Or.inl ⟨0, (by decide +kernel), rfl, rfl⟩
theorem d_L_law_557 : DlI k_L_law 557 3 558 := Or.inl ⟨3, (by decide +kernel), rfl, rfl⟩
theorem d_L_law_558 : Dc k_L_law 558 (3) 559 := Or.inl ⟨(by decide +kernel), rfl⟩
theorem d_L_law_559 : Dk k_L_law 559 .iadd 1 560 := ⟨(by decide +kernel), rfl⟩
theorem d_L_law_560 : Dk k_L_law 560 .iaload 1 561 := ⟨(by decide +kernel), rfl⟩
theorem d_L_law_561 : DCV k_L_law 561 k_X_expected 4 3 564 := ⟨67, (by decide +kernel), rfl, tb_at 420 (by decide +kernel) (by decide +kernel), m_X_expected, iv_X_expected.1, iv_X_expected.2, ⟨(RX5, TX5, 7), rfl, rfl⟩, by decide +kernel, by decide⟩
theorem d_L_law_564 : DlA k_L_law 564 2 565 := Or.inl ⟨2, (by decide +kernel), rfl, rfl⟩
theorem d_L_law_565 : DlA k_L_law 565 0 566 := Or.inl ⟨0, (by decide +kernel), rfl, rfl⟩
theorem d_L_law_566 : DlI k_L_law 566 3 567 := Or.inl ⟨3, (by decide +kernel), rfl, rfl⟩
theorem d_L_law_567 : Dc k_L_law 567 (1) 568 := Or.inl ⟨(by decide +kernel), rfl⟩
theorem d_L_law_568 : Dk k_L_law 568 .iadd 1 569 := ⟨(by decide +kernel), rfl⟩
theorem d_L_law_569 : Dk k_L_law 569 .iaload 1 570 := ⟨(by decide +kernel), rfl⟩
theorem d_L_law_570 : DlA k_L_law 570 0 571 := Or.inl ⟨0, (by decide +kernel), rfl, rfl⟩
theorem d_L_law_571 : DlI k_L_law 571 3 572 := Or.inl ⟨3, (by decide +kernel), rfl, rfl⟩
theorem d_L_law_572 : Dc k_L_law 572 (2) 573 := Or.inl ⟨(by decide +kernel), rfl⟩
theorem d_L_law_573 : Dk k_L_law 573 .iadd 1 574 := ⟨(by decide +kernel), rfl⟩
theorem d_L_law_574 : Dk k_L_law 574 .iaload 1 575 := ⟨(by decide +kernel), rfl⟩
theorem d_L_law_575 : DlA k_L_law 575 0 576 := Or.inl ⟨0, (by decide +kernel), rfl, rfl⟩
theorem d_L_law_576 : DlI k_L_law 576 3 577 := Or.inl ⟨3, (by decide +kernel), rfl, rfl⟩
theorem d_L_law_577 : Dc k_L_law 577 (3) 578 := Or.inl ⟨(by decide +kernel), rfl⟩
theorem d_L_law_578 : Dk k_L_law 578 .iadd 1 579 := ⟨(by decide +kernel), rfl⟩
theorem d_L_law_579 : Dk k_L_law 579 .iaload 1 580 := ⟨(by decide +kernel), rfl⟩
theorem d_L_law_580 : DCV k_L_law 580 k_M_expected 5 3 583 := ⟨71, (by decide +kernel), rfl, tb_at 810 (by decide +kernel) (by decide +kernel), m_M_expected, iv_M_expected.1, iv_M_expected.2, ⟨(RX6, TX6, 16), rfl, rfl⟩, by decide +kernel, by decide⟩
theorem d_L_law_583 : Dk k_L_law 583 .lcmp 1 584 := ⟨(by decide +kernel), rfl⟩
theorem d_L_law_584 : Db k_L_law 584 (.ifCond .eq) 587 1041 := ⟨457, (by decide +kernel), rfl, by decide⟩
theorem d_L_law_587 : Dc k_L_law 587 (0) 588 := Or.inl ⟨(by decide +kernel), rfl⟩
theorem d_L_law_588 : DrZ k_L_law 588 := ⟨(by decide +kernel), rfl⟩
theorem d_L_law_589 : DlA k_L_law 589 1 590 := Or.inl ⟨1, (by decide +kernel), rfl, rfl⟩
theorem d_L_law_590 : DCV k_L_law 590 k_X_blend 4 0 593 := ⟨72, (by decide +kernel), rfl, tb_at 431 (by decide +kernel) (by decide +kernel), m_X_blend, iv_X_blend.1, iv_X_blend.2, ⟨(RX5, TX5, 7), rfl, rfl⟩, by decide +kernel, by decide⟩
theorem d_L_law_593 : DlA k_L_law 593 2 594 := Or.inl ⟨2, (by decide +kernel), rfl, rfl⟩
theorem d_L_law_594 : DCV k_L_law 594 k_M_blend 5 0 597 := ⟨75, (by decide +kernel), rfl, tb_at 814 (by decide +kernel) (by decide +kernel), m_M_blend, iv_M_blend.1, iv_M_blend.2, ⟨(RX6, TX6, 16), rfl, rfl⟩, by decide +kernel, by decide⟩
theorem d_L_law_597 : Db k_L_law 597 (.if_icmp .eq) 600 1041 := ⟨444, (by decide +kernel), rfl, by decide⟩
theorem d_L_law_600 : Dc k_L_law 600 (0) 601 := Or.inl ⟨(by decide +kernel), rfl⟩
theorem d_L_law_601 : DrZ k_L_law 601 := ⟨(by decide +kernel), rfl⟩
theorem d_L_law_602 : DlA k_L_law 602 1 603 := Or.inl ⟨1, (by decide +kernel), rfl, rfl⟩
theorem d_L_law_603 : DlA k_L_law 603 0 604 := Or.inl ⟨0, (by decide +kernel), rfl, rfl⟩
theorem d_L_law_604 : DlI k_L_law 604 3 605 := Or.inl ⟨3, (by decide +kernel), rfl, rfl⟩
theorem d_L_law_605 : Dc k_L_law 605 (1) 606 := Or.inl ⟨(by decide +kernel), rfl⟩
theorem d_L_law_606 : Dk k_L_law 606 .iadd 1 607 := ⟨(by decide +kernel), rfl⟩
theorem d_L_law_607 : Dk k_L_law 607 .iaload 1 608 := ⟨(by decide +kernel), rfl⟩
theorem d_L_law_608 : DCV k_L_law 608 k_X_type 4 1 611 := ⟨76, (by decide +kernel), rfl, tb_at 436 (by decide +kernel) (by decide +kernel), m_X_type, iv_X_type.1, iv_X_type.2, ⟨(RX5, TX5, 7), rfl, rfl⟩, by decide +kernel, by decide⟩
theorem d_L_law_611 : DlA k_L_law 611 2 612 := Or.inl ⟨2, (by decide +kernel), rfl, rfl⟩
theorem d_L_law_612 : DlA k_L_law 612 0 613 := Or.inl ⟨0, (by decide +kernel), rfl, rfl⟩
theorem d_L_law_613 : DlI k_L_law 613 3 614 := Or.inl ⟨3, (by decide +kernel), rfl, rfl⟩
theorem d_L_law_614 : Dc k_L_law 614 (1) 615 := Or.inl ⟨(by decide +kernel), rfl⟩
theorem d_L_law_615 : Dk k_L_law 615 .iadd 1 616 := ⟨(by decide +kernel), rfl⟩
theorem d_L_law_616 : Dk k_L_law 616 .iaload 1 617 := ⟨(by decide +kernel), rfl⟩
theorem d_L_law_617 : DCV k_L_law 617 k_M_type 5 1 620 := ⟨79, (by decide +kernel), rfl, tb_at 818 (by decide +kernel) (by decide +kernel), m_M_type, iv_M_type.1, iv_M_type.2, ⟨(RX6, TX6, 16), rfl, rfl⟩, by decide +kernel, by decide⟩
theorem d_L_law_620 : Db k_L_law 620 (.if_icmp .eq) 623 1041 := ⟨421, (by decide +kernel), rfl, by decide⟩
theorem d_L_law_623 : Dc k_L_law 623 (0) 624 := Or.inl ⟨(by decide +kernel), rfl⟩
theorem d_L_law_624 : DrZ k_L_law 624 := ⟨(by decide +kernel), rfl⟩
theorem d_L_law_625 : DlA k_L_law 625 1 626 := Or.inl ⟨1, (by decide +kernel), rfl, rfl⟩
theorem d_L_law_626 : DCV k_L_law 626 k_X_read 4 0 629 := ⟨80, (by decide +kernel), rfl, tb_at 444 (by decide +kernel) (by decide +kernel), m_X_read, iv_X_read.1, iv_X_read.2, ⟨(RX5, TX5, 7), rfl, rfl⟩, by decide +kernel, by decide⟩
theorem d_L_law_629 : DlA k_L_law 629 2 630 := Or.inl ⟨2, (by decide +kernel), rfl, rfl⟩
theorem d_L_law_630 : DCV k_L_law 630 k_M_read 5 0 633 := ⟨83, (by decide +kernel), rfl, tb_at 824 (by decide +kernel) (by decide +kernel), m_M_read, iv_M_read.1, iv_M_read.2, ⟨(RX6, TX6, 16), rfl, rfl⟩, by decide +kernel, by decide⟩
theorem d_L_law_633 : Db k_L_law 633 (.if_icmp .eq) 636 1041 := ⟨408, (by decide +kernel), rfl, by decide⟩
theorem d_L_law_636 : Dc k_L_law 636 (0) 637 := Or.inl ⟨(by decide +kernel), rfl⟩
theorem d_L_law_637 : DrZ k_L_law 637 := ⟨(by decide +kernel), rfl⟩
theorem d_L_law_638 : DlA k_L_law 638 1 639 := Or.inl ⟨1, (by decide +kernel), rfl, rfl⟩
theorem d_L_law_639 : DlA k_L_law 639 0 640 := Or.inl ⟨0, (by decide +kernel), rfl, rfl⟩
theorem d_L_law_640 : DlI k_L_law 640 3 641 := Or.inl ⟨3, (by decide +kernel), rfl, rfl⟩
theorem d_L_law_641 : Dc k_L_law 641 (1) 642 := Or.inl ⟨(by decide +kernel), rfl⟩
theorem d_L_law_642 : Dk k_L_law 642 .iadd 1 643 := ⟨(by decide +kernel), rfl⟩
theorem d_L_law_643 : Dk k_L_law 643 .iaload 1 644 := ⟨(by decide +kernel), rfl⟩
theorem d_L_law_644 : DCV k_L_law 644 k_X_drift 4 1 647 := ⟨84, (by decide +kernel), rfl, tb_at 481 (by decide +kernel) (by decide +kernel), m_X_drift, iv_X_drift.1, iv_X_drift.2, ⟨(RX5, TX5, 7), rfl, rfl⟩, by decide +kernel, by decide⟩
theorem d_L_law_647 : DlA k_L_law 647 2 648 := Or.inl ⟨2, (by decide +kernel), rfl, rfl⟩
theorem d_L_law_648 : DlA k_L_law 648 0 649 := Or.inl ⟨0, (by decide +kernel), rfl, rfl⟩
theorem d_L_law_649 : DlI k_L_law 649 3 650 := Or.inl ⟨3, (by decide +kernel), rfl, rfl⟩
theorem d_L_law_650 : Dc k_L_law 650 (1) 651 := Or.inl ⟨(by decide +kernel), rfl⟩
theorem d_L_law_651 : Dk k_L_law 651 .iadd 1 652 := ⟨(by decide +kernel), rfl⟩
theorem d_L_law_652 : Dk k_L_law 652 .iaload 1 653 := ⟨(by decide +kernel), rfl⟩
theorem d_L_law_653 : DCV k_L_law 653 k_M_drift 5 1 656 := ⟨87, (by decide +kernel), rfl, tb_at 842 (by decide +kernel) (by decide +kernel), m_M_drift, iv_M_drift.1, iv_M_drift.2, ⟨(RX6, TX6, 16), rfl, rfl⟩, by decide +kernel, by decide⟩
theorem d_L_law_656 : Db k_L_law 656 (.if_icmp .eq) 659 1041 := ⟨385, (by decide +kernel), rfl, by decide⟩
theorem d_L_law_659 : Dc k_L_law 659 (0) 660 := Or.inl ⟨(by decide +kernel), rfl⟩
theorem d_L_law_660 : DrZ k_L_law 660 := ⟨(by decide +kernel), rfl⟩
theorem d_L_law_661 : DlA k_L_law 661 1 662 := Or.inl ⟨1, (by decide +kernel), rfl, rfl⟩
theorem d_L_law_662 : DCV k_L_law 662 k_X_undo 4 0 665 := ⟨88, (by decide +kernel), rfl, tb_at 490 (by decide +kernel) (by decide +kernel), m_X_undo, iv_X_undo.1, iv_X_undo.2, ⟨(RX5, TX5, 7), rfl, rfl⟩, by decide +kernel, by decide⟩
theorem d_L_law_665 : DlA k_L_law 665 2 666 := Or.inl ⟨2, (by decide +kernel), rfl, rfl⟩
theorem d_L_law_666 : DCV k_L_law 666 k_M_undo 5 0 669 := ⟨91, (by decide +kernel), rfl, tb_at 851 (by decide +kernel) (by decide +kernel), m_M_undo, iv_M_undo.1, iv_M_undo.2, ⟨(RX6, TX6, 16), rfl, rfl⟩, by decide +kernel, by decide⟩
theorem d_L_law_669 : Db k_L_law 669 (.if_icmp .eq) 672 1041 := ⟨372, (by decide +kernel), rfl, by decide⟩
theorem d_L_law_672 : Dc k_L_law 672 (0) 673 := Or.inl ⟨(by decide +kernel), rfl⟩
theorem d_L_law_673 : DrZ k_L_law 673 := ⟨(by decide +kernel), rfl⟩
theorem d_L_law_674 : DlA k_L_law 674 1 675 := Or.inl ⟨1, (by decide +kernel), rfl, rfl⟩
theorem d_L_law_675 : DlA k_L_law 675 0 676 := Or.inl ⟨0, (by decide +kernel), rfl, rfl⟩
theorem d_L_law_676 : DlI k_L_law 676 3 677 := Or.inl ⟨3, (by decide +kernel), rfl, rfl⟩
theorem d_L_law_677 : Dc k_L_law 677 (1) 678 := Or.inl ⟨(by decide +kernel), rfl⟩
theorem d_L_law_678 : Dk k_L_law 678 .iadd 1 679 := ⟨(by decide +kernel), rfl⟩
theorem d_L_law_679 : Dk k_L_law 679 .iaload 1 680 := ⟨(by decide +kernel), rfl⟩
theorem d_L_law_680 : DCV k_L_law 680 k_X_seed 4 1 683 := ⟨92, (by decide +kernel), rfl, tb_at 498 (by decide +kernel) (by decide +kernel), m_X_seed, iv_X_seed.1, iv_X_seed.2, ⟨(RX5, TX5, 7), rfl, rfl⟩, by decide +kernel, by decide⟩
theorem d_L_law_683 : DlA k_L_law 683 2 684 := Or.inl ⟨2, (by decide +kernel), rfl, rfl⟩
theorem d_L_law_684 : DlA k_L_law 684 0 685 := Or.inl ⟨0, (by decide +kernel), rfl, rfl⟩
theorem d_L_law_685 : DlI k_L_law 685 3 686 := Or.inl ⟨3, (by decide +kernel), rfl, rfl⟩
theorem d_L_law_686 : Dc k_L_law 686 (1) 687 := Or.inl ⟨(by decide +kernel), rfl⟩
theorem d_L_law_687 : Dk k_L_law 687 .iadd 1 688 := ⟨(by decide +kernel), rfl⟩
theorem d_L_law_688 : Dk k_L_law 688 .iaload 1 689 := ⟨(by decide +kernel), rfl⟩
theorem d_L_law_689 : DCV k_L_law 689 k_M_seed 5 1 692 := ⟨95, (by decide +kernel), rfl, tb_at 847 (by decide +kernel) (by decide +kernel), m_M_seed, iv_M_seed.1, iv_M_seed.2, ⟨(RX6, TX6, 16), rfl, rfl⟩, by decide +kernel, by decide⟩
theorem d_L_law_692 : Db k_L_law 692 (.if_icmp .eq) 695 1041 := ⟨349, (by decide +kernel), rfl, by decide⟩
theorem d_L_law_695 : Dc k_L_law 695 (0) 696 := Or.inl ⟨(by decide +kernel), rfl⟩
theorem d_L_law_696 : DrZ k_L_law 696 := ⟨(by decide +kernel), rfl⟩
theorem d_L_law_697 : DlA k_L_law 697 1 698 := Or.inl ⟨1, (by decide +kernel), rfl, rfl⟩
theorem d_L_law_698 : DCV k_L_law 698 k_X_image 4 0 701 := ⟨96, (by decide +kernel), rfl, tb_at 502 (by decide +kernel) (by decide +kernel), m_X_image, iv_X_image.1, iv_X_image.2, ⟨(RX5, TX5, 7), rfl, rfl⟩, by decide +kernel, by decide⟩
theorem d_L_law_701 : DlA k_L_law 701 2 702 := Or.inl ⟨2, (by decide +kernel), rfl, rfl⟩
theorem d_L_law_702 : DCV k_L_law 702 k_M_image 5 0 705 := ⟨99, (by decide +kernel), rfl, tb_at 855 (by decide +kernel) (by decide +kernel), m_M_image, iv_M_image.1, iv_M_image.2, ⟨(RX6, TX6, 16), rfl, rfl⟩, by decide +kernel, by decide⟩
theorem d_L_law_705 : Db k_L_law 705 (.if_icmp .eq) 708 1041 := ⟨336, (by decide +kernel), rfl, by decide⟩
theorem d_L_law_708 : Dc k_L_law 708 (0) 709 := Or.inl ⟨(by decide +kernel), rfl⟩
theorem d_L_law_709 : DrZ k_L_law 709 := ⟨(by decide +kernel), rfl⟩
theorem d_L_law_710 : DlA k_L_law 710 1 711 := Or.inl ⟨1, (by decide +kernel), rfl, rfl⟩
theorem d_L_law_711 : DCV k_L_law 711 k_X_restore 4 0 714 := ⟨100, (by decide +kernel), rfl, tb_at 511 (by decide +kernel) (by decide +kernel), m_X_restore, iv_X_restore.1, iv_X_restore.2, ⟨(RX5, TX5, 7), rfl, rfl⟩, by decide +kernel, by decide⟩
theorem d_L_law_714 : DlA k_L_law 714 2 715 := Or.inl ⟨2, (by decide +kernel), rfl, rfl⟩
theorem d_L_law_715 : DCV k_L_law 715 k_M_restore 5 0 718 := ⟨103, (by decide +kernel), rfl, tb_at 859 (by decide +kernel) (by decide +kernel), m_M_restore, iv_M_restore.1, iv_M_restore.2, ⟨(RX6, TX6, 16), rfl, rfl⟩, by decide +kernel, by decide⟩
theorem d_L_law_718 : Db k_L_law 718 (.if_icmp .eq) 721 1041 := ⟨323, (by decide +kernel), rfl, by decide⟩
theorem d_L_law_721 : Dc k_L_law 721 (0) 722 := Or.inl ⟨(by decide +kernel), rfl⟩
theorem d_L_law_722 : DrZ k_L_law 722 := ⟨(by decide +kernel), rfl⟩
theorem d_L_law_723 : DlA k_L_law 723 1 724 := Or.inl ⟨1, (by decide +kernel), rfl, rfl⟩
theorem d_L_law_724 : DlA k_L_law 724 0 725 := Or.inl ⟨0, (by decide +kernel), rfl, rfl⟩
theorem d_L_law_725 : DlI k_L_law 725 3 726 := Or.inl ⟨3, (by decide +kernel), rfl, rfl⟩
theorem d_L_law_726 : Dc k_L_law 726 (1) 727 := Or.inl ⟨(by decide +kernel), rfl⟩
theorem d_L_law_727 : Dk k_L_law 727 .iadd 1 728 := ⟨(by decide +kernel), rfl⟩
theorem d_L_law_728 : Dk k_L_law 728 .iaload 1 729 := ⟨(by decide +kernel), rfl⟩
theorem d_L_law_729 : DlA k_L_law 729 0 730 := Or.inl ⟨0, (by decide +kernel), rfl, rfl⟩
theorem d_L_law_730 : DlI k_L_law 730 3 731 := Or.inl ⟨3, (by decide +kernel), rfl, rfl⟩
theorem d_L_law_731 : Dc k_L_law 731 (2) 732 := Or.inl ⟨(by decide +kernel), rfl⟩
theorem d_L_law_732 : Dk k_L_law 732 .iadd 1 733 := ⟨(by decide +kernel), rfl⟩
theorem d_L_law_733 : Dk k_L_law 733 .iaload 1 734 := ⟨(by decide +kernel), rfl⟩
theorem d_L_law_734 : DlA k_L_law 734 0 735 := Or.inl ⟨0, (by decide +kernel), rfl, rfl⟩
theorem d_L_law_735 : DlI k_L_law 735 3 736 := Or.inl ⟨3, (by decide +kernel), rfl, rfl⟩
theorem d_L_law_736 : Dc k_L_law 736 (3) 737 := Or.inl ⟨(by decide +kernel), rfl⟩
theorem d_L_law_737 : Dk k_L_law 737 .iadd 1 738 := ⟨(by decide +kernel), rfl⟩
theorem d_L_law_738 : Dk k_L_law 738 .iaload 1 739 := ⟨(by decide +kernel), rfl⟩
theorem d_L_law_739 : DlA k_L_law 739 0 740 := Or.inl ⟨0, (by decide +kernel), rfl, rfl⟩
theorem d_L_law_740 : DlI k_L_law 740 3 741 := Or.inl ⟨3, (by decide +kernel), rfl, rfl⟩
theorem d_L_law_741 : Dc k_L_law 741 (4) 742 := Or.inl ⟨(by decide +kernel), rfl⟩
theorem d_L_law_742 : Dk k_L_law 742 .iadd 1 743 := ⟨(by decide +kernel), rfl⟩
theorem d_L_law_743 : Dk k_L_law 743 .iaload 1 744 := ⟨(by decide +kernel), rfl⟩
theorem d_L_law_744 : DCV k_L_law 744 k_X_fits 4 4 747 := ⟨104, (by decide +kernel), rfl, tb_at 515 (by decide +kernel) (by decide +kernel), m_X_fits, iv_X_fits.1, iv_X_fits.2, ⟨(RX5, TX5, 7), rfl, rfl⟩, by decide +kernel, by decide⟩
theorem d_L_law_747 : DlA k_L_law 747 2 748 := Or.inl ⟨2, (by decide +kernel), rfl, rfl⟩
theorem d_L_law_748 : DlA k_L_law 748 0 749 := Or.inl ⟨0, (by decide +kernel), rfl, rfl⟩
theorem d_L_law_749 : DlI k_L_law 749 3 750 := Or.inl ⟨3, (by decide +kernel), rfl, rfl⟩
theorem d_L_law_750 : Dc k_L_law 750 (1) 751 := Or.inl ⟨(by decide +kernel), rfl⟩
theorem d_L_law_751 : Dk k_L_law 751 .iadd 1 752 := ⟨(by decide +kernel), rfl⟩
theorem d_L_law_752 : Dk k_L_law 752 .iaload 1 753 := ⟨(by decide +kernel), rfl⟩
theorem d_L_law_753 : DlA k_L_law 753 0 754 := Or.inl ⟨0, (by decide +kernel), rfl, rfl⟩
theorem d_L_law_754 : DlI k_L_law 754 3 755 := Or.inl ⟨3, (by decide +kernel), rfl, rfl⟩
theorem d_L_law_755 : Dc k_L_law 755 (2) 756 := Or.inl ⟨(by decide +kernel), rfl⟩
theorem d_L_law_756 : Dk k_L_law 756 .iadd 1 757 := ⟨(by decide +kernel), rfl⟩
theorem d_L_law_757 : Dk k_L_law 757 .iaload 1 758 := ⟨(by decide +kernel), rfl⟩
theorem d_L_law_758 : DlA k_L_law 758 0 759 := Or.inl ⟨0, (by decide +kernel), rfl, rfl⟩
theorem d_L_law_759 : DlI k_L_law 759 3 760 := Or.inl ⟨3, (by decide +kernel), rfl, rfl⟩
theorem d_L_law_760 : Dc k_L_law 760 (3) 761 := Or.inl ⟨(by decide +kernel), rfl⟩
theorem d_L_law_761 : Dk k_L_law 761 .iadd 1 762 := ⟨(by decide +kernel), rfl⟩
theorem d_L_law_762 : Dk k_L_law 762 .iaload 1 763 := ⟨(by decide +kernel), rfl⟩
theorem d_L_law_763 : DlA k_L_law 763 0 764 := Or.inl ⟨0, (by decide +kernel), rfl, rfl⟩
theorem d_L_law_764 : DlI k_L_law 764 3 765 := Or.inl ⟨3, (by decide +kernel), rfl, rfl⟩
theorem d_L_law_765 : Dc k_L_law 765 (4) 766 := Or.inl ⟨(by decide +kernel), rfl⟩
theorem d_L_law_766 : Dk k_L_law 766 .iadd 1 767 := ⟨(by decide +kernel), rfl⟩
theorem d_L_law_767 : Dk k_L_law 767 .iaload 1 768 := ⟨(by decide +kernel), rfl⟩
theorem d_L_law_768 : DCV k_L_law 768 k_M_fits 5 4 771 := ⟨108, (by decide +kernel), rfl, tb_at 889 (by decide +kernel) (by decide +kernel), m_M_fits, iv_M_fits.1, iv_M_fits.2, ⟨(RX6, TX6, 16), rfl, rfl⟩, by decide +kernel, by decide⟩
theorem d_L_law_771 : Db k_L_law 771 (.if_icmp .eq) 774 1041 := ⟨270, (by decide +kernel), rfl, by decide⟩
theorem d_L_law_774 : Dc k_L_law 774 (0) 775 := Or.inl ⟨(by decide +kernel), rfl⟩
theorem d_L_law_775 : DrZ k_L_law 775 := ⟨(by decide +kernel), rfl⟩
theorem d_L_law_776 : DlA k_L_law 776 1 777 := Or.inl ⟨1, (by decide +kernel), rfl, rfl⟩
theorem d_L_law_777 : DlA k_L_law 777 0 778 := Or.inl ⟨0, (by decide +kernel), rfl, rfl⟩
theorem d_L_law_778 : DlI k_L_law 778 3 779 := Or.inl ⟨3, (by decide +kernel), rfl, rfl⟩
theorem d_L_law_779 : Dc k_L_law 779 (1) 780 := Or.inl ⟨(by decide +kernel), rfl⟩
theorem d_L_law_780 : Dk k_L_law 780 .iadd 1 781 := ⟨(by decide +kernel), rfl⟩
theorem d_L_law_781 : Dk k_L_law 781 .iaload 1 782 := ⟨(by decide +kernel), rfl⟩
theorem d_L_law_782 : DlA k_L_law 782 0 783 := Or.inl ⟨0, (by decide +kernel), rfl, rfl⟩
theorem d_L_law_783 : DlI k_L_law 783 3 784 := Or.inl ⟨3, (by decide +kernel), rfl, rfl⟩
theorem d_L_law_784 : Dc k_L_law 784 (2) 785 := Or.inl ⟨(by decide +kernel), rfl⟩
theorem d_L_law_785 : Dk k_L_law 785 .iadd 1 786 := ⟨(by decide +kernel), rfl⟩
theorem d_L_law_786 : Dk k_L_law 786 .iaload 1 787 := ⟨(by decide +kernel), rfl⟩
theorem d_L_law_787 : DlA k_L_law 787 0 788 := Or.inl ⟨0, (by decide +kernel), rfl, rfl⟩
theorem d_L_law_788 : DlI k_L_law 788 3 789 := Or.inl ⟨3, (by decide +kernel), rfl, rfl⟩
theorem d_L_law_789 : Dc k_L_law 789 (3) 790 := Or.inl ⟨(by decide +kernel), rfl⟩
theorem d_L_law_790 : Dk k_L_law 790 .iadd 1 791 := ⟨(by decide +kernel), rfl⟩
theorem d_L_law_791 : Dk k_L_law 791 .iaload 1 792 := ⟨(by decide +kernel), rfl⟩
theorem d_L_law_792 : DlA k_L_law 792 0 793 := Or.inl ⟨0, (by decide +kernel), rfl, rfl⟩
theorem d_L_law_793 : DlI k_L_law 793 3 794 := Or.inl ⟨3, (by decide +kernel), rfl, rfl⟩
theorem d_L_law_794 : Dc k_L_law 794 (4) 795 := Or.inl ⟨(by decide +kernel), rfl⟩
theorem d_L_law_795 : Dk k_L_law 795 .iadd 1 796 := ⟨(by decide +kernel), rfl⟩
theorem d_L_law_796 : Dk k_L_law 796 .iaload 1 797 := ⟨(by decide +kernel), rfl⟩
theorem d_L_law_797 : DCV k_L_law 797 k_X_film 4 4 800 := ⟨109, (by decide +kernel), rfl, tb_at 557 (by decide +kernel) (by decide +kernel), m_X_film, iv_X_film.1, iv_X_film.2, ⟨(RX5, TX5, 7), rfl, rfl⟩, by decide +kernel, by decide⟩
theorem d_L_law_800 : DlA k_L_law 800 2 801 := Or.inl ⟨2, (by decide +kernel), rfl, rfl⟩
theorem d_L_law_801 : DlA k_L_law 801 0 802 := Or.inl ⟨0, (by decide +kernel), rfl, rfl⟩
theorem d_L_law_802 : DlI k_L_law 802 3 803 := Or.inl ⟨3, (by decide +kernel), rfl, rfl⟩
theorem d_L_law_803 : Dc k_L_law 803 (1) 804 := Or.inl ⟨(by decide +kernel), rfl⟩
theorem d_L_law_804 : Dk k_L_law 804 .iadd 1 805 := ⟨(by decide +kernel), rfl⟩
theorem d_L_law_805 : Dk k_L_law 805 .iaload 1 806 := ⟨(by decide +kernel), rfl⟩
theorem d_L_law_806 : DlA k_L_law 806 0 807 := Or.inl ⟨0, (by decide +kernel), rfl, rfl⟩
theorem d_L_law_807 : DlI k_L_law 807 3 808 := Or.inl ⟨3, (by decide +kernel), rfl, rfl⟩
theorem d_L_law_808 : Dc k_L_law 808 (2) 809 := Or.inl ⟨(by decide +kernel), rfl⟩
theorem d_L_law_809 : Dk k_L_law 809 .iadd 1 810 := ⟨(by decide +kernel), rfl⟩
theorem d_L_law_810 : Dk k_L_law 810 .iaload 1 811 := ⟨(by decide +kernel), rfl⟩
theorem d_L_law_811 : DlA k_L_law 811 0 812 := Or.inl ⟨0, (by decide +kernel), rfl, rfl⟩
theorem d_L_law_812 : DlI k_L_law 812 3 813 := Or.inl ⟨3, (by decide +kernel), rfl, rfl⟩
theorem d_L_law_813 : Dc k_L_law 813 (3) 814 := Or.inl ⟨(by decide +kernel), rfl⟩
theorem d_L_law_814 : Dk k_L_law 814 .iadd 1 815 := ⟨(by decide +kernel), rfl⟩
theorem d_L_law_815 : Dk k_L_law 815 .iaload 1 816 := ⟨(by decide +kernel), rfl⟩
theorem d_L_law_816 : DlA k_L_law 816 0 817 := Or.inl ⟨0, (by decide +kernel), rfl, rfl⟩
theorem d_L_law_817 : DlI k_L_law 817 3 818 := Or.inl ⟨3, (by decide +kernel), rfl, rfl⟩
theorem d_L_law_818 : Dc k_L_law 818 (4) 819 := Or.inl ⟨(by decide +kernel), rfl⟩
theorem d_L_law_819 : Dk k_L_law 819 .iadd 1 820 := ⟨(by decide +kernel), rfl⟩
theorem d_L_law_820 : Dk k_L_law 820 .iaload 1 821 := ⟨(by decide +kernel), rfl⟩
theorem d_L_law_821 : DCV k_L_law 821 k_M_film 5 4 824 := ⟨112, (by decide +kernel), rfl, tb_at 897 (by decide +kernel) (by decide +kernel), m_M_film, iv_M_film.1, iv_M_film.2, ⟨(RX6, TX6, 16), rfl, rfl⟩, by decide +kernel, by decide⟩
theorem d_L_law_824 : Db k_L_law 824 (.if_icmp .eq) 827 1041 := ⟨217, (by decide +kernel), rfl, by decide⟩
theorem d_L_law_827 : Dc k_L_law 827 (0) 828 := Or.inl ⟨(by decide +kernel), rfl⟩
theorem d_L_law_828 : DrZ k_L_law 828 := ⟨(by decide +kernel), rfl⟩
theorem d_L_law_829 : DlA k_L_law 829 1 830 := Or.inl ⟨1, (by decide +kernel), rfl, rfl⟩
theorem d_L_law_830 : DlA k_L_law 830 0 831 := Or.inl ⟨0, (by decide +kernel), rfl, rfl⟩
theorem d_L_law_831 : DlI k_L_law 831 3 832 := Or.inl ⟨3, (by decide +kernel), rfl, rfl⟩
theorem d_L_law_832 : Dc k_L_law 832 (1) 833 := Or.inl ⟨(by decide +kernel), rfl⟩
theorem d_L_law_833 : Dk k_L_law 833 .iadd 1 834 := ⟨(by decide +kernel), rfl⟩
theorem d_L_law_834 : Dk k_L_law 834 .iaload 1 835 := ⟨(by decide +kernel), rfl⟩
theorem d_L_law_835 : DlA k_L_law 835 0 836 := Or.inl ⟨0, (by decide +kernel), rfl, rfl⟩
theorem d_L_law_836 : DlI k_L_law 836 3 837 := Or.inl ⟨3, (by decide +kernel), rfl, rfl⟩
theorem d_L_law_837 : Dc k_L_law 837 (2) 838 := Or.inl ⟨(by decide +kernel), rfl⟩
theorem d_L_law_838 : Dk k_L_law 838 .iadd 1 839 := ⟨(by decide +kernel), rfl⟩
theorem d_L_law_839 : Dk k_L_law 839 .iaload 1 840 := ⟨(by decide +kernel), rfl⟩
theorem d_L_law_840 : DlA k_L_law 840 0 841 := Or.inl ⟨0, (by decide +kernel), rfl, rfl⟩
theorem d_L_law_841 : DlI k_L_law 841 3 842 := Or.inl ⟨3, (by decide +kernel), rfl, rfl⟩
theorem d_L_law_842 : Dc k_L_law 842 (3) 843 := Or.inl ⟨(by decide +kernel), rfl⟩
theorem d_L_law_843 : Dk k_L_law 843 .iadd 1 844 := ⟨(by decide +kernel), rfl⟩
theorem d_L_law_844 : Dk k_L_law 844 .iaload 1 845 := ⟨(by decide +kernel), rfl⟩
theorem d_L_law_845 : DCV k_L_law 845 k_X_sheet 4 3 848 := ⟨113, (by decide +kernel), rfl, tb_at 565 (by decide +kernel) (by decide +kernel), m_X_sheet, iv_X_sheet.1, iv_X_sheet.2, ⟨(RX5, TX5, 7), rfl, rfl⟩, by decide +kernel, by decide⟩
theorem d_L_law_848 : DlA k_L_law 848 2 849 := Or.inl ⟨2, (by decide +kernel), rfl, rfl⟩
theorem d_L_law_849 : DlA k_L_law 849 0 850 := Or.inl ⟨0, (by decide +kernel), rfl, rfl⟩
theorem d_L_law_850 : DlI k_L_law 850 3 851 := Or.inl ⟨3, (by decide +kernel), rfl, rfl⟩
theorem d_L_law_851 : Dc k_L_law 851 (1) 852 := Or.inl ⟨(by decide +kernel), rfl⟩
theorem d_L_law_852 : Dk k_L_law 852 .iadd 1 853 := ⟨(by decide +kernel), rfl⟩
theorem d_L_law_853 : Dk k_L_law 853 .iaload 1 854 := ⟨(by decide +kernel), rfl⟩
theorem d_L_law_854 : DlA k_L_law 854 0 855 := Or.inl ⟨0, (by decide +kernel), rfl, rfl⟩
theorem d_L_law_855 : DlI k_L_law 855 3 856 := Or.inl ⟨3, (by decide +kernel), rfl, rfl⟩
theorem d_L_law_856 : Dc k_L_law 856 (2) 857 := Or.inl ⟨(by decide +kernel), rfl⟩
theorem d_L_law_857 : Dk k_L_law 857 .iadd 1 858 := ⟨(by decide +kernel), rfl⟩
theorem d_L_law_858 : Dk k_L_law 858 .iaload 1 859 := ⟨(by decide +kernel), rfl⟩
theorem d_L_law_859 : DlA k_L_law 859 0 860 := Or.inl ⟨0, (by decide +kernel), rfl, rfl⟩
theorem d_L_law_860 : DlI k_L_law 860 3 861 := Or.inl ⟨3, (by decide +kernel), rfl, rfl⟩
theorem d_L_law_861 : Dc k_L_law 861 (3) 862 := Or.inl ⟨(by decide +kernel), rfl⟩
theorem d_L_law_862 : Dk k_L_law 862 .iadd 1 863 := ⟨(by decide +kernel), rfl⟩
theorem d_L_law_863 : Dk k_L_law 863 .iaload 1 864 := ⟨(by decide +kernel), rfl⟩
theorem d_L_law_864 : DCV k_L_law 864 k_M_sheet 5 3 867 := ⟨116, (by decide +kernel), rfl, tb_at 863 (by decide +kernel) (by decide +kernel), m_M_sheet, iv_M_sheet.1, iv_M_sheet.2, ⟨(RX6, TX6, 16), rfl, rfl⟩, by decide +kernel, by decide⟩
theorem d_L_law_867 : Db k_L_law 867 (.if_icmp .eq) 870 1041 := ⟨174, (by decide +kernel), rfl, by decide⟩
theorem d_L_law_870 : Dc k_L_law 870 (0) 871 := Or.inl ⟨(by decide +kernel), rfl⟩
theorem d_L_law_871 : DrZ k_L_law 871 := ⟨(by decide +kernel), rfl⟩
theorem d_L_law_872 : DlA k_L_law 872 1 873 := Or.inl ⟨1, (by decide +kernel), rfl, rfl⟩
theorem d_L_law_873 : DlA k_L_law 873 0 874 := Or.inl ⟨0, (by decide +kernel), rfl, rfl⟩
theorem d_L_law_874 : DlI k_L_law 874 3 875 := Or.inl ⟨3, (by decide +kernel), rfl, rfl⟩
theorem d_L_law_875 : Dc k_L_law 875 (1) 876 := Or.inl ⟨(by decide +kernel), rfl⟩
theorem d_L_law_876 : Dk k_L_law 876 .iadd 1 877 := ⟨(by decide +kernel), rfl⟩
theorem d_L_law_877 : Dk k_L_law 877 .iaload 1 878 := ⟨(by decide +kernel), rfl⟩
theorem d_L_law_878 : DCV k_L_law 878 k_X_drop 4 1 881 := ⟨117, (by decide +kernel), rfl, tb_at 576 (by decide +kernel) (by decide +kernel), m_X_drop, iv_X_drop.1, iv_X_drop.2, ⟨(RX5, TX5, 7), rfl, rfl⟩, by decide +kernel, by decide⟩
theorem d_L_law_881 : DlA k_L_law 881 2 882 := Or.inl ⟨2, (by decide +kernel), rfl, rfl⟩
theorem d_L_law_882 : DlA k_L_law 882 0 883 := Or.inl ⟨0, (by decide +kernel), rfl, rfl⟩
theorem d_L_law_883 : DlI k_L_law 883 3 884 := Or.inl ⟨3, (by decide +kernel), rfl, rfl⟩
theorem d_L_law_884 : Dc k_L_law 884 (1) 885 := Or.inl ⟨(by decide +kernel), rfl⟩
theorem d_L_law_885 : Dk k_L_law 885 .iadd 1 886 := ⟨(by decide +kernel), rfl⟩
theorem d_L_law_886 : Dk k_L_law 886 .iaload 1 887 := ⟨(by decide +kernel), rfl⟩
theorem d_L_law_887 : DCV k_L_law 887 k_M_drop 5 1 890 := ⟨120, (by decide +kernel), rfl, tb_at 870 (by decide +kernel) (by decide +kernel), m_M_drop, iv_M_drop.1, iv_M_drop.2, ⟨(RX6, TX6, 16), rfl, rfl⟩, by decide +kernel, by decide⟩
theorem d_L_law_890 : Db k_L_law 890 (.if_icmp .eq) 893 1041 := ⟨151, (by decide +kernel), rfl, by decide⟩
theorem d_L_law_893 : Dc k_L_law 893 (0) 894 := Or.inl ⟨(by decide +kernel), rfl⟩
theorem d_L_law_894 : DrZ k_L_law 894 := ⟨(by decide +kernel), rfl⟩
theorem d_L_law_895 : DlA k_L_law 895 1 896 := Or.inl ⟨1, (by decide +kernel), rfl, rfl⟩
theorem d_L_law_896 : DlA k_L_law 896 0 897 := Or.inl ⟨0, (by decide +kernel), rfl, rfl⟩
theorem d_L_law_897 : DlI k_L_law 897 3 898 := Or.inl ⟨3, (by decide +kernel), rfl, rfl⟩
theorem d_L_law_898 : Dc k_L_law 898 (1) 899 := Or.inl ⟨(by decide +kernel), rfl⟩
theorem d_L_law_899 : Dk k_L_law 899 .iadd 1 900 := ⟨(by decide +kernel), rfl⟩
theorem d_L_law_900 : Dk k_L_law 900 .iaload 1 901 := ⟨(by decide +kernel), rfl⟩
theorem d_L_law_901 : DlA k_L_law 901 0 902 := Or.inl ⟨0, (by decide +kernel), rfl, rfl⟩
theorem d_L_law_902 : DlI k_L_law 902 3 903 := Or.inl ⟨3, (by decide +kernel), rfl, rfl⟩
theorem d_L_law_903 : Dc k_L_law 903 (2) 904 := Or.inl ⟨(by decide +kernel), rfl⟩
theorem d_L_law_904 : Dk k_L_law 904 .iadd 1 905 := ⟨(by decide +kernel), rfl⟩
theorem d_L_law_905 : Dk k_L_law 905 .iaload 1 906 := ⟨(by decide +kernel), rfl⟩
theorem d_L_law_906 : DlA k_L_law 906 0 907 := Or.inl ⟨0, (by decide +kernel), rfl, rfl⟩
theorem d_L_law_907 : DlI k_L_law 907 3 908 := Or.inl ⟨3, (by decide +kernel), rfl, rfl⟩
theorem d_L_law_908 : Dc k_L_law 908 (3) 909 := Or.inl ⟨(by decide +kernel), rfl⟩
theorem d_L_law_909 : Dk k_L_law 909 .iadd 1 910 := ⟨(by decide +kernel), rfl⟩
theorem d_L_law_910 : Dk k_L_law 910 .iaload 1 911 := ⟨(by decide +kernel), rfl⟩
theorem d_L_law_911 : DlA k_L_law 911 0 912 := Or.inl ⟨0, (by decide +kernel), rfl, rfl⟩
theorem d_L_law_912 : DlI k_L_law 912 3 913 := Or.inl ⟨3, (by decide +kernel), rfl, rfl⟩
theorem d_L_law_913 : Dc k_L_law 913 (4) 914 := Or.inl ⟨(by decide +kernel), rfl⟩
theorem d_L_law_914 : Dk k_L_law 914 .iadd 1 915 := ⟨(by decide +kernel), rfl⟩
theorem d_L_law_915 : Dk k_L_law 915 .iaload 1 916 := ⟨(by decide +kernel), rfl⟩
theorem d_L_law_916 : Dk k_L_law 916 .i2l 1 917 := ⟨(by decide +kernel), rfl⟩
theorem d_L_law_917 : Dc k_L_law 917 (32) 919 := Or.inr (Or.inl ⟨(by decide +kernel), by decide, rfl⟩)
theorem d_L_law_919 : Dk k_L_law 919 .lshl 1 920 := ⟨(by decide +kernel), rfl⟩
theorem d_L_law_920 : DlA k_L_law 920 0 921 := Or.inl ⟨0, (by decide +kernel), rfl, rfl⟩
theorem d_L_law_921 : DlI k_L_law 921 3 922 := Or.inl ⟨3, (by decide +kernel), rfl, rfl⟩
theorem d_L_law_922 : Dc k_L_law 922 (5) 923 := Or.inl ⟨(by decide +kernel), rfl⟩
theorem d_L_law_923 : Dk k_L_law 923 .iadd 1 924 := ⟨(by decide +kernel), rfl⟩
theorem d_L_law_924 : Dk k_L_law 924 .iaload 1 925 := ⟨(by decide +kernel), rfl⟩
theorem d_L_law_925 : Dk k_L_law 925 .i2l 1 926 := ⟨(by decide +kernel), rfl⟩
theorem d_L_law_926 : DcL k_L_law 926 (4294967295) 929 := Or.inr ⟨121, (by decide +kernel), tb_at 901 (by decide +kernel) (by decide +kernel), rfl⟩
theorem d_L_law_929 : Dk k_L_law 929 .land 1 930 := ⟨(by decide +kernel), rfl⟩
theorem d_L_law_930 : Dk k_L_law 930 .lor 1 931 := ⟨(by decide +kernel), rfl⟩
theorem d_L_law_931 : DCV k_L_law 931 k_X_item 4 4 934 := ⟨123, (by decide +kernel), rfl, tb_at 581 (by decide +kernel) (by decide +kernel), m_X_item, iv_X_item.1, iv_X_item.2, ⟨(RX5, TX5, 7), rfl, rfl⟩, by decide +kernel, by decide⟩
theorem d_L_law_934 : DlA k_L_law 934 2 935 := Or.inl ⟨2, (by decide +kernel), rfl, rfl⟩
theorem d_L_law_935 : DlA k_L_law 935 0 936 := Or.inl ⟨0, (by decide +kernel), rfl, rfl⟩
theorem d_L_law_936 : DlI k_L_law 936 3 937 := Or.inl ⟨3, (by decide +kernel), rfl, rfl⟩
theorem d_L_law_937 : Dc k_L_law 937 (1) 938 := Or.inl ⟨(by decide +kernel), rfl⟩
theorem d_L_law_938 : Dk k_L_law 938 .iadd 1 939 := ⟨(by decide +kernel), rfl⟩
theorem d_L_law_939 : Dk k_L_law 939 .iaload 1 940 := ⟨(by decide +kernel), rfl⟩
theorem d_L_law_940 : DlA k_L_law 940 0 941 := Or.inl ⟨0, (by decide +kernel), rfl, rfl⟩
theorem d_L_law_941 : DlI k_L_law 941 3 942 := Or.inl ⟨3, (by decide +kernel), rfl, rfl⟩
theorem d_L_law_942 : Dc k_L_law 942 (2) 943 := Or.inl ⟨(by decide +kernel), rfl⟩
theorem d_L_law_943 : Dk k_L_law 943 .iadd 1 944 := ⟨(by decide +kernel), rfl⟩
theorem d_L_law_944 : Dk k_L_law 944 .iaload 1 945 := ⟨(by decide +kernel), rfl⟩
theorem d_L_law_945 : DlA k_L_law 945 0 946 := Or.inl ⟨0, (by decide +kernel), rfl, rfl⟩
theorem d_L_law_946 : DlI k_L_law 946 3 947 := Or.inl ⟨3, (by decide +kernel), rfl, rfl⟩
theorem d_L_law_947 : Dc k_L_law 947 (3) 948 := Or.inl ⟨(by decide +kernel), rfl⟩
theorem d_L_law_948 : Dk k_L_law 948 .iadd 1 949 := ⟨(by decide +kernel), rfl⟩
theorem d_L_law_949 : Dk k_L_law 949 .iaload 1 950 := ⟨(by decide +kernel), rfl⟩
theorem d_L_law_950 : DlA k_L_law 950 0 951 := Or.inl ⟨0, (by decide +kernel), rfl, rfl⟩
theorem d_L_law_951 : DlI k_L_law 951 3 952 := Or.inl ⟨3, (by decide +kernel), rfl, rfl⟩
theorem d_L_law_952 : Dc k_L_law 952 (4) 953 := Or.inl ⟨(by decide +kernel), rfl⟩
theorem d_L_law_953 : Dk k_L_law 953 .iadd 1 954 := ⟨(by decide +kernel), rfl⟩
theorem d_L_law_954 : Dk k_L_law 954 .iaload 1 955 := ⟨(by decide +kernel), rfl⟩
theorem d_L_law_955 : Dk k_L_law 955 .i2l 1 956 := ⟨(by decide +kernel), rfl⟩
theorem d_L_law_956 : Dc k_L_law 956 (32) 958 := Or.inr (Or.inl ⟨(by decide +kernel), by decide, rfl⟩)
theorem d_L_law_958 : Dk k_L_law 958 .lshl 1 959 := ⟨(by decide +kernel), rfl⟩
theorem d_L_law_959 : DlA k_L_law 959 0 960 := Or.inl ⟨0, (by decide +kernel), rfl, rfl⟩
theorem d_L_law_960 : DlI k_L_law 960 3 961 := Or.inl ⟨3, (by decide +kernel), rfl, rfl⟩
theorem d_L_law_961 : Dc k_L_law 961 (5) 962 := Or.inl ⟨(by decide +kernel), rfl⟩
theorem d_L_law_962 : Dk k_L_law 962 .iadd 1 963 := ⟨(by decide +kernel), rfl⟩
theorem d_L_law_963 : Dk k_L_law 963 .iaload 1 964 := ⟨(by decide +kernel), rfl⟩
theorem d_L_law_964 : Dk k_L_law 964 .i2l 1 965 := ⟨(by decide +kernel), rfl⟩
theorem d_L_law_965 : DcL k_L_law 965 (4294967295) 968 := Or.inr ⟨121, (by decide +kernel), tb_at 901 (by decide +kernel) (by decide +kernel), rfl⟩
theorem d_L_law_968 : Dk k_L_law 968 .land 1 969 := ⟨(by decide +kernel), rfl⟩
theorem d_L_law_969 : Dk k_L_law 969 .lor 1 970 := ⟨(by decide +kernel), rfl⟩
theorem d_L_law_970 : DCV k_L_law 970 k_M_item 5 4 973 := ⟨127, (by decide +kernel), rfl, tb_at 874 (by decide +kernel) (by decide +kernel), m_M_item, iv_M_item.1, iv_M_item.2, ⟨(RX6, TX6, 16), rfl, rfl⟩, by decide +kernel, by decide⟩
theorem d_L_law_973 : Db k_L_law 973 (.if_icmp .eq) 976 1041 := ⟨68, (by decide +kernel), rfl, by decide⟩
theorem d_L_law_976 : Dc k_L_law 976 (0) 977 := Or.inl ⟨(by decide +kernel), rfl⟩
theorem d_L_law_977 : DrZ k_L_law 977 := ⟨(by decide +kernel), rfl⟩
theorem d_L_law_978 : DlA k_L_law 978 1 979 := Or.inl ⟨1, (by decide +kernel), rfl, rfl⟩
theorem d_L_law_979 : DlA k_L_law 979 0 980 := Or.inl ⟨0, (by decide +kernel), rfl, rfl⟩
theorem d_L_law_980 : DlI k_L_law 980 3 981 := Or.inl ⟨3, (by decide +kernel), rfl, rfl⟩
theorem d_L_law_981 : Dc k_L_law 981 (1) 982 := Or.inl ⟨(by decide +kernel), rfl⟩
theorem d_L_law_982 : Dk k_L_law 982 .iadd 1 983 := ⟨(by decide +kernel), rfl⟩
theorem d_L_law_983 : Dk k_L_law 983 .iaload 1 984 := ⟨(by decide +kernel), rfl⟩
theorem d_L_law_984 : DlA k_L_law 984 0 985 := Or.inl ⟨0, (by decide +kernel), rfl, rfl⟩
theorem d_L_law_985 : DlI k_L_law 985 3 986 := Or.inl ⟨3, (by decide +kernel), rfl, rfl⟩
theorem d_L_law_986 : Dc k_L_law 986 (2) 987 := Or.inl ⟨(by decide +kernel), rfl⟩
theorem d_L_law_987 : Dk k_L_law 987 .iadd 1 988 := ⟨(by decide +kernel), rfl⟩
theorem d_L_law_988 : Dk k_L_law 988 .iaload 1 989 := ⟨(by decide +kernel), rfl⟩
theorem d_L_law_989 : DlA k_L_law 989 0 990 := Or.inl ⟨0, (by decide +kernel), rfl, rfl⟩
theorem d_L_law_990 : DlI k_L_law 990 3 991 := Or.inl ⟨3, (by decide +kernel), rfl, rfl⟩
theorem d_L_law_991 : Dc k_L_law 991 (3) 992 := Or.inl ⟨(by decide +kernel), rfl⟩
theorem d_L_law_992 : Dk k_L_law 992 .iadd 1 993 := ⟨(by decide +kernel), rfl⟩
theorem d_L_law_993 : Dk k_L_law 993 .iaload 1 994 := ⟨(by decide +kernel), rfl⟩
theorem d_L_law_994 : DlA k_L_law 994 0 995 := Or.inl ⟨0, (by decide +kernel), rfl, rfl⟩
theorem d_L_law_995 : DlI k_L_law 995 3 996 := Or.inl ⟨3, (by decide +kernel), rfl, rfl⟩
theorem d_L_law_996 : Dc k_L_law 996 (4) 997 := Or.inl ⟨(by decide +kernel), rfl⟩
theorem d_L_law_997 : Dk k_L_law 997 .iadd 1 998 := ⟨(by decide +kernel), rfl⟩
theorem d_L_law_998 : Dk k_L_law 998 .iaload 1 999 := ⟨(by decide +kernel), rfl⟩
theorem d_L_law_999 : DlA k_L_law 999 0 1000 := Or.inl ⟨0, (by decide +kernel), rfl, rfl⟩
theorem d_L_law_1000 : DlI k_L_law 1000 3 1001 := Or.inl ⟨3, (by decide +kernel), rfl, rfl⟩
theorem d_L_law_1001 : Dc k_L_law 1001 (5) 1002 := Or.inl ⟨(by decide +kernel), rfl⟩
theorem d_L_law_1002 : Dk k_L_law 1002 .iadd 1 1003 := ⟨(by decide +kernel), rfl⟩
theorem d_L_law_1003 : Dk k_L_law 1003 .iaload 1 1004 := ⟨(by decide +kernel), rfl⟩
theorem d_L_law_1004 : DCV k_L_law 1004 k_X_copy 4 5 1007 := ⟨128, (by decide +kernel), rfl, tb_at 585 (by decide +kernel) (by decide +kernel), m_X_copy, iv_X_copy.1, iv_X_copy.2, ⟨(RX5, TX5, 7), rfl, rfl⟩, by decide +kernel, by decide⟩
theorem d_L_law_1007 : DlA k_L_law 1007 2 1008 := Or.inl ⟨2, (by decide +kernel), rfl, rfl⟩
theorem d_L_law_1008 : DlA k_L_law 1008 0 1009 := Or.inl ⟨0, (by decide +kernel), rfl, rfl⟩
theorem d_L_law_1009 : DlI k_L_law 1009 3 1010 := Or.inl ⟨3, (by decide +kernel), rfl, rfl⟩
theorem d_L_law_1010 : Dc k_L_law 1010 (1) 1011 := Or.inl ⟨(by decide +kernel), rfl⟩
theorem d_L_law_1011 : Dk k_L_law 1011 .iadd 1 1012 := ⟨(by decide +kernel), rfl⟩
theorem d_L_law_1012 : Dk k_L_law 1012 .iaload 1 1013 := ⟨(by decide +kernel), rfl⟩
theorem d_L_law_1013 : DlA k_L_law 1013 0 1014 := Or.inl ⟨0, (by decide +kernel), rfl, rfl⟩
theorem d_L_law_1014 : DlI k_L_law 1014 3 1015 := Or.inl ⟨3, (by decide +kernel), rfl, rfl⟩
theorem d_L_law_1015 : Dc k_L_law 1015 (2) 1016 := Or.inl ⟨(by decide +kernel), rfl⟩
theorem d_L_law_1016 : Dk k_L_law 1016 .iadd 1 1017 := ⟨(by decide +kernel), rfl⟩
theorem d_L_law_1017 : Dk k_L_law 1017 .iaload 1 1018 := ⟨(by decide +kernel), rfl⟩
theorem d_L_law_1018 : DlA k_L_law 1018 0 1019 := Or.inl ⟨0, (by decide +kernel), rfl, rfl⟩
theorem d_L_law_1019 : DlI k_L_law 1019 3 1020 := Or.inl ⟨3, (by decide +kernel), rfl, rfl⟩
theorem d_L_law_1020 : Dc k_L_law 1020 (3) 1021 := Or.inl ⟨(by decide +kernel), rfl⟩
theorem d_L_law_1021 : Dk k_L_law 1021 .iadd 1 1022 := ⟨(by decide +kernel), rfl⟩
theorem d_L_law_1022 : Dk k_L_law 1022 .iaload 1 1023 := ⟨(by decide +kernel), rfl⟩
theorem d_L_law_1023 : DlA k_L_law 1023 0 1024 := Or.inl ⟨0, (by decide +kernel), rfl, rfl⟩
theorem d_L_law_1024 : DlI k_L_law 1024 3 1025 := Or.inl ⟨3, (by decide +kernel), rfl, rfl⟩
theorem d_L_law_1025 : Dc k_L_law 1025 (4) 1026 := Or.inl ⟨(by decide +kernel), rfl⟩
theorem d_L_law_1026 : Dk k_L_law 1026 .iadd 1 1027 := ⟨(by decide +kernel), rfl⟩
theorem d_L_law_1027 : Dk k_L_law 1027 .iaload 1 1028 := ⟨(by decide +kernel), rfl⟩
theorem d_L_law_1028 : DlA k_L_law 1028 0 1029 := Or.inl ⟨0, (by decide +kernel), rfl, rfl⟩
theorem d_L_law_1029 : DlI k_L_law 1029 3 1030 := Or.inl ⟨3, (by decide +kernel), rfl, rfl⟩
theorem d_L_law_1030 : Dc k_L_law 1030 (5) 1031 := Or.inl ⟨(by decide +kernel), rfl⟩
theorem d_L_law_1031 : Dk k_L_law 1031 .iadd 1 1032 := ⟨(by decide +kernel), rfl⟩
theorem d_L_law_1032 : Dk k_L_law 1032 .iaload 1 1033 := ⟨(by decide +kernel), rfl⟩
theorem d_L_law_1033 : DCV k_L_law 1033 k_M_copy 5 5 1036 := ⟨132, (by decide +kernel), rfl, tb_at 885 (by decide +kernel) (by decide +kernel), m_M_copy, iv_M_copy.1, iv_M_copy.2, ⟨(RX6, TX6, 16), rfl, rfl⟩, by decide +kernel, by decide⟩
theorem d_L_law_1036 : Db k_L_law 1036 (.if_icmp .eq) 1039 1041 := ⟨5, (by decide +kernel), rfl, by decide⟩
theorem d_L_law_1039 : Dc k_L_law 1039 (0) 1040 := Or.inl ⟨(by decide +kernel), rfl⟩
theorem d_L_law_1040 : DrZ k_L_law 1040 := ⟨(by decide +kernel), rfl⟩
theorem d_L_law_1041 : Dinc k_L_law 1041 3 (6) 1044 := ⟨(by decide +kernel), rfl, by decide⟩
theorem d_L_law_1044 : Db k_L_law 1044 .goto 1047 18 := ⟨-1026, (by decide +kernel), rfl, by decide⟩
theorem d_L_law_1047 : Dc k_L_law 1047 (1) 1048 := Or.inl ⟨(by decide +kernel), rfl⟩
theorem d_L_law_1048 : DrZ k_L_law 1048 := ⟨(by decide +kernel), rfl⟩
end
section
theorem d_M_in_0 : DlL k_M_in 0 0 1 := Or.inl ⟨0, (by decide +kernel), rfl, rfl⟩
theorem d_M_in_1 : DlL k_M_in 1 2 2 := Or.inl ⟨2, (by decide +kernel), rfl, rfl⟩
theorem d_M_in_2 : Dk k_M_in 2 .lcmp 1 3 := ⟨(by decide +kernel), rfl⟩
theorem d_M_in_3 : Db k_M_in 3 (.ifCond .lt) 6 17 := ⟨14, (by decide +kernel), rfl, by decide⟩
theorem d_M_in_6 : DlL k_M_in 6 0 7 := Or.inl ⟨0, (by decide +kernel), rfl, rfl⟩
theorem d_M_in_7 : DlL k_M_in 7 4 9 := Or.inr ⟨(by decide +kernel), rfl⟩
theorem d_M_in_9 : Dk k_M_in 9 .lcmp 1 10 := ⟨(by decide +kernel), rfl⟩
theorem d_M_in_10 : Db k_M_in 10 (.ifCond .gt) 13 17 := ⟨7, (by decide +kernel), rfl, by decide⟩
theorem d_M_in_13 : Dc k_M_in 13 (1) 14 := Or.inl ⟨(by decide +kernel), rfl⟩
theorem d_M_in_14 : Db k_M_in 14 .goto 17 18 := ⟨4, (by decide +kernel), rfl, by decide⟩
theorem d_M_in_17 : Dc k_M_in 17 (0) 18 := Or.inl ⟨(by decide +kernel), rfl⟩
theorem d_M_in_18 : DrZ k_M_in 18 := ⟨(by decide +kernel), rfl⟩
theorem d_M_init_0 : DlA k_M_init 0 0 1 := Or.inl ⟨0, (by decide +kernel), rfl, rfl⟩
theorem d_M_init_4 : DlA k_M_init 4 0 5 := Or.inl ⟨0, (by decide +kernel), rfl, rfl⟩
theorem d_M_init_5 : Dc k_M_init 5 (402) 8 := Or.inr (Or.inr (Or.inl ⟨(by decide +kernel), by decide, rfl⟩))
theorem d_M_init_13 : DlA k_M_init 13 0 14 := Or.inl ⟨0, (by decide +kernel), rfl, rfl⟩
theorem d_M_init_14 : Dc k_M_init 14 (12) 16 := Or.inr (Or.inl ⟨(by decide +kernel), by decide, rfl⟩)
theorem d_M_init_21 : DlA k_M_init 21 0 22 := Or.inl ⟨0, (by decide +kernel), rfl, rfl⟩
theorem d_M_init_22 : Dc k_M_init 22 (12) 24 := Or.inr (Or.inl ⟨(by decide +kernel), by decide, rfl⟩)
theorem d_M_init_29 : DlA k_M_init 29 0 30 := Or.inl ⟨0, (by decide +kernel), rfl, rfl⟩
theorem d_M_init_30 : Dc k_M_init 30 (90) 32 := Or.inr (Or.inl ⟨(by decide +kernel), by decide, rfl⟩)
theorem d_M_init_37 : DlA k_M_init 37 0 38 := Or.inl ⟨0, (by decide +kernel), rfl, rfl⟩
theorem d_M_init_38 : Dc k_M_init 38 (2412) 41 := Or.inr (Or.inr (Or.inl ⟨(by decide +kernel), by decide, rfl⟩))
theorem d_M_init_46 : DlA k_M_init 46 0 47 := Or.inl ⟨0, (by decide +kernel), rfl, rfl⟩
theorem d_M_init_47 : Dc k_M_init 47 (402) 50 := Or.inr (Or.inr (Or.inl ⟨(by decide +kernel), by decide, rfl⟩))
theorem d_M_init_55 : DlA k_M_init 55 0 56 := Or.inl ⟨0, (by decide +kernel), rfl, rfl⟩
theorem d_M_init_56 : Dc k_M_init 56 (2412) 59 := Or.inr (Or.inr (Or.inl ⟨(by decide +kernel), by decide, rfl⟩))
theorem d_M_init_64 : DlA k_M_init 64 0 65 := Or.inl ⟨0, (by decide +kernel), rfl, rfl⟩
theorem d_M_init_65 : Dc k_M_init 65 (-1) 66 := Or.inl ⟨(by decide +kernel), rfl⟩
theorem d_M_init_66 : DP k_M_init 66 5 11 69 .int := ⟨31, (by decide +kernel), p_M_31, rfl, RX6, TX6, 16, rfl, rfl⟩
theorem d_M_init_69 : DlA k_M_init 69 0 70 := Or.inl ⟨0, (by decide +kernel), rfl, rfl⟩
theorem d_M_init_70 : Dc k_M_init 70 (4) 71 := Or.inl ⟨(by decide +kernel), rfl⟩
theorem d_M_init_76 : DlA k_M_init 76 0 77 := Or.inl ⟨0, (by decide +kernel), rfl, rfl⟩
theorem d_M_init_77 : Dc k_M_init 77 (4) 78 := Or.inl ⟨(by decide +kernel), rfl⟩
theorem d_M_init_83 : DlA k_M_init 83 0 84 := Or.inl ⟨0, (by decide +kernel), rfl, rfl⟩
theorem d_M_init_84 : Dc k_M_init 84 (96) 86 := Or.inr (Or.inl ⟨(by decide +kernel), by decide, rfl⟩)
theorem d_M_init_91 : DlA k_M_init 91 0 92 := Or.inl ⟨0, (by decide +kernel), rfl, rfl⟩
theorem d_M_init_92 : Dc k_M_init 92 (24) 94 := Or.inr (Or.inl ⟨(by decide +kernel), by decide, rfl⟩)
theorem d_M_init_99 : DlA k_M_init 99 0 100 := Or.inl ⟨0, (by decide +kernel), rfl, rfl⟩
theorem d_M_init_100 : DG k_M_init 100 5 0 103 := ⟨7, (by decide +kernel), f_M_7, rfl⟩
theorem d_M_init_103 : Dc k_M_init 103 (1) 104 := Or.inl ⟨(by decide +kernel), rfl⟩
theorem d_M_init_104 : Dc k_M_init 104 (3) 105 := Or.inl ⟨(by decide +kernel), rfl⟩
theorem d_M_init_105 : Dk k_M_init 105 .iastore 1 106 := ⟨(by decide +kernel), rfl⟩
theorem d_M_init_106 : DlA k_M_init 106 0 107 := Or.inl ⟨0, (by decide +kernel), rfl, rfl⟩
theorem d_M_init_107 : DG k_M_init 107 5 0 110 := ⟨7, (by decide +kernel), f_M_7, rfl⟩
theorem d_M_init_110 : Dc k_M_init 110 (2) 111 := Or.inl ⟨(by decide +kernel), rfl⟩
theorem d_M_init_111 : Dc k_M_init 111 (1) 112 := Or.inl ⟨(by decide +kernel), rfl⟩
theorem d_M_init_112 : Dk k_M_init 112 .iastore 1 113 := ⟨(by decide +kernel), rfl⟩
theorem d_M_init_113 : DlA k_M_init 113 0 114 := Or.inl ⟨0, (by decide +kernel), rfl, rfl⟩
theorem d_M_init_114 : DG k_M_init 114 5 0 117 := ⟨7, (by decide +kernel), f_M_7, rfl⟩
theorem d_M_init_117 : Dc k_M_init 117 (4) 118 := Or.inl ⟨(by decide +kernel), rfl⟩
theorem d_M_init_118 : Dc k_M_init 118 (1) 119 := Or.inl ⟨(by decide +kernel), rfl⟩
theorem d_M_init_119 : Dk k_M_init 119 .iastore 1 120 := ⟨(by decide +kernel), rfl⟩
theorem d_M_init_120 : Dc k_M_init 120 (0) 121 := Or.inl ⟨(by decide +kernel), rfl⟩
theorem d_M_init_121 : DsI k_M_init 121 1 122 := ⟨Or.inl ⟨1, (by decide +kernel), rfl, rfl⟩, by decide⟩
theorem d_M_init_122 : DlI k_M_init 122 1 123 := Or.inl ⟨1, (by decide +kernel), rfl, rfl⟩
theorem d_M_init_123 : Dc k_M_init 123 (4) 124 := Or.inl ⟨(by decide +kernel), rfl⟩
theorem d_M_init_124 : Db k_M_init 124 (.if_icmp .ge) 127 140 := ⟨16, (by decide +kernel), rfl, by decide⟩
theorem d_M_init_127 : DlA k_M_init 127 0 128 := Or.inl ⟨0, (by decide +kernel), rfl, rfl⟩
theorem d_M_init_128 : DG k_M_init 128 5 12 131 := ⟨35, (by decide +kernel), f_M_35, rfl⟩
theorem d_M_init_131 : DlI k_M_init 131 1 132 := Or.inl ⟨1, (by decide +kernel), rfl, rfl⟩
theorem d_M_init_132 : Dc k_M_init 132 (-1) 133 := Or.inl ⟨(by decide +kernel), rfl⟩
theorem d_M_init_133 : Dk k_M_init 133 .iastore 1 134 := ⟨(by decide +kernel), rfl⟩
theorem d_M_init_134 : Dinc k_M_init 134 1 (1) 137 := ⟨(by decide +kernel), rfl, by decide⟩
theorem d_M_init_137 : Db k_M_init 137 .goto 140 122 := ⟨-15, (by decide +kernel), rfl, by decide⟩
theorem d_M_init_140 : DrV k_M_init 140 := ⟨(by decide +kernel), rfl⟩
theorem d_M_of_0 : DlA k_M_of 0 0 1 := Or.inl ⟨0, (by decide +kernel), rfl, rfl⟩
theorem d_M_of_1 : DG k_M_of 1 5 0 4 := ⟨7, (by decide +kernel), f_M_7, rfl⟩
theorem d_M_of_4 : Dc k_M_of 4 (7) 6 := Or.inr (Or.inl ⟨(by decide +kernel), by decide, rfl⟩)
theorem d_M_of_6 : Dc k_M_of 6 (5) 7 := Or.inl ⟨(by decide +kernel), rfl⟩
theorem d_M_of_7 : DlI k_M_of 7 1 8 := Or.inl ⟨1, (by decide +kernel), rfl, rfl⟩
theorem d_M_of_8 : Dk k_M_of 8 .imul 1 9 := ⟨(by decide +kernel), rfl⟩
theorem d_M_of_9 : Dk k_M_of 9 .iadd 1 10 := ⟨(by decide +kernel), rfl⟩
theorem d_M_of_10 : DlI k_M_of 10 2 11 := Or.inl ⟨2, (by decide +kernel), rfl, rfl⟩
theorem d_M_of_11 : Dk k_M_of 11 .iadd 1 12 := ⟨(by decide +kernel), rfl⟩
theorem d_M_of_12 : Dk k_M_of 12 .iaload 1 13 := ⟨(by decide +kernel), rfl⟩
theorem d_M_of_13 : DrI k_M_of 13 := ⟨(by decide +kernel), rfl⟩
theorem d_M_isLetter_0 : DlI k_M_isLetter 0 1 1 := Or.inl ⟨1, (by decide +kernel), rfl, rfl⟩
theorem d_M_isLetter_1 : Dk k_M_isLetter 1 .i2l 1 2 := ⟨(by decide +kernel), rfl⟩
theorem d_M_isLetter_2 : DcL k_M_isLetter 2 0 3 := Or.inl ⟨0, (by decide +kernel), by decide, rfl⟩
theorem d_M_isLetter_3 : DlA k_M_isLetter 3 0 4 := Or.inl ⟨0, (by decide +kernel), rfl, rfl⟩
theorem d_M_isLetter_4 : DG k_M_isLetter 4 5 0 7 := ⟨7, (by decide +kernel), f_M_7, rfl⟩
theorem d_M_isLetter_7 : Dc k_M_isLetter 7 (5) 8 := Or.inl ⟨(by decide +kernel), rfl⟩
theorem d_M_isLetter_8 : Dk k_M_isLetter 8 .iaload 1 9 := ⟨(by decide +kernel), rfl⟩
theorem d_M_isLetter_9 : Dc k_M_isLetter 9 (1) 10 := Or.inl ⟨(by decide +kernel), rfl⟩
theorem d_M_isLetter_10 : Dk k_M_isLetter 10 .isub 1 11 := ⟨(by decide +kernel), rfl⟩
theorem d_M_isLetter_11 : Dk k_M_isLetter 11 .i2l 1 12 := ⟨(by decide +kernel), rfl⟩
theorem d_M_isLetter_12 : DCS k_M_isLetter 12 k_M_in 3 15 := ⟨48, (by decide +kernel), rfl, Or.inl (tb_at 654 (by decide +kernel) (by decide +kernel)), m_M_in, is_M_in, by decide +kernel, by decide⟩
theorem d_M_isLetter_15 : DrZ k_M_isLetter 15 := ⟨(by decide +kernel), rfl⟩
theorem d_M_isRound_0 : DlI k_M_isRound 0 1 1 := Or.inl ⟨1, (by decide +kernel), rfl, rfl⟩
theorem d_M_isRound_1 : Dk k_M_isRound 1 .i2l 1 2 := ⟨(by decide +kernel), rfl⟩
theorem d_M_isRound_2 : DcL k_M_isRound 2 0 3 := Or.inl ⟨0, (by decide +kernel), by decide, rfl⟩
theorem d_M_isRound_3 : DlA k_M_isRound 3 0 4 := Or.inl ⟨0, (by decide +kernel), rfl, rfl⟩
theorem d_M_isRound_4 : DG k_M_isRound 4 5 0 7 := ⟨7, (by decide +kernel), f_M_7, rfl⟩
theorem d_M_isRound_7 : Dc k_M_isRound 7 (6) 9 := Or.inr (Or.inl ⟨(by decide +kernel), by decide, rfl⟩)
theorem d_M_isRound_9 : Dk k_M_isRound 9 .iaload 1 10 := ⟨(by decide +kernel), rfl⟩
theorem d_M_isRound_10 : Dc k_M_isRound 10 (1) 11 := Or.inl ⟨(by decide +kernel), rfl⟩
theorem d_M_isRound_11 : Dk k_M_isRound 11 .isub 1 12 := ⟨(by decide +kernel), rfl⟩
theorem d_M_isRound_12 : Dk k_M_isRound 12 .i2l 1 13 := ⟨(by decide +kernel), rfl⟩
theorem d_M_isRound_13 : DCS k_M_isRound 13 k_M_in 3 16 := ⟨48, (by decide +kernel), rfl, Or.inl (tb_at 654 (by decide +kernel) (by decide +kernel)), m_M_in, is_M_in, by decide +kernel, by decide⟩
theorem d_M_isRound_16 : DrZ k_M_isRound 16 := ⟨(by decide +kernel), rfl⟩
theorem d_M_stands_0 : DlA k_M_stands 0 0 1 := Or.inl ⟨0, (by decide +kernel), rfl, rfl⟩
theorem d_M_stands_1 : DlI k_M_stands 1 1 2 := Or.inl ⟨1, (by decide +kernel), rfl, rfl⟩
theorem d_M_stands_2 : Dc k_M_stands 2 (3) 3 := Or.inl ⟨(by decide +kernel), rfl⟩
theorem d_M_stands_3 : DCV k_M_stands 3 k_M_of 5 2 6 := ⟨52, (by decide +kernel), rfl, tb_at 669 (by decide +kernel) (by decide +kernel), m_M_of, iv_M_of.1, iv_M_of.2, ⟨(RX6, TX6, 16), rfl, rfl⟩, by decide +kernel, by decide⟩
theorem d_M_stands_6 : Dc k_M_stands 6 (-4) 8 := Or.inr (Or.inl ⟨(by decide +kernel), by decide, rfl⟩)
theorem d_M_stands_8 : Db k_M_stands 8 (.if_icmp .ne) 11 15 := ⟨7, (by decide +kernel), rfl, by decide⟩
theorem d_M_stands_11 : Dc k_M_stands 11 (1) 12 := Or.inl ⟨(by decide +kernel), rfl⟩
theorem d_M_stands_12 : Db k_M_stands 12 .goto 15 16 := ⟨4, (by decide +kernel), rfl, by decide⟩
theorem d_M_stands_15 : Dc k_M_stands 15 (0) 16 := Or.inl ⟨(by decide +kernel), rfl⟩
theorem d_M_stands_16 : DrZ k_M_stands 16 := ⟨(by decide +kernel), rfl⟩
theorem d_M_isOwn_0 : DlA k_M_isOwn 0 0 1 := Or.inl ⟨0, (by decide +kernel), rfl, rfl⟩
theorem d_M_isOwn_1 : DlI k_M_isOwn 1 1 2 := Or.inl ⟨1, (by decide +kernel), rfl, rfl⟩
theorem d_M_isOwn_2 : Dc k_M_isOwn 2 (0) 3 := Or.inl ⟨(by decide +kernel), rfl⟩
theorem d_M_isOwn_3 : DCV k_M_isOwn 3 k_M_of 5 2 6 := ⟨52, (by decide +kernel), rfl, tb_at 669 (by decide +kernel) (by decide +kernel), m_M_of, iv_M_of.1, iv_M_of.2, ⟨(RX6, TX6, 16), rfl, rfl⟩, by decide +kernel, by decide⟩
theorem d_M_isOwn_6 : Dc k_M_isOwn 6 (9) 8 := Or.inr (Or.inl ⟨(by decide +kernel), by decide, rfl⟩)
theorem d_M_isOwn_8 : Db k_M_isOwn 8 (.if_icmp .ne) 11 15 := ⟨7, (by decide +kernel), rfl, by decide⟩
theorem d_M_isOwn_11 : Dc k_M_isOwn 11 (1) 12 := Or.inl ⟨(by decide +kernel), rfl⟩
theorem d_M_isOwn_12 : Db k_M_isOwn 12 .goto 15 16 := ⟨4, (by decide +kernel), rfl, by decide⟩
theorem d_M_isOwn_15 : Dc k_M_isOwn 15 (0) 16 := Or.inl ⟨(by decide +kernel), rfl⟩
theorem d_M_isOwn_16 : DrZ k_M_isOwn 16 := ⟨(by decide +kernel), rfl⟩
theorem d_M_standing_0 : Dc k_M_standing 0 (0) 1 := Or.inl ⟨(by decide +kernel), rfl⟩
theorem d_M_standing_1 : DsI k_M_standing 1 1 2 := ⟨Or.inl ⟨1, (by decide +kernel), rfl, rfl⟩, by decide⟩
theorem d_M_standing_2 : Dc k_M_standing 2 (0) 3 := Or.inl ⟨(by decide +kernel), rfl⟩
theorem d_M_standing_3 : DsI k_M_standing 3 2 4 := ⟨Or.inl ⟨2, (by decide +kernel), rfl, rfl⟩, by decide⟩
theorem d_M_standing_4 : DlI k_M_standing 4 2 5 := Or.inl ⟨2, (by decide +kernel), rfl, rfl⟩
theorem d_M_standing_5 : DlA k_M_standing 5 0 6 := Or.inl ⟨0, (by decide +kernel), rfl, rfl⟩
theorem d_M_standing_6 : DG k_M_standing 6 5 0 9 := ⟨7, (by decide +kernel), f_M_7, rfl⟩
theorem d_M_standing_9 : Dc k_M_standing 9 (5) 10 := Or.inl ⟨(by decide +kernel), rfl⟩
theorem d_M_standing_10 : Dk k_M_standing 10 .iaload 1 11 := ⟨(by decide +kernel), rfl⟩
theorem d_M_standing_11 : Db k_M_standing 11 (.if_icmp .ge) 14 36 := ⟨25, (by decide +kernel), rfl, by decide⟩
theorem d_M_standing_14 : DlI k_M_standing 14 1 15 := Or.inl ⟨1, (by decide +kernel), rfl, rfl⟩
theorem d_M_standing_15 : DlA k_M_standing 15 0 16 := Or.inl ⟨0, (by decide +kernel), rfl, rfl⟩
theorem d_M_standing_16 : DlI k_M_standing 16 2 17 := Or.inl ⟨2, (by decide +kernel), rfl, rfl⟩
theorem d_M_standing_17 : DCV k_M_standing 17 k_M_stands 5 1 20 := ⟨56, (by decide +kernel), rfl, tb_at 665 (by decide +kernel) (by decide +kernel), m_M_stands, iv_M_stands.1, iv_M_stands.2, ⟨(RX6, TX6, 16), rfl, rfl⟩, by decide +kernel, by decide⟩
theorem d_M_standing_20 : Db k_M_standing 20 (.ifCond .eq) 23 27 := ⟨7, (by decide +kernel), rfl, by decide⟩
theorem d_M_standing_23 : Dc k_M_standing 23 (1) 24 := Or.inl ⟨(by decide +kernel), rfl⟩
theorem d_M_standing_24 : Db k_M_standing 24 .goto 27 28 := ⟨4, (by decide +kernel), rfl, by decide⟩
theorem d_M_standing_27 : Dc k_M_standing 27 (0) 28 := Or.inl ⟨(by decide +kernel), rfl⟩
theorem d_M_standing_28 : Dk k_M_standing 28 .iadd 1 29 := ⟨(by decide +kernel), rfl⟩
theorem d_M_standing_29 : DsI k_M_standing 29 1 30 := ⟨Or.inl ⟨1, (by decide +kernel), rfl, rfl⟩, by decide⟩
theorem d_M_standing_30 : Dinc k_M_standing 30 2 (1) 33 := ⟨(by decide +kernel), rfl, by decide⟩
theorem d_M_standing_33 : Db k_M_standing 33 .goto 36 4 := ⟨-29, (by decide +kernel), rfl, by decide⟩
theorem d_M_standing_36 : DlI k_M_standing 36 1 37 := Or.inl ⟨1, (by decide +kernel), rfl, rfl⟩
theorem d_M_standing_37 : DrI k_M_standing 37 := ⟨(by decide +kernel), rfl⟩
theorem d_M_standsAt_0 : Dc k_M_standsAt 0 (0) 1 := Or.inl ⟨(by decide +kernel), rfl⟩
theorem d_M_standsAt_1 : DsI k_M_standsAt 1 2 2 := ⟨Or.inl ⟨2, (by decide +kernel), rfl, rfl⟩, by decide⟩
theorem d_M_standsAt_2 : Dc k_M_standsAt 2 (0) 3 := Or.inl ⟨(by decide +kernel), rfl⟩
theorem d_M_standsAt_3 : DsI k_M_standsAt 3 3 4 := ⟨Or.inl ⟨3, (by decide +kernel), rfl, rfl⟩, by decide⟩
theorem d_M_standsAt_4 : DlI k_M_standsAt 4 3 5 := Or.inl ⟨3, (by decide +kernel), rfl, rfl⟩
theorem d_M_standsAt_5 : DlA k_M_standsAt 5 0 6 := Or.inl ⟨0, (by decide +kernel), rfl, rfl⟩
theorem d_M_standsAt_6 : DG k_M_standsAt 6 5 0 9 := ⟨7, (by decide +kernel), f_M_7, rfl⟩
theorem d_M_standsAt_9 : Dc k_M_standsAt 9 (5) 10 := Or.inl ⟨(by decide +kernel), rfl⟩
theorem d_M_standsAt_10 : Dk k_M_standsAt 10 .iaload 1 11 := ⟨(by decide +kernel), rfl⟩
theorem d_M_standsAt_11 : Db k_M_standsAt 11 (.if_icmp .ge) 14 38 := ⟨27, (by decide +kernel), rfl, by decide⟩
theorem d_M_standsAt_14 : DlA k_M_standsAt 14 0 15 := Or.inl ⟨0, (by decide +kernel), rfl, rfl⟩
theorem d_M_standsAt_15 : DlI k_M_standsAt 15 3 16 := Or.inl ⟨3, (by decide +kernel), rfl, rfl⟩
theorem d_M_standsAt_16 : DCV k_M_standsAt 16 k_M_stands 5 1 19 := ⟨56, (by decide +kernel), rfl, tb_at 665 (by decide +kernel) (by decide +kernel), m_M_stands, iv_M_stands.1, iv_M_stands.2, ⟨(RX6, TX6, 16), rfl, rfl⟩, by decide +kernel, by decide⟩
theorem d_M_standsAt_19 : Db k_M_standsAt 19 (.ifCond .eq) 22 32 := ⟨13, (by decide +kernel), rfl, by decide⟩
theorem d_M_standsAt_22 : DlI k_M_standsAt 22 2 23 := Or.inl ⟨2, (by decide +kernel), rfl, rfl⟩
theorem d_M_standsAt_23 : DlI k_M_standsAt 23 1 24 := Or.inl ⟨1, (by decide +kernel), rfl, rfl⟩
theorem d_M_standsAt_24 : Db k_M_standsAt 24 (.if_icmp .ne) 27 29 := ⟨5, (by decide +kernel), rfl, by decide⟩
theorem d_M_standsAt_27 : DlI k_M_standsAt 27 3 28 := Or.inl ⟨3, (by decide +kernel), rfl, rfl⟩
theorem d_M_standsAt_28 : DrI k_M_standsAt 28 := ⟨(by decide +kernel), rfl⟩
theorem d_M_standsAt_29 : Dinc k_M_standsAt 29 2 (1) 32 := ⟨(by decide +kernel), rfl, by decide⟩
theorem d_M_standsAt_32 : Dinc k_M_standsAt 32 3 (1) 35 := ⟨(by decide +kernel), rfl, by decide⟩
theorem d_M_standsAt_35 : Db k_M_standsAt 35 .goto 38 4 := ⟨-31, (by decide +kernel), rfl, by decide⟩
theorem d_M_standsAt_38 : Dc k_M_standsAt 38 (-4) 40 := Or.inr (Or.inl ⟨(by decide +kernel), by decide, rfl⟩)
theorem d_M_standsAt_40 : DrI k_M_standsAt 40 := ⟨(by decide +kernel), rfl⟩
theorem d_M_draws_0 : DlA k_M_draws 0 0 1 := Or.inl ⟨0, (by decide +kernel), rfl, rfl⟩
theorem d_M_draws_1 : DG k_M_draws 1 5 0 4 := ⟨7, (by decide +kernel), f_M_7, rfl⟩
theorem d_M_draws_4 : Dc k_M_draws 4 (4) 5 := Or.inl ⟨(by decide +kernel), rfl⟩
theorem d_M_draws_5 : Dk k_M_draws 5 .iaload 1 6 := ⟨(by decide +kernel), rfl⟩
theorem d_M_draws_6 : Dk k_M_draws 6 .i2l 1 7 := ⟨(by decide +kernel), rfl⟩
theorem d_M_draws_7 : DcL k_M_draws 7 (1103515245) 10 := Or.inr ⟨60, (by decide +kernel), tb_at 697 (by decide +kernel) (by decide +kernel), rfl⟩
theorem d_M_draws_10 : Dk k_M_draws 10 .lmul 1 11 := ⟨(by decide +kernel), rfl⟩
theorem d_M_draws_11 : DcL k_M_draws 11 (12345) 14 := Or.inr ⟨62, (by decide +kernel), tb_at 698 (by decide +kernel) (by decide +kernel), rfl⟩
theorem d_M_draws_14 : Dk k_M_draws 14 .ladd 1 15 := ⟨(by decide +kernel), rfl⟩
theorem d_M_draws_15 : DcL k_M_draws 15 (2147483648) 18 := Or.inr ⟨64, (by decide +kernel), tb_at 699 (by decide +kernel) (by decide +kernel), rfl⟩
theorem d_M_draws_18 : Dk k_M_draws 18 .lrem 1 19 := ⟨(by decide +kernel), rfl⟩
theorem d_M_draws_19 : DsL k_M_draws 19 1 20 := ⟨Or.inl ⟨1, (by decide +kernel), rfl, rfl⟩, by decide⟩
theorem d_M_draws_20 : DlA k_M_draws 20 0 21 := Or.inl ⟨0, (by decide +kernel), rfl, rfl⟩
theorem d_M_draws_21 : DG k_M_draws 21 5 0 24 := ⟨7, (by decide +kernel), f_M_7, rfl⟩
theorem d_M_draws_24 : Dc k_M_draws 24 (4) 25 := Or.inl ⟨(by decide +kernel), rfl⟩
theorem d_M_draws_25 : DlL k_M_draws 25 1 26 := Or.inl ⟨1, (by decide +kernel), rfl, rfl⟩
theorem d_M_draws_26 : Dk k_M_draws 26 .l2i 1 27 := ⟨(by decide +kernel), rfl⟩
theorem d_M_draws_27 : Dk k_M_draws 27 .iastore 1 28 := ⟨(by decide +kernel), rfl⟩
theorem d_M_draws_28 : DlL k_M_draws 28 1 29 := Or.inl ⟨1, (by decide +kernel), rfl, rfl⟩
theorem d_M_draws_29 : DcL k_M_draws 29 (65536) 32 := Or.inr ⟨66, (by decide +kernel), tb_at 700 (by decide +kernel) (by decide +kernel), rfl⟩
theorem d_M_draws_32 : Dk k_M_draws 32 .ldiv 1 33 := ⟨(by decide +kernel), rfl⟩
theorem d_M_draws_33 : Dk k_M_draws 33 .l2i 1 34 := ⟨(by decide +kernel), rfl⟩
theorem d_M_draws_34 : DrI k_M_draws 34 := ⟨(by decide +kernel), rfl⟩
theorem d_M_adds_0 : Dc k_M_adds 0 (7) 2 := Or.inr (Or.inl ⟨(by decide +kernel), by decide, rfl⟩)
theorem d_M_adds_2 : Dc k_M_adds 2 (5) 3 := Or.inl ⟨(by decide +kernel), rfl⟩
theorem d_M_adds_3 : DlA k_M_adds 3 0 4 := Or.inl ⟨0, (by decide +kernel), rfl, rfl⟩
theorem d_M_adds_4 : DG k_M_adds 4 5 0 7 := ⟨7, (by decide +kernel), f_M_7, rfl⟩
theorem d_M_adds_7 : Dc k_M_adds 7 (5) 8 := Or.inl ⟨(by decide +kernel), rfl⟩
theorem d_M_adds_8 : Dk k_M_adds 8 .iaload 1 9 := ⟨(by decide +kernel), rfl⟩
theorem d_M_adds_9 : Dk k_M_adds 9 .imul 1 10 := ⟨(by decide +kernel), rfl⟩
theorem d_M_adds_10 : Dk k_M_adds 10 .iadd 1 11 := ⟨(by decide +kernel), rfl⟩
theorem d_M_adds_11 : DsI k_M_adds 11 3 12 := ⟨Or.inl ⟨3, (by decide +kernel), rfl, rfl⟩, by decide⟩
theorem d_M_adds_12 : DlA k_M_adds 12 0 13 := Or.inl ⟨0, (by decide +kernel), rfl, rfl⟩
theorem d_M_adds_13 : DG k_M_adds 13 5 0 16 := ⟨7, (by decide +kernel), f_M_7, rfl⟩
theorem d_M_adds_16 : DlI k_M_adds 16 3 17 := Or.inl ⟨3, (by decide +kernel), rfl, rfl⟩
theorem d_M_adds_17 : DlI k_M_adds 17 1 18 := Or.inl ⟨1, (by decide +kernel), rfl, rfl⟩
theorem d_M_adds_18 : Dk k_M_adds 18 .iastore 1 19 := ⟨(by decide +kernel), rfl⟩
theorem d_M_adds_19 : DlA k_M_adds 19 0 20 := Or.inl ⟨0, (by decide +kernel), rfl, rfl⟩
theorem d_M_adds_20 : DG k_M_adds 20 5 0 23 := ⟨7, (by decide +kernel), f_M_7, rfl⟩
theorem d_M_adds_23 : DlI k_M_adds 23 3 24 := Or.inl ⟨3, (by decide +kernel), rfl, rfl⟩
theorem d_M_adds_24 : Dc k_M_adds 24 (1) 25 := Or.inl ⟨(by decide +kernel), rfl⟩
theorem d_M_adds_25 : Dk k_M_adds 25 .iadd 1 26 := ⟨(by decide +kernel), rfl⟩
theorem d_M_adds_26 : DlI k_M_adds 26 2 27 := Or.inl ⟨2, (by decide +kernel), rfl, rfl⟩
theorem d_M_adds_27 : Dk k_M_adds 27 .iastore 1 28 := ⟨(by decide +kernel), rfl⟩
theorem d_M_adds_28 : DlA k_M_adds 28 0 29 := Or.inl ⟨0, (by decide +kernel), rfl, rfl⟩
theorem d_M_adds_29 : DG k_M_adds 29 5 0 32 := ⟨7, (by decide +kernel), f_M_7, rfl⟩
theorem d_M_adds_32 : DlI k_M_adds 32 3 33 := Or.inl ⟨3, (by decide +kernel), rfl, rfl⟩
theorem d_M_adds_33 : Dc k_M_adds 33 (2) 34 := Or.inl ⟨(by decide +kernel), rfl⟩
theorem d_M_adds_34 : Dk k_M_adds 34 .iadd 1 35 := ⟨(by decide +kernel), rfl⟩
theorem d_M_adds_35 : DlA k_M_adds 35 0 36 := Or.inl ⟨0, (by decide +kernel), rfl, rfl⟩
theorem d_M_adds_36 : DG k_M_adds 36 5 0 39 := ⟨7, (by decide +kernel), f_M_7, rfl⟩
theorem d_M_adds_39 : Dc k_M_adds 39 (6) 41 := Or.inr (Or.inl ⟨(by decide +kernel), by decide, rfl⟩)
theorem d_M_adds_41 : Dk k_M_adds 41 .iaload 1 42 := ⟨(by decide +kernel), rfl⟩
theorem d_M_adds_42 : Dk k_M_adds 42 .iastore 1 43 := ⟨(by decide +kernel), rfl⟩
theorem d_M_adds_43 : DlA k_M_adds 43 0 44 := Or.inl ⟨0, (by decide +kernel), rfl, rfl⟩
theorem d_M_adds_44 : DG k_M_adds 44 5 0 47 := ⟨7, (by decide +kernel), f_M_7, rfl⟩
theorem d_M_adds_47 : DlI k_M_adds 47 3 48 := Or.inl ⟨3, (by decide +kernel), rfl, rfl⟩
theorem d_M_adds_48 : Dc k_M_adds 48 (3) 49 := Or.inl ⟨(by decide +kernel), rfl⟩
theorem d_M_adds_49 : Dk k_M_adds 49 .iadd 1 50 := ⟨(by decide +kernel), rfl⟩
theorem d_M_adds_50 : Dc k_M_adds 50 (-4) 52 := Or.inr (Or.inl ⟨(by decide +kernel), by decide, rfl⟩)
theorem d_M_adds_52 : Dk k_M_adds 52 .iastore 1 53 := ⟨(by decide +kernel), rfl⟩
theorem d_M_adds_53 : DlA k_M_adds 53 0 54 := Or.inl ⟨0, (by decide +kernel), rfl, rfl⟩
theorem d_M_adds_54 : DG k_M_adds 54 5 0 57 := ⟨7, (by decide +kernel), f_M_7, rfl⟩
theorem d_M_adds_57 : DlI k_M_adds 57 3 58 := Or.inl ⟨3, (by decide +kernel), rfl, rfl⟩
theorem d_M_adds_58 : Dc k_M_adds 58 (4) 59 := Or.inl ⟨(by decide +kernel), rfl⟩
theorem d_M_adds_59 : Dk k_M_adds 59 .iadd 1 60 := ⟨(by decide +kernel), rfl⟩
theorem d_M_adds_60 : Dc k_M_adds 60 (-4) 62 := Or.inr (Or.inl ⟨(by decide +kernel), by decide, rfl⟩)
theorem d_M_adds_62 : Dk k_M_adds 62 .iastore 1 63 := ⟨(by decide +kernel), rfl⟩
theorem d_M_adds_63 : DlA k_M_adds 63 0 64 := Or.inl ⟨0, (by decide +kernel), rfl, rfl⟩
theorem d_M_adds_64 : DG k_M_adds 64 5 0 67 := ⟨7, (by decide +kernel), f_M_7, rfl⟩
theorem d_M_adds_67 : Dc k_M_adds 67 (5) 68 := Or.inl ⟨(by decide +kernel), rfl⟩
theorem d_M_adds_68 : Dk k_M_adds 68 .dup2 1 69 := ⟨(by decide +kernel), rfl⟩
theorem d_M_adds_69 : Dk k_M_adds 69 .iaload 1 70 := ⟨(by decide +kernel), rfl⟩
theorem d_M_adds_70 : Dc k_M_adds 70 (1) 71 := Or.inl ⟨(by decide +kernel), rfl⟩
theorem d_M_adds_71 : Dk k_M_adds 71 .iadd 1 72 := ⟨(by decide +kernel), rfl⟩
theorem d_M_adds_72 : Dk k_M_adds 72 .iastore 1 73 := ⟨(by decide +kernel), rfl⟩
theorem d_M_adds_73 : DrV k_M_adds 73 := ⟨(by decide +kernel), rfl⟩
theorem d_M_share_0 : DlI k_M_share 0 1 1 := Or.inl ⟨1, (by decide +kernel), rfl, rfl⟩
theorem d_M_share_1 : Db k_M_share 1 (.ifCond .ne) 4 8 := ⟨7, (by decide +kernel), rfl, by decide⟩
theorem d_M_share_4 : DlI k_M_share 4 2 5 := Or.inl ⟨2, (by decide +kernel), rfl, rfl⟩
theorem d_M_share_5 : Db k_M_share 5 .goto 8 29 := ⟨24, (by decide +kernel), rfl, by decide⟩
theorem d_M_share_8 : DlI k_M_share 8 1 9 := Or.inl ⟨1, (by decide +kernel), rfl, rfl⟩
theorem d_M_share_9 : Dc k_M_share 9 (3) 10 := Or.inl ⟨(by decide +kernel), rfl⟩
theorem d_M_share_10 : Db k_M_share 10 (.if_icmp .ne) 13 21 := ⟨11, (by decide +kernel), rfl, by decide⟩
theorem d_M_share_13 : DlI k_M_share 13 2 14 := Or.inl ⟨2, (by decide +kernel), rfl, rfl⟩
theorem d_M_share_14 : Dc k_M_share 14 (1) 15 := Or.inl ⟨(by decide +kernel), rfl⟩
theorem d_M_share_15 : Dk k_M_share 15 .iadd 1 16 := ⟨(by decide +kernel), rfl⟩
theorem d_M_share_16 : Dc k_M_share 16 (2) 17 := Or.inl ⟨(by decide +kernel), rfl⟩
theorem d_M_share_17 : Dk k_M_share 17 .idiv 1 18 := ⟨(by decide +kernel), rfl⟩
theorem d_M_share_18 : Db k_M_share 18 .goto 21 29 := ⟨11, (by decide +kernel), rfl, by decide⟩
theorem d_M_share_21 : DlI k_M_share 21 2 22 := Or.inl ⟨2, (by decide +kernel), rfl, rfl⟩
theorem d_M_share_22 : DlA k_M_share 22 0 23 := Or.inl ⟨0, (by decide +kernel), rfl, rfl⟩
theorem d_M_share_23 : DG k_M_share 23 5 0 26 := ⟨7, (by decide +kernel), f_M_7, rfl⟩
theorem d_M_share_26 : Dc k_M_share 26 (2) 27 := Or.inl ⟨(by decide +kernel), rfl⟩
theorem d_M_share_27 : Dk k_M_share 27 .iaload 1 28 := ⟨(by decide +kernel), rfl⟩
theorem d_M_share_28 : Dk k_M_share 28 .isub 1 29 := ⟨(by decide +kernel), rfl⟩
theorem d_M_share_29 : DrI k_M_share 29 := ⟨(by decide +kernel), rfl⟩
theorem d_M_goesRound_0 : Dc k_M_goesRound 0 (0) 1 := Or.inl ⟨(by decide +kernel), rfl⟩
theorem d_M_goesRound_1 : DsI k_M_goesRound 1 1 2 := ⟨Or.inl ⟨1, (by decide +kernel), rfl, rfl⟩, by decide⟩
theorem d_M_goesRound_2 : DlI k_M_goesRound 2 1 3 := Or.inl ⟨1, (by decide +kernel), rfl, rfl⟩
theorem d_M_goesRound_3 : DlA k_M_goesRound 3 0 4 := Or.inl ⟨0, (by decide +kernel), rfl, rfl⟩
theorem d_M_goesRound_4 : DG k_M_goesRound 4 5 0 7 := ⟨7, (by decide +kernel), f_M_7, rfl⟩
theorem d_M_goesRound_7 : Dc k_M_goesRound 7 (3) 8 := Or.inl ⟨(by decide +kernel), rfl⟩
theorem d_M_goesRound_8 : Dk k_M_goesRound 8 .iaload 1 9 := ⟨(by decide +kernel), rfl⟩
theorem d_M_goesRound_9 : Db k_M_goesRound 9 (.if_icmp .ge) 12 31 := ⟨22, (by decide +kernel), rfl, by decide⟩
theorem d_M_goesRound_12 : DlA k_M_goesRound 12 0 13 := Or.inl ⟨0, (by decide +kernel), rfl, rfl⟩
theorem d_M_goesRound_13 : Dc k_M_goesRound 13 (8) 15 := Or.inr (Or.inl ⟨(by decide +kernel), by decide, rfl⟩)
theorem d_M_goesRound_15 : DlA k_M_goesRound 15 0 16 := Or.inl ⟨0, (by decide +kernel), rfl, rfl⟩
theorem d_M_goesRound_16 : DCV k_M_goesRound 16 k_M_draws 5 0 19 := ⟨68, (by decide +kernel), rfl, tb_at 693 (by decide +kernel) (by decide +kernel), m_M_draws, iv_M_draws.1, iv_M_draws.2, ⟨(RX6, TX6, 16), rfl, rfl⟩, by decide +kernel, by decide⟩
theorem d_M_goesRound_19 : Dc k_M_goesRound 19 (8) 21 := Or.inr (Or.inl ⟨(by decide +kernel), by decide, rfl⟩)
theorem d_M_goesRound_21 : Dk k_M_goesRound 21 .irem 1 22 := ⟨(by decide +kernel), rfl⟩
theorem d_M_goesRound_22 : DCV k_M_goesRound 22 k_M_adds 5 2 25 := ⟨72, (by decide +kernel), rfl, tb_at 681 (by decide +kernel) (by decide +kernel), m_M_adds, iv_M_adds.1, iv_M_adds.2, ⟨(RX6, TX6, 16), rfl, rfl⟩, by decide +kernel, by decide⟩
theorem d_M_goesRound_25 : Dinc k_M_goesRound 25 1 (1) 28 := ⟨(by decide +kernel), rfl, by decide⟩
theorem d_M_goesRound_28 : Db k_M_goesRound 28 .goto 31 2 := ⟨-26, (by decide +kernel), rfl, by decide⟩
theorem d_M_goesRound_31 : DlA k_M_goesRound 31 0 32 := Or.inl ⟨0, (by decide +kernel), rfl, rfl⟩
theorem d_M_goesRound_32 : DlA k_M_goesRound 32 0 33 := Or.inl ⟨0, (by decide +kernel), rfl, rfl⟩
theorem d_M_goesRound_33 : DG k_M_goesRound 33 5 0 36 := ⟨7, (by decide +kernel), f_M_7, rfl⟩
theorem d_M_goesRound_36 : Dc k_M_goesRound 36 (0) 37 := Or.inl ⟨(by decide +kernel), rfl⟩
theorem d_M_goesRound_37 : Dk k_M_goesRound 37 .iaload 1 38 := ⟨(by decide +kernel), rfl⟩
theorem d_M_goesRound_38 : DlA k_M_goesRound 38 0 39 := Or.inl ⟨0, (by decide +kernel), rfl, rfl⟩
theorem d_M_goesRound_39 : DCV k_M_goesRound 39 k_M_standing 5 0 42 := ⟨76, (by decide +kernel), rfl, tb_at 661 (by decide +kernel) (by decide +kernel), m_M_standing, iv_M_standing.1, iv_M_standing.2, ⟨(RX6, TX6, 16), rfl, rfl⟩, by decide +kernel, by decide⟩
theorem d_M_goesRound_42 : DCV k_M_goesRound 42 k_M_share 5 2 45 := ⟨79, (by decide +kernel), rfl, tb_at 701 (by decide +kernel) (by decide +kernel), m_M_share, iv_M_share.1, iv_M_share.2, ⟨(RX6, TX6, 16), rfl, rfl⟩, by decide +kernel, by decide⟩
theorem d_M_goesRound_45 : DsI k_M_goesRound 45 1 46 := ⟨Or.inl ⟨1, (by decide +kernel), rfl, rfl⟩, by decide⟩
theorem d_M_goesRound_46 : Dc k_M_goesRound 46 (0) 47 := Or.inl ⟨(by decide +kernel), rfl⟩
theorem d_M_goesRound_47 : DsI k_M_goesRound 47 2 48 := ⟨Or.inl ⟨2, (by decide +kernel), rfl, rfl⟩, by decide⟩
theorem d_M_goesRound_48 : DlI k_M_goesRound 48 2 49 := Or.inl ⟨2, (by decide +kernel), rfl, rfl⟩
theorem d_M_goesRound_49 : DlI k_M_goesRound 49 1 50 := Or.inl ⟨1, (by decide +kernel), rfl, rfl⟩
theorem d_M_goesRound_50 : Db k_M_goesRound 50 (.if_icmp .ge) 53 107 := ⟨57, (by decide +kernel), rfl, by decide⟩
theorem d_M_goesRound_53 : DlA k_M_goesRound 53 0 54 := Or.inl ⟨0, (by decide +kernel), rfl, rfl⟩
theorem d_M_goesRound_54 : DlA k_M_goesRound 54 0 55 := Or.inl ⟨0, (by decide +kernel), rfl, rfl⟩
theorem d_M_goesRound_55 : DCV k_M_goesRound 55 k_M_draws 5 0 58 := ⟨68, (by decide +kernel), rfl, tb_at 693 (by decide +kernel) (by decide +kernel), m_M_draws, iv_M_draws.1, iv_M_draws.2, ⟨(RX6, TX6, 16), rfl, rfl⟩, by decide +kernel, by decide⟩
theorem d_M_goesRound_58 : DlA k_M_goesRound 58 0 59 := Or.inl ⟨0, (by decide +kernel), rfl, rfl⟩
theorem d_M_goesRound_59 : DCV k_M_goesRound 59 k_M_standing 5 0 62 := ⟨76, (by decide +kernel), rfl, tb_at 661 (by decide +kernel) (by decide +kernel), m_M_standing, iv_M_standing.1, iv_M_standing.2, ⟨(RX6, TX6, 16), rfl, rfl⟩, by decide +kernel, by decide⟩
theorem d_M_goesRound_62 : Dk k_M_goesRound 62 .irem 1 63 := ⟨(by decide +kernel), rfl⟩
theorem d_M_goesRound_63 : DCV k_M_goesRound 63 k_M_standsAt 5 1 66 := ⟨82, (by decide +kernel), rfl, tb_at 705 (by decide +kernel) (by decide +kernel), m_M_standsAt, iv_M_standsAt.1, iv_M_standsAt.2, ⟨(RX6, TX6, 16), rfl, rfl⟩, by decide +kernel, by decide⟩
theorem d_M_goesRound_66 : DsI k_M_goesRound 66 3 67 := ⟨Or.inl ⟨3, (by decide +kernel), rfl, rfl⟩, by decide⟩
theorem d_M_goesRound_67 : DlA k_M_goesRound 67 0 68 := Or.inl ⟨0, (by decide +kernel), rfl, rfl⟩
theorem d_M_goesRound_68 : DG k_M_goesRound 68 5 0 71 := ⟨7, (by decide +kernel), f_M_7, rfl⟩
theorem d_M_goesRound_71 : Dc k_M_goesRound 71 (7) 73 := Or.inr (Or.inl ⟨(by decide +kernel), by decide, rfl⟩)
theorem d_M_goesRound_73 : Dc k_M_goesRound 73 (5) 74 := Or.inl ⟨(by decide +kernel), rfl⟩
theorem d_M_goesRound_74 : DlI k_M_goesRound 74 3 75 := Or.inl ⟨3, (by decide +kernel), rfl, rfl⟩
theorem d_M_goesRound_75 : Dk k_M_goesRound 75 .imul 1 76 := ⟨(by decide +kernel), rfl⟩
theorem d_M_goesRound_76 : Dk k_M_goesRound 76 .iadd 1 77 := ⟨(by decide +kernel), rfl⟩
theorem d_M_goesRound_77 : Dc k_M_goesRound 77 (3) 78 := Or.inl ⟨(by decide +kernel), rfl⟩
theorem d_M_goesRound_78 : Dk k_M_goesRound 78 .iadd 1 79 := ⟨(by decide +kernel), rfl⟩
theorem d_M_goesRound_79 : DlA k_M_goesRound 79 0 80 := Or.inl ⟨0, (by decide +kernel), rfl, rfl⟩
theorem d_M_goesRound_80 : DG k_M_goesRound 80 5 0 83 := ⟨7, (by decide +kernel), f_M_7, rfl⟩
theorem d_M_goesRound_83 : Dc k_M_goesRound 83 (6) 85 := Or.inr (Or.inl ⟨(by decide +kernel), by decide, rfl⟩)
theorem d_M_goesRound_85 : Dk k_M_goesRound 85 .iaload 1 86 := ⟨(by decide +kernel), rfl⟩
theorem d_M_goesRound_86 : Dk k_M_goesRound 86 .iastore 1 87 := ⟨(by decide +kernel), rfl⟩
theorem d_M_goesRound_87 : DlA k_M_goesRound 87 0 88 := Or.inl ⟨0, (by decide +kernel), rfl, rfl⟩
theorem d_M_goesRound_88 : DG k_M_goesRound 88 5 0 91 := ⟨7, (by decide +kernel), f_M_7, rfl⟩
theorem d_M_goesRound_91 : Dc k_M_goesRound 91 (7) 93 := Or.inr (Or.inl ⟨(by decide +kernel), by decide, rfl⟩)
theorem d_M_goesRound_93 : Dc k_M_goesRound 93 (5) 94 := Or.inl ⟨(by decide +kernel), rfl⟩
theorem d_M_goesRound_94 : DlI k_M_goesRound 94 3 95 := Or.inl ⟨3, (by decide +kernel), rfl, rfl⟩
theorem d_M_goesRound_95 : Dk k_M_goesRound 95 .imul 1 96 := ⟨(by decide +kernel), rfl⟩
theorem d_M_goesRound_96 : Dk k_M_goesRound 96 .iadd 1 97 := ⟨(by decide +kernel), rfl⟩
theorem d_M_goesRound_97 : Dc k_M_goesRound 97 (4) 98 := Or.inl ⟨(by decide +kernel), rfl⟩
theorem d_M_goesRound_98 : Dk k_M_goesRound 98 .iadd 1 99 := ⟨(by decide +kernel), rfl⟩
theorem d_M_goesRound_99 : DlI k_M_goesRound 99 2 100 := Or.inl ⟨2, (by decide +kernel), rfl, rfl⟩
theorem d_M_goesRound_100 : Dk k_M_goesRound 100 .iastore 1 101 := ⟨(by decide +kernel), rfl⟩
theorem d_M_goesRound_101 : Dinc k_M_goesRound 101 2 (1) 104 := ⟨(by decide +kernel), rfl, by decide⟩
theorem d_M_goesRound_104 : Db k_M_goesRound 104 .goto 107 48 := ⟨-56, (by decide +kernel), rfl, by decide⟩
theorem d_M_goesRound_107 : DlA k_M_goesRound 107 0 108 := Or.inl ⟨0, (by decide +kernel), rfl, rfl⟩
theorem d_M_goesRound_108 : DG k_M_goesRound 108 5 0 111 := ⟨7, (by decide +kernel), f_M_7, rfl⟩
theorem d_M_goesRound_111 : Dc k_M_goesRound 111 (6) 113 := Or.inr (Or.inl ⟨(by decide +kernel), by decide, rfl⟩)
theorem d_M_goesRound_113 : Dk k_M_goesRound 113 .dup2 1 114 := ⟨(by decide +kernel), rfl⟩
theorem d_M_goesRound_114 : Dk k_M_goesRound 114 .iaload 1 115 := ⟨(by decide +kernel), rfl⟩
theorem d_M_goesRound_115 : Dc k_M_goesRound 115 (1) 116 := Or.inl ⟨(by decide +kernel), rfl⟩
theorem d_M_goesRound_116 : Dk k_M_goesRound 116 .iadd 1 117 := ⟨(by decide +kernel), rfl⟩
theorem d_M_goesRound_117 : Dk k_M_goesRound 117 .iastore 1 118 := ⟨(by decide +kernel), rfl⟩
theorem d_M_goesRound_118 : DlI k_M_goesRound 118 1 119 := Or.inl ⟨1, (by decide +kernel), rfl, rfl⟩
theorem d_M_goesRound_119 : DrI k_M_goesRound 119 := ⟨(by decide +kernel), rfl⟩
theorem d_M_isFull_0 : DlA k_M_isFull 0 0 1 := Or.inl ⟨0, (by decide +kernel), rfl, rfl⟩
theorem d_M_isFull_1 : DG k_M_isFull 1 5 0 4 := ⟨7, (by decide +kernel), f_M_7, rfl⟩
theorem d_M_isFull_4 : Dc k_M_isFull 4 (5) 5 := Or.inl ⟨(by decide +kernel), rfl⟩
theorem d_M_isFull_5 : Dk k_M_isFull 5 .iaload 1 6 := ⟨(by decide +kernel), rfl⟩
theorem d_M_isFull_6 : Dc k_M_isFull 6 (76) 8 := Or.inr (Or.inl ⟨(by decide +kernel), by decide, rfl⟩)
theorem d_M_isFull_8 : Db k_M_isFull 8 (.if_icmp .ge) 11 23 := ⟨15, (by decide +kernel), rfl, by decide⟩
theorem d_M_isFull_11 : DlA k_M_isFull 11 0 12 := Or.inl ⟨0, (by decide +kernel), rfl, rfl⟩
theorem d_M_isFull_12 : DG k_M_isFull 12 5 0 15 := ⟨7, (by decide +kernel), f_M_7, rfl⟩
theorem d_M_isFull_15 : Dc k_M_isFull 15 (6) 17 := Or.inr (Or.inl ⟨(by decide +kernel), by decide, rfl⟩)
theorem d_M_isFull_17 : Dk k_M_isFull 17 .iaload 1 18 := ⟨(by decide +kernel), rfl⟩
theorem d_M_isFull_18 : Dc k_M_isFull 18 (12) 20 := Or.inr (Or.inl ⟨(by decide +kernel), by decide, rfl⟩)
theorem d_M_isFull_20 : Db k_M_isFull 20 (.if_icmp .lt) 23 27 := ⟨7, (by decide +kernel), rfl, by decide⟩
theorem d_M_isFull_23 : Dc k_M_isFull 23 (1) 24 := Or.inl ⟨(by decide +kernel), rfl⟩
theorem d_M_isFull_24 : Db k_M_isFull 24 .goto 27 28 := ⟨4, (by decide +kernel), rfl, by decide⟩
theorem d_M_isFull_27 : Dc k_M_isFull 27 (0) 28 := Or.inl ⟨(by decide +kernel), rfl⟩
theorem d_M_isFull_28 : DrZ k_M_isFull 28 := ⟨(by decide +kernel), rfl⟩
theorem d_M_begins_0 : DlI k_M_begins 0 1 1 := Or.inl ⟨1, (by decide +kernel), rfl, rfl⟩
theorem d_M_begins_1 : decode k_M_begins.2.2.1 1 = .ok (.tableswitch 94 0 2 #[27, 47, 74], 27) := by decide +kernel
theorem d_M_begins_28 : DlI k_M_begins 28 2 29 := Or.inl ⟨2, (by decide +kernel), rfl, rfl⟩
theorem d_M_begins_29 : Db k_M_begins 29 (.ifCond .ne) 32 46 := ⟨17, (by decide +kernel), rfl, by decide⟩
theorem d_M_begins_32 : DlI k_M_begins 32 3 33 := Or.inl ⟨3, (by decide +kernel), rfl, rfl⟩
theorem d_M_begins_33 : DlA k_M_begins 33 0 34 := Or.inl ⟨0, (by decide +kernel), rfl, rfl⟩
theorem d_M_begins_34 : DG k_M_begins 34 5 0 37 := ⟨7, (by decide +kernel), f_M_7, rfl⟩
theorem d_M_begins_37 : Dc k_M_begins 37 (1) 38 := Or.inl ⟨(by decide +kernel), rfl⟩
theorem d_M_begins_38 : Dk k_M_begins 38 .iaload 1 39 := ⟨(by decide +kernel), rfl⟩
theorem d_M_begins_39 : Db k_M_begins 39 (.if_icmp .lt) 42 46 := ⟨7, (by decide +kernel), rfl, by decide⟩
theorem d_M_begins_42 : Dc k_M_begins 42 (1) 43 := Or.inl ⟨(by decide +kernel), rfl⟩
theorem d_M_begins_43 : Db k_M_begins 43 .goto 46 47 := ⟨4, (by decide +kernel), rfl, by decide⟩
theorem d_M_begins_46 : Dc k_M_begins 46 (0) 47 := Or.inl ⟨(by decide +kernel), rfl⟩
theorem d_M_begins_47 : DrZ k_M_begins 47 := ⟨(by decide +kernel), rfl⟩
theorem d_M_begins_48 : DlI k_M_begins 48 2 49 := Or.inl ⟨2, (by decide +kernel), rfl, rfl⟩
theorem d_M_begins_49 : Db k_M_begins 49 (.ifCond .ne) 52 73 := ⟨24, (by decide +kernel), rfl, by decide⟩
theorem d_M_begins_52 : DlI k_M_begins 52 3 53 := Or.inl ⟨3, (by decide +kernel), rfl, rfl⟩
theorem d_M_begins_53 : DlA k_M_begins 53 0 54 := Or.inl ⟨0, (by decide +kernel), rfl, rfl⟩
theorem d_M_begins_54 : DG k_M_begins 54 5 0 57 := ⟨7, (by decide +kernel), f_M_7, rfl⟩
theorem d_M_begins_57 : Dc k_M_begins 57 (1) 58 := Or.inl ⟨(by decide +kernel), rfl⟩
theorem d_M_begins_58 : Dk k_M_begins 58 .iaload 1 59 := ⟨(by decide +kernel), rfl⟩
theorem d_M_begins_59 : DlA k_M_begins 59 0 60 := Or.inl ⟨0, (by decide +kernel), rfl, rfl⟩
theorem d_M_begins_60 : DG k_M_begins 60 5 0 63 := ⟨7, (by decide +kernel), f_M_7, rfl⟩
theorem d_M_begins_63 : Dc k_M_begins 63 (2) 64 := Or.inl ⟨(by decide +kernel), rfl⟩
theorem d_M_begins_64 : Dk k_M_begins 64 .iaload 1 65 := ⟨(by decide +kernel), rfl⟩
theorem d_M_begins_65 : Dk k_M_begins 65 .iadd 1 66 := ⟨(by decide +kernel), rfl⟩
theorem d_M_begins_66 : Db k_M_begins 66 (.if_icmp .lt) 69 73 := ⟨7, (by decide +kernel), rfl, by decide⟩
theorem d_M_begins_69 : Dc k_M_begins 69 (1) 70 := Or.inl ⟨(by decide +kernel), rfl⟩
theorem d_M_begins_70 : Db k_M_begins 70 .goto 73 74 := ⟨4, (by decide +kernel), rfl, by decide⟩
theorem d_M_begins_73 : Dc k_M_begins 73 (0) 74 := Or.inl ⟨(by decide +kernel), rfl⟩
theorem d_M_begins_74 : DrZ k_M_begins 74 := ⟨(by decide +kernel), rfl⟩
theorem d_M_begins_75 : DlI k_M_begins 75 2 76 := Or.inl ⟨2, (by decide +kernel), rfl, rfl⟩
theorem d_M_begins_76 : Db k_M_begins 76 (.ifCond .eq) 79 93 := ⟨17, (by decide +kernel), rfl, by decide⟩
theorem d_M_begins_79 : DlI k_M_begins 79 3 80 := Or.inl ⟨3, (by decide +kernel), rfl, rfl⟩
theorem d_M_begins_80 : DlA k_M_begins 80 0 81 := Or.inl ⟨0, (by decide +kernel), rfl, rfl⟩
theorem d_M_begins_81 : DG k_M_begins 81 5 0 84 := ⟨7, (by decide +kernel), f_M_7, rfl⟩
theorem d_M_begins_84 : Dc k_M_begins 84 (2) 85 := Or.inl ⟨(by decide +kernel), rfl⟩
theorem d_M_begins_85 : Dk k_M_begins 85 .iaload 1 86 := ⟨(by decide +kernel), rfl⟩
theorem d_M_begins_86 : Db k_M_begins 86 (.if_icmp .le) 89 93 := ⟨7, (by decide +kernel), rfl, by decide⟩
theorem d_M_begins_89 : Dc k_M_begins 89 (1) 90 := Or.inl ⟨(by decide +kernel), rfl⟩
theorem d_M_begins_90 : Db k_M_begins 90 .goto 93 94 := ⟨4, (by decide +kernel), rfl, by decide⟩
theorem d_M_begins_93 : Dc k_M_begins 93 (0) 94 := Or.inl ⟨(by decide +kernel), rfl⟩
theorem d_M_begins_94 : DrZ k_M_begins 94 := ⟨(by decide +kernel), rfl⟩
theorem d_M_begins_95 : DlI k_M_begins 95 2 96 := Or.inl ⟨2, (by decide +kernel), rfl, rfl⟩
theorem d_M_begins_96 : Db k_M_begins 96 (.ifCond .eq) 99 107 := ⟨11, (by decide +kernel), rfl, by decide⟩
theorem d_M_begins_99 : DlI k_M_begins 99 3 100 := Or.inl ⟨3, (by decide +kernel), rfl, rfl⟩
theorem d_M_begins_100 : Db k_M_begins 100 (.ifCond .le) 103 107 := ⟨7, (by decide +kernel), rfl, by decide⟩
theorem d_M_begins_103 : Dc k_M_begins 103 (1) 104 := Or.inl ⟨(by decide +kernel), rfl⟩
theorem d_M_begins_104 : Db k_M_begins 104 .goto 107 108 := ⟨4, (by decide +kernel), rfl, by decide⟩
theorem d_M_begins_107 : Dc k_M_begins 107 (0) 108 := Or.inl ⟨(by decide +kernel), rfl⟩
theorem d_M_begins_108 : DrZ k_M_begins 108 := ⟨(by decide +kernel), rfl⟩
theorem d_M_comes_0 : DlA k_M_comes 0 0 1 := Or.inl ⟨0, (by decide +kernel), rfl, rfl⟩
theorem d_M_comes_1 : DCV k_M_comes 1 k_M_isFull 5 0 4 := ⟨86, (by decide +kernel), rfl, tb_at 657 (by decide +kernel) (by decide +kernel), m_M_isFull, iv_M_isFull.1, iv_M_isFull.2, ⟨(RX6, TX6, 16), rfl, rfl⟩, by decide +kernel, by decide⟩
theorem d_M_comes_4 : Db k_M_comes 4 (.ifCond .ne) 7 16 := ⟨12, (by decide +kernel), rfl, by decide⟩
theorem d_M_comes_7 : DlA k_M_comes 7 0 8 := Or.inl ⟨0, (by decide +kernel), rfl, rfl⟩
theorem d_M_comes_8 : DCV k_M_comes 8 k_M_standing 5 0 11 := ⟨76, (by decide +kernel), rfl, tb_at 661 (by decide +kernel) (by decide +kernel), m_M_standing, iv_M_standing.1, iv_M_standing.2, ⟨(RX6, TX6, 16), rfl, rfl⟩, by decide +kernel, by decide⟩
theorem d_M_comes_11 : Dc k_M_comes 11 (12) 13 := Or.inr (Or.inl ⟨(by decide +kernel), by decide, rfl⟩)
theorem d_M_comes_13 : Db k_M_comes 13 (.if_icmp .lt) 16 19 := ⟨6, (by decide +kernel), rfl, by decide⟩
theorem d_M_comes_16 : Dc k_M_comes 16 (-3) 18 := Or.inr (Or.inl ⟨(by decide +kernel), by decide, rfl⟩)
theorem d_M_comes_18 : DrI k_M_comes 18 := ⟨(by decide +kernel), rfl⟩
theorem d_M_comes_19 : DlA k_M_comes 19 0 20 := Or.inl ⟨0, (by decide +kernel), rfl, rfl⟩
theorem d_M_comes_20 : DlI k_M_comes 20 1 21 := Or.inl ⟨1, (by decide +kernel), rfl, rfl⟩
theorem d_M_comes_21 : DlI k_M_comes 21 2 22 := Or.inl ⟨2, (by decide +kernel), rfl, rfl⟩
theorem d_M_comes_22 : DCV k_M_comes 22 k_M_adds 5 2 25 := ⟨72, (by decide +kernel), rfl, tb_at 681 (by decide +kernel) (by decide +kernel), m_M_adds, iv_M_adds.1, iv_M_adds.2, ⟨(RX6, TX6, 16), rfl, rfl⟩, by decide +kernel, by decide⟩
theorem d_M_comes_25 : DlA k_M_comes 25 0 26 := Or.inl ⟨0, (by decide +kernel), rfl, rfl⟩
theorem d_M_comes_26 : DlA k_M_comes 26 0 27 := Or.inl ⟨0, (by decide +kernel), rfl, rfl⟩
theorem d_M_comes_27 : DG k_M_comes 27 5 0 30 := ⟨7, (by decide +kernel), f_M_7, rfl⟩
theorem d_M_comes_30 : Dc k_M_comes 30 (0) 31 := Or.inl ⟨(by decide +kernel), rfl⟩
theorem d_M_comes_31 : Dk k_M_comes 31 .iaload 1 32 := ⟨(by decide +kernel), rfl⟩
theorem d_M_comes_32 : Dc k_M_comes 32 (0) 33 := Or.inl ⟨(by decide +kernel), rfl⟩
theorem d_M_comes_33 : DlA k_M_comes 33 0 34 := Or.inl ⟨0, (by decide +kernel), rfl, rfl⟩
theorem d_M_comes_34 : DCV k_M_comes 34 k_M_standing 5 0 37 := ⟨76, (by decide +kernel), rfl, tb_at 661 (by decide +kernel) (by decide +kernel), m_M_standing, iv_M_standing.1, iv_M_standing.2, ⟨(RX6, TX6, 16), rfl, rfl⟩, by decide +kernel, by decide⟩
theorem d_M_comes_37 : DCV k_M_comes 37 k_M_begins 5 3 40 := ⟨90, (by decide +kernel), rfl, tb_at 685 (by decide +kernel) (by decide +kernel), m_M_begins, iv_M_begins.1, iv_M_begins.2, ⟨(RX6, TX6, 16), rfl, rfl⟩, by decide +kernel, by decide⟩
theorem d_M_comes_40 : Db k_M_comes 40 (.ifCond .eq) 43 50 := ⟨10, (by decide +kernel), rfl, by decide⟩
theorem d_M_comes_43 : DlA k_M_comes 43 0 44 := Or.inl ⟨0, (by decide +kernel), rfl, rfl⟩
theorem d_M_comes_44 : DCV k_M_comes 44 k_M_goesRound 5 0 47 := ⟨94, (by decide +kernel), rfl, tb_at 689 (by decide +kernel) (by decide +kernel), m_M_goesRound, iv_M_goesRound.1, iv_M_goesRound.2, ⟨(RX6, TX6, 16), rfl, rfl⟩, by decide +kernel, by decide⟩
theorem d_M_comes_47 : Db k_M_comes 47 .goto 50 51 := ⟨4, (by decide +kernel), rfl, by decide⟩
theorem d_M_comes_50 : Dc k_M_comes 50 (0) 51 := Or.inl ⟨(by decide +kernel), rfl⟩
theorem d_M_comes_51 : DrI k_M_comes 51 := ⟨(by decide +kernel), rfl⟩
theorem d_M_ticks_0 : DlA k_M_ticks 0 0 1 := Or.inl ⟨0, (by decide +kernel), rfl, rfl⟩
theorem d_M_ticks_1 : DCV k_M_ticks 1 k_M_isFull 5 0 4 := ⟨86, (by decide +kernel), rfl, tb_at 657 (by decide +kernel) (by decide +kernel), m_M_isFull, iv_M_isFull.1, iv_M_isFull.2, ⟨(RX6, TX6, 16), rfl, rfl⟩, by decide +kernel, by decide⟩
theorem d_M_ticks_4 : Db k_M_ticks 4 (.ifCond .eq) 7 10 := ⟨6, (by decide +kernel), rfl, by decide⟩
theorem d_M_ticks_7 : Dc k_M_ticks 7 (-3) 9 := Or.inr (Or.inl ⟨(by decide +kernel), by decide, rfl⟩)
theorem d_M_ticks_9 : DrI k_M_ticks 9 := ⟨(by decide +kernel), rfl⟩
theorem d_M_ticks_10 : DlA k_M_ticks 10 0 11 := Or.inl ⟨0, (by decide +kernel), rfl, rfl⟩
theorem d_M_ticks_11 : DlA k_M_ticks 11 0 12 := Or.inl ⟨0, (by decide +kernel), rfl, rfl⟩
theorem d_M_ticks_12 : DG k_M_ticks 12 5 0 15 := ⟨7, (by decide +kernel), f_M_7, rfl⟩
theorem d_M_ticks_15 : Dc k_M_ticks 15 (0) 16 := Or.inl ⟨(by decide +kernel), rfl⟩
theorem d_M_ticks_16 : Dk k_M_ticks 16 .iaload 1 17 := ⟨(by decide +kernel), rfl⟩
theorem d_M_ticks_17 : Dc k_M_ticks 17 (1) 18 := Or.inl ⟨(by decide +kernel), rfl⟩
theorem d_M_ticks_18 : DlA k_M_ticks 18 0 19 := Or.inl ⟨0, (by decide +kernel), rfl, rfl⟩
theorem d_M_ticks_19 : DCV k_M_ticks 19 k_M_standing 5 0 22 := ⟨76, (by decide +kernel), rfl, tb_at 661 (by decide +kernel) (by decide +kernel), m_M_standing, iv_M_standing.1, iv_M_standing.2, ⟨(RX6, TX6, 16), rfl, rfl⟩, by decide +kernel, by decide⟩
theorem d_M_ticks_22 : DCV k_M_ticks 22 k_M_begins 5 3 25 := ⟨90, (by decide +kernel), rfl, tb_at 685 (by decide +kernel) (by decide +kernel), m_M_begins, iv_M_begins.1, iv_M_begins.2, ⟨(RX6, TX6, 16), rfl, rfl⟩, by decide +kernel, by decide⟩
theorem d_M_ticks_25 : Db k_M_ticks 25 (.ifCond .eq) 28 35 := ⟨10, (by decide +kernel), rfl, by decide⟩
theorem d_M_ticks_28 : DlA k_M_ticks 28 0 29 := Or.inl ⟨0, (by decide +kernel), rfl, rfl⟩
theorem d_M_ticks_29 : DCV k_M_ticks 29 k_M_goesRound 5 0 32 := ⟨94, (by decide +kernel), rfl, tb_at 689 (by decide +kernel) (by decide +kernel), m_M_goesRound, iv_M_goesRound.1, iv_M_goesRound.2, ⟨(RX6, TX6, 16), rfl, rfl⟩, by decide +kernel, by decide⟩
theorem d_M_ticks_32 : Db k_M_ticks 32 .goto 35 36 := ⟨4, (by decide +kernel), rfl, by decide⟩
theorem d_M_ticks_35 : Dc k_M_ticks 35 (0) 36 := Or.inl ⟨(by decide +kernel), rfl⟩
theorem d_M_ticks_36 : DrI k_M_ticks 36 := ⟨(by decide +kernel), rfl⟩
theorem d_M_isSender_0 : DlI k_M_isSender 0 0 1 := Or.inl ⟨0, (by decide +kernel), rfl, rfl⟩
theorem d_M_isSender_1 : Dk k_M_isSender 1 .i2l 1 2 := ⟨(by decide +kernel), rfl⟩
theorem d_M_isSender_2 : DcL k_M_isSender 2 0 3 := Or.inl ⟨0, (by decide +kernel), by decide, rfl⟩
theorem d_M_isSender_3 : DcL k_M_isSender 3 (7) 6 := Or.inr ⟨97, (by decide +kernel), tb_at 653 (by decide +kernel) (by decide +kernel), rfl⟩
theorem d_M_isSender_6 : DCS k_M_isSender 6 k_M_in 3 9 := ⟨48, (by decide +kernel), rfl, Or.inl (tb_at 654 (by decide +kernel) (by decide +kernel)), m_M_in, is_M_in, by decide +kernel, by decide⟩
theorem d_M_isSender_9 : Db k_M_isSender 9 (.ifCond .ne) 12 18 := ⟨9, (by decide +kernel), rfl, by decide⟩
theorem d_M_isSender_12 : DlI k_M_isSender 12 0 13 := Or.inl ⟨0, (by decide +kernel), rfl, rfl⟩
theorem d_M_isSender_13 : Dc k_M_isSender 13 (9) 15 := Or.inr (Or.inl ⟨(by decide +kernel), by decide, rfl⟩)
theorem d_M_isSender_15 : Db k_M_isSender 15 (.if_icmp .ne) 18 22 := ⟨7, (by decide +kernel), rfl, by decide⟩
theorem d_M_isSender_18 : Dc k_M_isSender 18 (1) 19 := Or.inl ⟨(by decide +kernel), rfl⟩
theorem d_M_isSender_19 : Db k_M_isSender 19 .goto 22 23 := ⟨4, (by decide +kernel), rfl, by decide⟩
theorem d_M_isSender_22 : Dc k_M_isSender 22 (0) 23 := Or.inl ⟨(by decide +kernel), rfl⟩
theorem d_M_isSender_23 : DrZ k_M_isSender 23 := ⟨(by decide +kernel), rfl⟩
theorem d_M_come_0 : DlI k_M_come 0 1 1 := Or.inl ⟨1, (by decide +kernel), rfl, rfl⟩
theorem d_M_come_1 : DCS k_M_come 1 k_M_isSender 1 4 := ⟨99, (by decide +kernel), rfl, Or.inl (tb_at 650 (by decide +kernel) (by decide +kernel)), m_M_isSender, is_M_isSender, by decide +kernel, by decide⟩
theorem d_M_come_4 : Db k_M_come 4 (.ifCond .eq) 7 19 := ⟨15, (by decide +kernel), rfl, by decide⟩
theorem d_M_come_7 : DlI k_M_come 7 2 8 := Or.inl ⟨2, (by decide +kernel), rfl, rfl⟩
theorem d_M_come_8 : Dk k_M_come 8 .i2l 1 9 := ⟨(by decide +kernel), rfl⟩
theorem d_M_come_9 : DcL k_M_come 9 0 10 := Or.inl ⟨0, (by decide +kernel), by decide, rfl⟩
theorem d_M_come_10 : DcL k_M_come 10 (7) 13 := Or.inr ⟨97, (by decide +kernel), tb_at 653 (by decide +kernel) (by decide +kernel), rfl⟩
theorem d_M_come_13 : DCS k_M_come 13 k_M_in 3 16 := ⟨48, (by decide +kernel), rfl, Or.inl (tb_at 654 (by decide +kernel) (by decide +kernel)), m_M_in, is_M_in, by decide +kernel, by decide⟩
theorem d_M_come_16 : Db k_M_come 16 (.ifCond .ne) 19 21 := ⟨5, (by decide +kernel), rfl, by decide⟩
theorem d_M_come_19 : Dc k_M_come 19 (-1) 20 := Or.inl ⟨(by decide +kernel), rfl⟩
theorem d_M_come_20 : DrI k_M_come 20 := ⟨(by decide +kernel), rfl⟩
theorem d_M_come_21 : DlA k_M_come 21 0 22 := Or.inl ⟨0, (by decide +kernel), rfl, rfl⟩
theorem d_M_come_22 : DCV k_M_come 22 k_M_isFull 5 0 25 := ⟨86, (by decide +kernel), rfl, tb_at 657 (by decide +kernel) (by decide +kernel), m_M_isFull, iv_M_isFull.1, iv_M_isFull.2, ⟨(RX6, TX6, 16), rfl, rfl⟩, by decide +kernel, by decide⟩
theorem d_M_come_25 : Db k_M_come 25 (.ifCond .ne) 28 37 := ⟨12, (by decide +kernel), rfl, by decide⟩
theorem d_M_come_28 : DlA k_M_come 28 0 29 := Or.inl ⟨0, (by decide +kernel), rfl, rfl⟩
theorem d_M_come_29 : DCV k_M_come 29 k_M_standing 5 0 32 := ⟨76, (by decide +kernel), rfl, tb_at 661 (by decide +kernel) (by decide +kernel), m_M_standing, iv_M_standing.1, iv_M_standing.2, ⟨(RX6, TX6, 16), rfl, rfl⟩, by decide +kernel, by decide⟩
theorem d_M_come_32 : Dc k_M_come 32 (12) 34 := Or.inr (Or.inl ⟨(by decide +kernel), by decide, rfl⟩)
theorem d_M_come_34 : Db k_M_come 34 (.if_icmp .lt) 37 40 := ⟨6, (by decide +kernel), rfl, by decide⟩
theorem d_M_come_37 : Dc k_M_come 37 (-3) 39 := Or.inr (Or.inl ⟨(by decide +kernel), by decide, rfl⟩)
theorem d_M_come_39 : DrI k_M_come 39 := ⟨(by decide +kernel), rfl⟩
theorem d_M_come_40 : DlA k_M_come 40 0 41 := Or.inl ⟨0, (by decide +kernel), rfl, rfl⟩
theorem d_M_come_41 : DCV k_M_come 41 k_M_notes 5 0 44 := ⟨102, (by decide +kernel), rfl, tb_at 673 (by decide +kernel) (by decide +kernel), m_M_notes, iv_M_notes.1, iv_M_notes.2, ⟨(RX6, TX6, 16), rfl, rfl⟩, by decide +kernel, by decide⟩
theorem d_M_come_44 : DlA k_M_come 44 0 45 := Or.inl ⟨0, (by decide +kernel), rfl, rfl⟩
theorem d_M_come_45 : DlI k_M_come 45 1 46 := Or.inl ⟨1, (by decide +kernel), rfl, rfl⟩
theorem d_M_come_46 : DlI k_M_come 46 2 47 := Or.inl ⟨2, (by decide +kernel), rfl, rfl⟩
theorem d_M_come_47 : DCV k_M_come 47 k_M_comes 5 2 50 := ⟨105, (by decide +kernel), rfl, tb_at 677 (by decide +kernel) (by decide +kernel), m_M_comes, iv_M_comes.1, iv_M_comes.2, ⟨(RX6, TX6, 16), rfl, rfl⟩, by decide +kernel, by decide⟩
theorem d_M_come_50 : DrI k_M_come 50 := ⟨(by decide +kernel), rfl⟩
theorem d_M_tick_0 : DlA k_M_tick 0 0 1 := Or.inl ⟨0, (by decide +kernel), rfl, rfl⟩
theorem d_M_tick_1 : DCV k_M_tick 1 k_M_isFull 5 0 4 := ⟨86, (by decide +kernel), rfl, tb_at 657 (by decide +kernel) (by decide +kernel), m_M_isFull, iv_M_isFull.1, iv_M_isFull.2, ⟨(RX6, TX6, 16), rfl, rfl⟩, by decide +kernel, by decide⟩
theorem d_M_tick_4 : Db k_M_tick 4 (.ifCond .eq) 7 10 := ⟨6, (by decide +kernel), rfl, by decide⟩
theorem d_M_tick_7 : Dc k_M_tick 7 (-3) 9 := Or.inr (Or.inl ⟨(by decide +kernel), by decide, rfl⟩)
theorem d_M_tick_9 : DrI k_M_tick 9 := ⟨(by decide +kernel), rfl⟩
theorem d_M_tick_10 : DlA k_M_tick 10 0 11 := Or.inl ⟨0, (by decide +kernel), rfl, rfl⟩
theorem d_M_tick_11 : DCV k_M_tick 11 k_M_notes 5 0 14 := ⟨102, (by decide +kernel), rfl, tb_at 673 (by decide +kernel) (by decide +kernel), m_M_notes, iv_M_notes.1, iv_M_notes.2, ⟨(RX6, TX6, 16), rfl, rfl⟩, by decide +kernel, by decide⟩
theorem d_M_tick_14 : DlA k_M_tick 14 0 15 := Or.inl ⟨0, (by decide +kernel), rfl, rfl⟩
theorem d_M_tick_15 : DCV k_M_tick 15 k_M_ticks 5 0 18 := ⟨108, (by decide +kernel), rfl, tb_at 713 (by decide +kernel) (by decide +kernel), m_M_ticks, iv_M_ticks.1, iv_M_ticks.2, ⟨(RX6, TX6, 16), rfl, rfl⟩, by decide +kernel, by decide⟩
theorem d_M_tick_18 : DrI k_M_tick 18 := ⟨(by decide +kernel), rfl⟩
theorem d_M_isTold_0 : DlI k_M_isTold 0 0 1 := Or.inl ⟨0, (by decide +kernel), rfl, rfl⟩
theorem d_M_isTold_1 : decode k_M_isTold.2.2.1 1 = .ok (.tableswitch 71 0 3 #[31, 41, 51, 61], 31) := by decide +kernel
theorem d_M_isTold_32 : DlI k_M_isTold 32 1 33 := Or.inl ⟨1, (by decide +kernel), rfl, rfl⟩
theorem d_M_isTold_33 : Dk k_M_isTold 33 .i2l 1 34 := ⟨(by decide +kernel), rfl⟩
theorem d_M_isTold_34 : DcL k_M_isTold 34 0 35 := Or.inl ⟨0, (by decide +kernel), by decide, rfl⟩
theorem d_M_isTold_35 : DcL k_M_isTold 35 (3) 38 := Or.inr ⟨111, (by decide +kernel), tb_at 724 (by decide +kernel) (by decide +kernel), rfl⟩
theorem d_M_isTold_38 : DCS k_M_isTold 38 k_M_in 3 41 := ⟨48, (by decide +kernel), rfl, Or.inl (tb_at 654 (by decide +kernel) (by decide +kernel)), m_M_in, is_M_in, by decide +kernel, by decide⟩
theorem d_M_isTold_41 : DrZ k_M_isTold 41 := ⟨(by decide +kernel), rfl⟩
theorem d_M_isTold_42 : DlI k_M_isTold 42 1 43 := Or.inl ⟨1, (by decide +kernel), rfl, rfl⟩
theorem d_M_isTold_43 : Dk k_M_isTold 43 .i2l 1 44 := ⟨(by decide +kernel), rfl⟩
theorem d_M_isTold_44 : DcL k_M_isTold 44 1 45 := Or.inl ⟨1, (by decide +kernel), by decide, rfl⟩
theorem d_M_isTold_45 : DcL k_M_isTold 45 (8) 48 := Or.inr ⟨113, (by decide +kernel), tb_at 725 (by decide +kernel) (by decide +kernel), rfl⟩
theorem d_M_isTold_48 : DCS k_M_isTold 48 k_M_in 3 51 := ⟨48, (by decide +kernel), rfl, Or.inl (tb_at 654 (by decide +kernel) (by decide +kernel)), m_M_in, is_M_in, by decide +kernel, by decide⟩
theorem d_M_isTold_51 : DrZ k_M_isTold 51 := ⟨(by decide +kernel), rfl⟩
theorem d_M_isTold_52 : DlI k_M_isTold 52 1 53 := Or.inl ⟨1, (by decide +kernel), rfl, rfl⟩
theorem d_M_isTold_53 : Dk k_M_isTold 53 .i2l 1 54 := ⟨(by decide +kernel), rfl⟩
theorem d_M_isTold_54 : DcL k_M_isTold 54 0 55 := Or.inl ⟨0, (by decide +kernel), by decide, rfl⟩
theorem d_M_isTold_55 : DcL k_M_isTold 55 (4) 58 := Or.inr ⟨115, (by decide +kernel), tb_at 726 (by decide +kernel) (by decide +kernel), rfl⟩
theorem d_M_isTold_58 : DCS k_M_isTold 58 k_M_in 3 61 := ⟨48, (by decide +kernel), rfl, Or.inl (tb_at 654 (by decide +kernel) (by decide +kernel)), m_M_in, is_M_in, by decide +kernel, by decide⟩
theorem d_M_isTold_61 : DrZ k_M_isTold 61 := ⟨(by decide +kernel), rfl⟩
theorem d_M_isTold_62 : DlI k_M_isTold 62 1 63 := Or.inl ⟨1, (by decide +kernel), rfl, rfl⟩
theorem d_M_isTold_63 : Dk k_M_isTold 63 .i2l 1 64 := ⟨(by decide +kernel), rfl⟩
theorem d_M_isTold_64 : DcL k_M_isTold 64 0 65 := Or.inl ⟨0, (by decide +kernel), by decide, rfl⟩
theorem d_M_isTold_65 : DcL k_M_isTold 65 (3) 68 := Or.inr ⟨111, (by decide +kernel), tb_at 724 (by decide +kernel) (by decide +kernel), rfl⟩
theorem d_M_isTold_68 : DCS k_M_isTold 68 k_M_in 3 71 := ⟨48, (by decide +kernel), rfl, Or.inl (tb_at 654 (by decide +kernel) (by decide +kernel)), m_M_in, is_M_in, by decide +kernel, by decide⟩
theorem d_M_isTold_71 : DrZ k_M_isTold 71 := ⟨(by decide +kernel), rfl⟩
theorem d_M_isTold_72 : Dc k_M_isTold 72 (0) 73 := Or.inl ⟨(by decide +kernel), rfl⟩
theorem d_M_isTold_73 : DrZ k_M_isTold 73 := ⟨(by decide +kernel), rfl⟩
theorem d_M_tell_0 : DlI k_M_tell 0 1 1 := Or.inl ⟨1, (by decide +kernel), rfl, rfl⟩
theorem d_M_tell_1 : DlI k_M_tell 1 2 2 := Or.inl ⟨2, (by decide +kernel), rfl, rfl⟩
theorem d_M_tell_2 : DCS k_M_tell 2 k_M_isTold 2 5 := ⟨117, (by decide +kernel), rfl, Or.inl (tb_at 721 (by decide +kernel) (by decide +kernel)), m_M_isTold, is_M_isTold, by decide +kernel, by decide⟩
theorem d_M_tell_5 : Db k_M_tell 5 (.ifCond .ne) 8 10 := ⟨5, (by decide +kernel), rfl, by decide⟩
theorem d_M_tell_8 : Dc k_M_tell 8 (-1) 9 := Or.inl ⟨(by decide +kernel), rfl⟩
theorem d_M_tell_9 : DrI k_M_tell 9 := ⟨(by decide +kernel), rfl⟩
theorem d_M_tell_10 : DlA k_M_tell 10 0 11 := Or.inl ⟨0, (by decide +kernel), rfl, rfl⟩
theorem d_M_tell_11 : DG k_M_tell 11 5 0 14 := ⟨7, (by decide +kernel), f_M_7, rfl⟩
theorem d_M_tell_14 : DlI k_M_tell 14 1 15 := Or.inl ⟨1, (by decide +kernel), rfl, rfl⟩
theorem d_M_tell_15 : Dk k_M_tell 15 .iaload 1 16 := ⟨(by decide +kernel), rfl⟩
theorem d_M_tell_16 : DsI k_M_tell 16 3 17 := ⟨Or.inl ⟨3, (by decide +kernel), rfl, rfl⟩, by decide⟩
theorem d_M_tell_17 : DlI k_M_tell 17 3 18 := Or.inl ⟨3, (by decide +kernel), rfl, rfl⟩
theorem d_M_tell_18 : DlI k_M_tell 18 2 19 := Or.inl ⟨2, (by decide +kernel), rfl, rfl⟩
theorem d_M_tell_19 : Db k_M_tell 19 (.if_icmp .ne) 22 25 := ⟨6, (by decide +kernel), rfl, by decide⟩
theorem d_M_tell_22 : Dc k_M_tell 22 (-2) 24 := Or.inr (Or.inl ⟨(by decide +kernel), by decide, rfl⟩)
theorem d_M_tell_24 : DrI k_M_tell 24 := ⟨(by decide +kernel), rfl⟩
theorem d_M_tell_25 : DlA k_M_tell 25 0 26 := Or.inl ⟨0, (by decide +kernel), rfl, rfl⟩
theorem d_M_tell_26 : DCV k_M_tell 26 k_M_notes 5 0 29 := ⟨102, (by decide +kernel), rfl, tb_at 673 (by decide +kernel) (by decide +kernel), m_M_notes, iv_M_notes.1, iv_M_notes.2, ⟨(RX6, TX6, 16), rfl, rfl⟩, by decide +kernel, by decide⟩
theorem d_M_tell_29 : DlA k_M_tell 29 0 30 := Or.inl ⟨0, (by decide +kernel), rfl, rfl⟩
theorem d_M_tell_30 : DG k_M_tell 30 5 0 33 := ⟨7, (by decide +kernel), f_M_7, rfl⟩
theorem d_M_tell_33 : DlI k_M_tell 33 1 34 := Or.inl ⟨1, (by decide +kernel), rfl, rfl⟩
theorem d_M_tell_34 : DlI k_M_tell 34 2 35 := Or.inl ⟨2, (by decide +kernel), rfl, rfl⟩
theorem d_M_tell_35 : Dk k_M_tell 35 .iastore 1 36 := ⟨(by decide +kernel), rfl⟩
theorem d_M_tell_36 : DlI k_M_tell 36 3 37 := Or.inl ⟨3, (by decide +kernel), rfl, rfl⟩
theorem d_M_tell_37 : DrI k_M_tell 37 := ⟨(by decide +kernel), rfl⟩
theorem d_M_begin_0 : DlA k_M_begin 0 0 1 := Or.inl ⟨0, (by decide +kernel), rfl, rfl⟩
theorem d_M_begin_1 : DG k_M_begin 1 5 0 4 := ⟨7, (by decide +kernel), f_M_7, rfl⟩
theorem d_M_begin_4 : Dc k_M_begin 4 (5) 5 := Or.inl ⟨(by decide +kernel), rfl⟩
theorem d_M_begin_5 : Dk k_M_begin 5 .iaload 1 6 := ⟨(by decide +kernel), rfl⟩
theorem d_M_begin_6 : DsI k_M_begin 6 1 7 := ⟨Or.inl ⟨1, (by decide +kernel), rfl, rfl⟩, by decide⟩
theorem d_M_begin_7 : DlI k_M_begin 7 1 8 := Or.inl ⟨1, (by decide +kernel), rfl, rfl⟩
theorem d_M_begin_8 : Db k_M_begin 8 (.ifCond .ne) 11 14 := ⟨6, (by decide +kernel), rfl, by decide⟩
theorem d_M_begin_11 : Dc k_M_begin 11 (-2) 13 := Or.inr (Or.inl ⟨(by decide +kernel), by decide, rfl⟩)
theorem d_M_begin_13 : DrI k_M_begin 13 := ⟨(by decide +kernel), rfl⟩
theorem d_M_begin_14 : DlA k_M_begin 14 0 15 := Or.inl ⟨0, (by decide +kernel), rfl, rfl⟩
theorem d_M_begin_15 : DCV k_M_begin 15 k_M_notes 5 0 18 := ⟨102, (by decide +kernel), rfl, tb_at 673 (by decide +kernel) (by decide +kernel), m_M_notes, iv_M_notes.1, iv_M_notes.2, ⟨(RX6, TX6, 16), rfl, rfl⟩, by decide +kernel, by decide⟩
theorem d_M_begin_18 : DlA k_M_begin 18 0 19 := Or.inl ⟨0, (by decide +kernel), rfl, rfl⟩
theorem d_M_begin_19 : DG k_M_begin 19 5 0 22 := ⟨7, (by decide +kernel), f_M_7, rfl⟩
theorem d_M_begin_22 : Dc k_M_begin 22 (5) 23 := Or.inl ⟨(by decide +kernel), rfl⟩
theorem d_M_begin_23 : Dc k_M_begin 23 (0) 24 := Or.inl ⟨(by decide +kernel), rfl⟩
theorem d_M_begin_24 : Dk k_M_begin 24 .iastore 1 25 := ⟨(by decide +kernel), rfl⟩
theorem d_M_begin_25 : DlA k_M_begin 25 0 26 := Or.inl ⟨0, (by decide +kernel), rfl, rfl⟩
theorem d_M_begin_26 : DG k_M_begin 26 5 0 29 := ⟨7, (by decide +kernel), f_M_7, rfl⟩
theorem d_M_begin_29 : Dc k_M_begin 29 (6) 31 := Or.inr (Or.inl ⟨(by decide +kernel), by decide, rfl⟩)
theorem d_M_begin_31 : Dc k_M_begin 31 (0) 32 := Or.inl ⟨(by decide +kernel), rfl⟩
theorem d_M_begin_32 : Dk k_M_begin 32 .iastore 1 33 := ⟨(by decide +kernel), rfl⟩
theorem d_M_begin_33 : DlI k_M_begin 33 1 34 := Or.inl ⟨1, (by decide +kernel), rfl, rfl⟩
theorem d_M_begin_34 : DrI k_M_begin 34 := ⟨(by decide +kernel), rfl⟩
theorem d_M_letter_0 : DlA k_M_letter 0 0 1 := Or.inl ⟨0, (by decide +kernel), rfl, rfl⟩
theorem d_M_letter_1 : DlI k_M_letter 1 1 2 := Or.inl ⟨1, (by decide +kernel), rfl, rfl⟩
theorem d_M_letter_2 : DCV k_M_letter 2 k_M_isLetter 5 1 5 := ⟨121, (by decide +kernel), rfl, tb_at 735 (by decide +kernel) (by decide +kernel), m_M_isLetter, iv_M_isLetter.1, iv_M_isLetter.2, ⟨(RX6, TX6, 16), rfl, rfl⟩, by decide +kernel, by decide⟩
theorem d_M_letter_5 : Db k_M_letter 5 (.ifCond .eq) 8 29 := ⟨24, (by decide +kernel), rfl, by decide⟩
theorem d_M_letter_8 : DlI k_M_letter 8 2 9 := Or.inl ⟨2, (by decide +kernel), rfl, rfl⟩
theorem d_M_letter_9 : Dk k_M_letter 9 .i2l 1 10 := ⟨(by decide +kernel), rfl⟩
theorem d_M_letter_10 : DcL k_M_letter 10 0 11 := Or.inl ⟨0, (by decide +kernel), by decide, rfl⟩
theorem d_M_letter_11 : DcL k_M_letter 11 (4) 14 := Or.inr ⟨115, (by decide +kernel), tb_at 726 (by decide +kernel) (by decide +kernel), rfl⟩
theorem d_M_letter_14 : DCS k_M_letter 14 k_M_in 3 17 := ⟨48, (by decide +kernel), rfl, Or.inl (tb_at 654 (by decide +kernel) (by decide +kernel)), m_M_in, is_M_in, by decide +kernel, by decide⟩
theorem d_M_letter_17 : Db k_M_letter 17 (.ifCond .eq) 20 29 := ⟨12, (by decide +kernel), rfl, by decide⟩
theorem d_M_letter_20 : DlA k_M_letter 20 0 21 := Or.inl ⟨0, (by decide +kernel), rfl, rfl⟩
theorem d_M_letter_21 : DlI k_M_letter 21 1 22 := Or.inl ⟨1, (by decide +kernel), rfl, rfl⟩
theorem d_M_letter_22 : DlI k_M_letter 22 2 23 := Or.inl ⟨2, (by decide +kernel), rfl, rfl⟩
theorem d_M_letter_23 : DCV k_M_letter 23 k_M_of 5 2 26 := ⟨52, (by decide +kernel), rfl, tb_at 669 (by decide +kernel) (by decide +kernel), m_M_of, iv_M_of.1, iv_M_of.2, ⟨(RX6, TX6, 16), rfl, rfl⟩, by decide +kernel, by decide⟩
theorem d_M_letter_26 : Db k_M_letter 26 .goto 29 30 := ⟨4, (by decide +kernel), rfl, by decide⟩
theorem d_M_letter_29 : Dc k_M_letter 29 (-1) 30 := Or.inl ⟨(by decide +kernel), rfl⟩
theorem d_M_letter_30 : DrI k_M_letter 30 := ⟨(by decide +kernel), rfl⟩
theorem d_M_inside_0 : DlI k_M_inside 0 1 1 := Or.inl ⟨1, (by decide +kernel), rfl, rfl⟩
theorem d_M_inside_1 : Db k_M_inside 1 (.ifCond .ge) 4 8 := ⟨7, (by decide +kernel), rfl, by decide⟩
theorem d_M_inside_4 : Dc k_M_inside 4 (-1) 5 := Or.inl ⟨(by decide +kernel), rfl⟩
theorem d_M_inside_5 : Db k_M_inside 5 .goto 8 13 := ⟨8, (by decide +kernel), rfl, by decide⟩
theorem d_M_inside_8 : DlA k_M_inside 8 0 9 := Or.inl ⟨0, (by decide +kernel), rfl, rfl⟩
theorem d_M_inside_9 : DlI k_M_inside 9 1 10 := Or.inl ⟨1, (by decide +kernel), rfl, rfl⟩
theorem d_M_inside_10 : DCV k_M_inside 10 k_M_standsAt 5 1 13 := ⟨82, (by decide +kernel), rfl, tb_at 705 (by decide +kernel) (by decide +kernel), m_M_standsAt, iv_M_standsAt.1, iv_M_standsAt.2, ⟨(RX6, TX6, 16), rfl, rfl⟩, by decide +kernel, by decide⟩
theorem d_M_inside_13 : DrI k_M_inside 13 := ⟨(by decide +kernel), rfl⟩
theorem d_M_wasInside_0 : DlA k_M_wasInside 0 0 1 := Or.inl ⟨0, (by decide +kernel), rfl, rfl⟩
theorem d_M_wasInside_1 : DlI k_M_wasInside 1 1 2 := Or.inl ⟨1, (by decide +kernel), rfl, rfl⟩
theorem d_M_wasInside_2 : Dc k_M_wasInside 2 (2) 3 := Or.inl ⟨(by decide +kernel), rfl⟩
theorem d_M_wasInside_3 : DCV k_M_wasInside 3 k_M_of 5 2 6 := ⟨52, (by decide +kernel), rfl, tb_at 669 (by decide +kernel) (by decide +kernel), m_M_of, iv_M_of.1, iv_M_of.2, ⟨(RX6, TX6, 16), rfl, rfl⟩, by decide +kernel, by decide⟩
theorem d_M_wasInside_6 : DlI k_M_wasInside 6 2 7 := Or.inl ⟨2, (by decide +kernel), rfl, rfl⟩
theorem d_M_wasInside_7 : Db k_M_wasInside 7 (.if_icmp .gt) 10 32 := ⟨25, (by decide +kernel), rfl, by decide⟩
theorem d_M_wasInside_10 : DlA k_M_wasInside 10 0 11 := Or.inl ⟨0, (by decide +kernel), rfl, rfl⟩
theorem d_M_wasInside_11 : DlI k_M_wasInside 11 1 12 := Or.inl ⟨1, (by decide +kernel), rfl, rfl⟩
theorem d_M_wasInside_12 : DCV k_M_wasInside 12 k_M_stands 5 1 15 := ⟨56, (by decide +kernel), rfl, tb_at 665 (by decide +kernel) (by decide +kernel), m_M_stands, iv_M_stands.1, iv_M_stands.2, ⟨(RX6, TX6, 16), rfl, rfl⟩, by decide +kernel, by decide⟩
theorem d_M_wasInside_15 : Db k_M_wasInside 15 (.ifCond .ne) 18 28 := ⟨13, (by decide +kernel), rfl, by decide⟩
theorem d_M_wasInside_18 : DlA k_M_wasInside 18 0 19 := Or.inl ⟨0, (by decide +kernel), rfl, rfl⟩
theorem d_M_wasInside_19 : DlI k_M_wasInside 19 1 20 := Or.inl ⟨1, (by decide +kernel), rfl, rfl⟩
theorem d_M_wasInside_20 : Dc k_M_wasInside 20 (3) 21 := Or.inl ⟨(by decide +kernel), rfl⟩
theorem d_M_wasInside_21 : DCV k_M_wasInside 21 k_M_of 5 2 24 := ⟨52, (by decide +kernel), rfl, tb_at 669 (by decide +kernel) (by decide +kernel), m_M_of, iv_M_of.1, iv_M_of.2, ⟨(RX6, TX6, 16), rfl, rfl⟩, by decide +kernel, by decide⟩
theorem d_M_wasInside_24 : DlI k_M_wasInside 24 2 25 := Or.inl ⟨2, (by decide +kernel), rfl, rfl⟩
theorem d_M_wasInside_25 : Db k_M_wasInside 25 (.if_icmp .lt) 28 32 := ⟨7, (by decide +kernel), rfl, by decide⟩
theorem d_M_wasInside_28 : Dc k_M_wasInside 28 (1) 29 := Or.inl ⟨(by decide +kernel), rfl⟩
theorem d_M_wasInside_29 : Db k_M_wasInside 29 .goto 32 33 := ⟨4, (by decide +kernel), rfl, by decide⟩
theorem d_M_wasInside_32 : Dc k_M_wasInside 32 (0) 33 := Or.inl ⟨(by decide +kernel), rfl⟩
theorem d_M_wasInside_33 : DrZ k_M_wasInside 33 := ⟨(by decide +kernel), rfl⟩
theorem d_M_roundOf_0 : Dc k_M_roundOf 0 (0) 1 := Or.inl ⟨(by decide +kernel), rfl⟩
theorem d_M_roundOf_1 : DsI k_M_roundOf 1 3 2 := ⟨Or.inl ⟨3, (by decide +kernel), rfl, rfl⟩, by decide⟩
theorem d_M_roundOf_2 : Dc k_M_roundOf 2 (0) 3 := Or.inl ⟨(by decide +kernel), rfl⟩
theorem d_M_roundOf_3 : DsI k_M_roundOf 3 4 5 := ⟨Or.inr ⟨(by decide +kernel), rfl⟩, by decide⟩
theorem d_M_roundOf_5 : DlI k_M_roundOf 5 4 7 := Or.inr ⟨(by decide +kernel), rfl⟩
theorem d_M_roundOf_7 : DlA k_M_roundOf 7 0 8 := Or.inl ⟨0, (by decide +kernel), rfl, rfl⟩
theorem d_M_roundOf_8 : DG k_M_roundOf 8 5 0 11 := ⟨7, (by decide +kernel), f_M_7, rfl⟩
theorem d_M_roundOf_11 : Dc k_M_roundOf 11 (5) 12 := Or.inl ⟨(by decide +kernel), rfl⟩
theorem d_M_roundOf_12 : Dk k_M_roundOf 12 .iaload 1 13 := ⟨(by decide +kernel), rfl⟩
theorem d_M_roundOf_13 : Db k_M_roundOf 13 (.if_icmp .ge) 16 197 := ⟨184, (by decide +kernel), rfl, by decide⟩
theorem d_M_roundOf_16 : DlA k_M_roundOf 16 0 17 := Or.inl ⟨0, (by decide +kernel), rfl, rfl⟩
theorem d_M_roundOf_17 : DlI k_M_roundOf 17 4 19 := Or.inr ⟨(by decide +kernel), rfl⟩
theorem d_M_roundOf_19 : DlI k_M_roundOf 19 1 20 := Or.inl ⟨1, (by decide +kernel), rfl, rfl⟩
theorem d_M_roundOf_20 : DCV k_M_roundOf 20 k_M_wasInside 5 2 23 := ⟨124, (by decide +kernel), rfl, tb_at 756 (by decide +kernel) (by decide +kernel), m_M_wasInside, iv_M_wasInside.1, iv_M_wasInside.2, ⟨(RX6, TX6, 16), rfl, rfl⟩, by decide +kernel, by decide⟩
theorem d_M_roundOf_23 : DsI k_M_roundOf 23 5 25 := ⟨Or.inr ⟨(by decide +kernel), rfl⟩, by decide⟩
theorem d_M_roundOf_25 : DlA k_M_roundOf 25 0 26 := Or.inl ⟨0, (by decide +kernel), rfl, rfl⟩
theorem d_M_roundOf_26 : DlI k_M_roundOf 26 4 28 := Or.inr ⟨(by decide +kernel), rfl⟩
theorem d_M_roundOf_28 : Dc k_M_roundOf 28 (3) 29 := Or.inl ⟨(by decide +kernel), rfl⟩
theorem d_M_roundOf_29 : DCV k_M_roundOf 29 k_M_of 5 2 32 := ⟨52, (by decide +kernel), rfl, tb_at 669 (by decide +kernel) (by decide +kernel), m_M_of, iv_M_of.1, iv_M_of.2, ⟨(RX6, TX6, 16), rfl, rfl⟩, by decide +kernel, by decide⟩
theorem d_M_roundOf_32 : DlI k_M_roundOf 32 1 33 := Or.inl ⟨1, (by decide +kernel), rfl, rfl⟩
theorem d_M_roundOf_33 : Db k_M_roundOf 33 (.if_icmp .ne) 36 40 := ⟨7, (by decide +kernel), rfl, by decide⟩
theorem d_M_roundOf_36 : Dc k_M_roundOf 36 (1) 37 := Or.inl ⟨(by decide +kernel), rfl⟩
theorem d_M_roundOf_37 : Db k_M_roundOf 37 .goto 40 41 := ⟨4, (by decide +kernel), rfl, by decide⟩
theorem d_M_roundOf_40 : Dc k_M_roundOf 40 (0) 41 := Or.inl ⟨(by decide +kernel), rfl⟩
theorem d_M_roundOf_41 : DsI k_M_roundOf 41 6 43 := ⟨Or.inr ⟨(by decide +kernel), rfl⟩, by decide⟩
theorem d_M_roundOf_43 : DlI k_M_roundOf 43 2 44 := Or.inl ⟨2, (by decide +kernel), rfl, rfl⟩
theorem d_M_roundOf_44 : Db k_M_roundOf 44 (.ifCond .ne) 47 52 := ⟨8, (by decide +kernel), rfl, by decide⟩
theorem d_M_roundOf_47 : DlI k_M_roundOf 47 5 49 := Or.inr ⟨(by decide +kernel), rfl⟩
theorem d_M_roundOf_49 : Db k_M_roundOf 49 .goto 52 176 := ⟨127, (by decide +kernel), rfl, by decide⟩
theorem d_M_roundOf_52 : DlI k_M_roundOf 52 2 53 := Or.inl ⟨2, (by decide +kernel), rfl, rfl⟩
theorem d_M_roundOf_53 : Dc k_M_roundOf 53 (1) 54 := Or.inl ⟨(by decide +kernel), rfl⟩
theorem d_M_roundOf_54 : Db k_M_roundOf 54 (.if_icmp .ne) 57 62 := ⟨8, (by decide +kernel), rfl, by decide⟩
theorem d_M_roundOf_57 : DlI k_M_roundOf 57 6 59 := Or.inr ⟨(by decide +kernel), rfl⟩
theorem d_M_roundOf_59 : Db k_M_roundOf 59 .goto 62 176 := ⟨117, (by decide +kernel), rfl, by decide⟩
theorem d_M_roundOf_62 : DlI k_M_roundOf 62 2 63 := Or.inl ⟨2, (by decide +kernel), rfl, rfl⟩
theorem d_M_roundOf_63 : Dc k_M_roundOf 63 (2) 64 := Or.inl ⟨(by decide +kernel), rfl⟩
theorem d_M_roundOf_64 : Db k_M_roundOf 64 (.if_icmp .ne) 67 89 := ⟨25, (by decide +kernel), rfl, by decide⟩
theorem d_M_roundOf_67 : DlI k_M_roundOf 67 6 69 := Or.inr ⟨(by decide +kernel), rfl⟩
theorem d_M_roundOf_69 : Db k_M_roundOf 69 (.ifCond .eq) 72 85 := ⟨16, (by decide +kernel), rfl, by decide⟩
theorem d_M_roundOf_72 : DlA k_M_roundOf 72 0 73 := Or.inl ⟨0, (by decide +kernel), rfl, rfl⟩
theorem d_M_roundOf_73 : DlI k_M_roundOf 73 4 75 := Or.inr ⟨(by decide +kernel), rfl⟩
theorem d_M_roundOf_75 : DCV k_M_roundOf 75 k_M_isOwn 5 1 78 := ⟨127, (by decide +kernel), rfl, tb_at 760 (by decide +kernel) (by decide +kernel), m_M_isOwn, iv_M_isOwn.1, iv_M_isOwn.2, ⟨(RX6, TX6, 16), rfl, rfl⟩, by decide +kernel, by decide⟩
theorem d_M_roundOf_78 : Db k_M_roundOf 78 (.ifCond .eq) 81 85 := ⟨7, (by decide +kernel), rfl, by decide⟩
theorem d_M_roundOf_81 : Dc k_M_roundOf 81 (1) 82 := Or.inl ⟨(by decide +kernel), rfl⟩
theorem d_M_roundOf_82 : Db k_M_roundOf 82 .goto 85 176 := ⟨94, (by decide +kernel), rfl, by decide⟩
theorem d_M_roundOf_85 : Dc k_M_roundOf 85 (0) 86 := Or.inl ⟨(by decide +kernel), rfl⟩
theorem d_M_roundOf_86 : Db k_M_roundOf 86 .goto 89 176 := ⟨90, (by decide +kernel), rfl, by decide⟩
theorem d_M_roundOf_89 : DlI k_M_roundOf 89 2 90 := Or.inl ⟨2, (by decide +kernel), rfl, rfl⟩
theorem d_M_roundOf_90 : Dc k_M_roundOf 90 (3) 91 := Or.inl ⟨(by decide +kernel), rfl⟩
theorem d_M_roundOf_91 : Db k_M_roundOf 91 (.if_icmp .ne) 94 116 := ⟨25, (by decide +kernel), rfl, by decide⟩
theorem d_M_roundOf_94 : DlI k_M_roundOf 94 5 96 := Or.inr ⟨(by decide +kernel), rfl⟩
theorem d_M_roundOf_96 : Db k_M_roundOf 96 (.ifCond .eq) 99 112 := ⟨16, (by decide +kernel), rfl, by decide⟩
theorem d_M_roundOf_99 : DlA k_M_roundOf 99 0 100 := Or.inl ⟨0, (by decide +kernel), rfl, rfl⟩
theorem d_M_roundOf_100 : DlI k_M_roundOf 100 4 102 := Or.inr ⟨(by decide +kernel), rfl⟩
theorem d_M_roundOf_102 : DCV k_M_roundOf 102 k_M_isOwn 5 1 105 := ⟨127, (by decide +kernel), rfl, tb_at 760 (by decide +kernel) (by decide +kernel), m_M_isOwn, iv_M_isOwn.1, iv_M_isOwn.2, ⟨(RX6, TX6, 16), rfl, rfl⟩, by decide +kernel, by decide⟩
theorem d_M_roundOf_105 : Db k_M_roundOf 105 (.ifCond .ne) 108 112 := ⟨7, (by decide +kernel), rfl, by decide⟩
theorem d_M_roundOf_108 : Dc k_M_roundOf 108 (1) 109 := Or.inl ⟨(by decide +kernel), rfl⟩
theorem d_M_roundOf_109 : Db k_M_roundOf 109 .goto 112 176 := ⟨67, (by decide +kernel), rfl, by decide⟩
theorem d_M_roundOf_112 : Dc k_M_roundOf 112 (0) 113 := Or.inl ⟨(by decide +kernel), rfl⟩
theorem d_M_roundOf_113 : Db k_M_roundOf 113 .goto 116 176 := ⟨63, (by decide +kernel), rfl, by decide⟩
theorem d_M_roundOf_116 : DlI k_M_roundOf 116 2 117 := Or.inl ⟨2, (by decide +kernel), rfl, rfl⟩
theorem d_M_roundOf_117 : Dc k_M_roundOf 117 (4) 118 := Or.inl ⟨(by decide +kernel), rfl⟩
theorem d_M_roundOf_118 : Db k_M_roundOf 118 (.if_icmp .ne) 121 143 := ⟨25, (by decide +kernel), rfl, by decide⟩
theorem d_M_roundOf_121 : DlI k_M_roundOf 121 6 123 := Or.inr ⟨(by decide +kernel), rfl⟩
theorem d_M_roundOf_123 : Db k_M_roundOf 123 (.ifCond .eq) 126 139 := ⟨16, (by decide +kernel), rfl, by decide⟩
theorem d_M_roundOf_126 : DlA k_M_roundOf 126 0 127 := Or.inl ⟨0, (by decide +kernel), rfl, rfl⟩
theorem d_M_roundOf_127 : DlI k_M_roundOf 127 4 129 := Or.inr ⟨(by decide +kernel), rfl⟩
theorem d_M_roundOf_129 : DCV k_M_roundOf 129 k_M_isOwn 5 1 132 := ⟨127, (by decide +kernel), rfl, tb_at 760 (by decide +kernel) (by decide +kernel), m_M_isOwn, iv_M_isOwn.1, iv_M_isOwn.2, ⟨(RX6, TX6, 16), rfl, rfl⟩, by decide +kernel, by decide⟩
theorem d_M_roundOf_132 : Db k_M_roundOf 132 (.ifCond .ne) 135 139 := ⟨7, (by decide +kernel), rfl, by decide⟩
theorem d_M_roundOf_135 : Dc k_M_roundOf 135 (1) 136 := Or.inl ⟨(by decide +kernel), rfl⟩
theorem d_M_roundOf_136 : Db k_M_roundOf 136 .goto 139 176 := ⟨40, (by decide +kernel), rfl, by decide⟩
theorem d_M_roundOf_139 : Dc k_M_roundOf 139 (0) 140 := Or.inl ⟨(by decide +kernel), rfl⟩
theorem d_M_roundOf_140 : Db k_M_roundOf 140 .goto 143 176 := ⟨36, (by decide +kernel), rfl, by decide⟩
theorem d_M_roundOf_143 : DlI k_M_roundOf 143 5 145 := Or.inr ⟨(by decide +kernel), rfl⟩
theorem d_M_roundOf_145 : Db k_M_roundOf 145 (.ifCond .eq) 148 175 := ⟨30, (by decide +kernel), rfl, by decide⟩
theorem d_M_roundOf_148 : DlA k_M_roundOf 148 0 149 := Or.inl ⟨0, (by decide +kernel), rfl, rfl⟩
theorem d_M_roundOf_149 : DlI k_M_roundOf 149 4 151 := Or.inr ⟨(by decide +kernel), rfl⟩
theorem d_M_roundOf_151 : Dc k_M_roundOf 151 (0) 152 := Or.inl ⟨(by decide +kernel), rfl⟩
theorem d_M_roundOf_152 : DCV k_M_roundOf 152 k_M_of 5 2 155 := ⟨52, (by decide +kernel), rfl, tb_at 669 (by decide +kernel) (by decide +kernel), m_M_of, iv_M_of.1, iv_M_of.2, ⟨(RX6, TX6, 16), rfl, rfl⟩, by decide +kernel, by decide⟩
theorem d_M_roundOf_155 : Dc k_M_roundOf 155 (8) 157 := Or.inr (Or.inl ⟨(by decide +kernel), by decide, rfl⟩)
theorem d_M_roundOf_157 : Db k_M_roundOf 157 (.if_icmp .ne) 160 175 := ⟨18, (by decide +kernel), rfl, by decide⟩
theorem d_M_roundOf_160 : DlA k_M_roundOf 160 0 161 := Or.inl ⟨0, (by decide +kernel), rfl, rfl⟩
theorem d_M_roundOf_161 : DlI k_M_roundOf 161 4 163 := Or.inr ⟨(by decide +kernel), rfl⟩
theorem d_M_roundOf_163 : Dc k_M_roundOf 163 (2) 164 := Or.inl ⟨(by decide +kernel), rfl⟩
theorem d_M_roundOf_164 : DCV k_M_roundOf 164 k_M_of 5 2 167 := ⟨52, (by decide +kernel), rfl, tb_at 669 (by decide +kernel) (by decide +kernel), m_M_of, iv_M_of.1, iv_M_of.2, ⟨(RX6, TX6, 16), rfl, rfl⟩, by decide +kernel, by decide⟩
theorem d_M_roundOf_167 : DlI k_M_roundOf 167 1 168 := Or.inl ⟨1, (by decide +kernel), rfl, rfl⟩
theorem d_M_roundOf_168 : Db k_M_roundOf 168 (.if_icmp .ne) 171 175 := ⟨7, (by decide +kernel), rfl, by decide⟩
theorem d_M_roundOf_171 : Dc k_M_roundOf 171 (1) 172 := Or.inl ⟨(by decide +kernel), rfl⟩
theorem d_M_roundOf_172 : Db k_M_roundOf 172 .goto 175 176 := ⟨4, (by decide +kernel), rfl, by decide⟩
theorem d_M_roundOf_175 : Dc k_M_roundOf 175 (0) 176 := Or.inl ⟨(by decide +kernel), rfl⟩
theorem d_M_roundOf_176 : DsI k_M_roundOf 176 7 178 := ⟨Or.inr ⟨(by decide +kernel), rfl⟩, by decide⟩
theorem d_M_roundOf_178 : DlI k_M_roundOf 178 3 179 := Or.inl ⟨3, (by decide +kernel), rfl, rfl⟩
theorem d_M_roundOf_179 : DlI k_M_roundOf 179 7 181 := Or.inr ⟨(by decide +kernel), rfl⟩
theorem d_M_roundOf_181 : Db k_M_roundOf 181 (.ifCond .eq) 184 188 := ⟨7, (by decide +kernel), rfl, by decide⟩
theorem d_M_roundOf_184 : Dc k_M_roundOf 184 (1) 185 := Or.inl ⟨(by decide +kernel), rfl⟩
theorem d_M_roundOf_185 : Db k_M_roundOf 185 .goto 188 189 := ⟨4, (by decide +kernel), rfl, by decide⟩
theorem d_M_roundOf_188 : Dc k_M_roundOf 188 (0) 189 := Or.inl ⟨(by decide +kernel), rfl⟩
theorem d_M_roundOf_189 : Dk k_M_roundOf 189 .iadd 1 190 := ⟨(by decide +kernel), rfl⟩
theorem d_M_roundOf_190 : DsI k_M_roundOf 190 3 191 := ⟨Or.inl ⟨3, (by decide +kernel), rfl, rfl⟩, by decide⟩
theorem d_M_roundOf_191 : Dinc k_M_roundOf 191 4 (1) 194 := ⟨(by decide +kernel), rfl, by decide⟩
theorem d_M_roundOf_194 : Db k_M_roundOf 194 .goto 197 5 := ⟨-189, (by decide +kernel), rfl, by decide⟩
theorem d_M_roundOf_197 : DlI k_M_roundOf 197 3 198 := Or.inl ⟨3, (by decide +kernel), rfl, rfl⟩
theorem d_M_roundOf_198 : DrI k_M_roundOf 198 := ⟨(by decide +kernel), rfl⟩
theorem d_M_round_0 : DlA k_M_round 0 0 1 := Or.inl ⟨0, (by decide +kernel), rfl, rfl⟩
theorem d_M_round_1 : DlI k_M_round 1 1 2 := Or.inl ⟨1, (by decide +kernel), rfl, rfl⟩
theorem d_M_round_2 : DCV k_M_round 2 k_M_isRound 5 1 5 := ⟨130, (by decide +kernel), rfl, tb_at 747 (by decide +kernel) (by decide +kernel), m_M_isRound, iv_M_isRound.1, iv_M_isRound.2, ⟨(RX6, TX6, 16), rfl, rfl⟩, by decide +kernel, by decide⟩
theorem d_M_round_5 : Db k_M_round 5 (.ifCond .eq) 8 29 := ⟨24, (by decide +kernel), rfl, by decide⟩
theorem d_M_round_8 : DlI k_M_round 8 2 9 := Or.inl ⟨2, (by decide +kernel), rfl, rfl⟩
theorem d_M_round_9 : Dk k_M_round 9 .i2l 1 10 := ⟨(by decide +kernel), rfl⟩
theorem d_M_round_10 : DcL k_M_round 10 0 11 := Or.inl ⟨0, (by decide +kernel), by decide, rfl⟩
theorem d_M_round_11 : DcL k_M_round 11 (5) 14 := Or.inr ⟨133, (by decide +kernel), tb_at 751 (by decide +kernel) (by decide +kernel), rfl⟩
theorem d_M_round_14 : DCS k_M_round 14 k_M_in 3 17 := ⟨48, (by decide +kernel), rfl, Or.inl (tb_at 654 (by decide +kernel) (by decide +kernel)), m_M_in, is_M_in, by decide +kernel, by decide⟩
theorem d_M_round_17 : Db k_M_round 17 (.ifCond .eq) 20 29 := ⟨12, (by decide +kernel), rfl, by decide⟩
theorem d_M_round_20 : DlA k_M_round 20 0 21 := Or.inl ⟨0, (by decide +kernel), rfl, rfl⟩
theorem d_M_round_21 : DlI k_M_round 21 1 22 := Or.inl ⟨1, (by decide +kernel), rfl, rfl⟩
theorem d_M_round_22 : DlI k_M_round 22 2 23 := Or.inl ⟨2, (by decide +kernel), rfl, rfl⟩
theorem d_M_round_23 : DCV k_M_round 23 k_M_roundOf 5 2 26 := ⟨135, (by decide +kernel), rfl, tb_at 752 (by decide +kernel) (by decide +kernel), m_M_roundOf, iv_M_roundOf.1, iv_M_roundOf.2, ⟨(RX6, TX6, 16), rfl, rfl⟩, by decide +kernel, by decide⟩
theorem d_M_round_26 : Db k_M_round 26 .goto 29 30 := ⟨4, (by decide +kernel), rfl, by decide⟩
theorem d_M_round_29 : Dc k_M_round 29 (-1) 30 := Or.inl ⟨(by decide +kernel), rfl⟩
theorem d_M_round_30 : DrI k_M_round 30 := ⟨(by decide +kernel), rfl⟩
theorem d_M_letterOut_0 : Dc k_M_letterOut 0 (-4) 2 := Or.inr (Or.inl ⟨(by decide +kernel), by decide, rfl⟩)
theorem d_M_letterOut_2 : DsI k_M_letterOut 2 3 3 := ⟨Or.inl ⟨3, (by decide +kernel), rfl, rfl⟩, by decide⟩
theorem d_M_letterOut_3 : Dc k_M_letterOut 3 (0) 4 := Or.inl ⟨(by decide +kernel), rfl⟩
theorem d_M_letterOut_4 : DsI k_M_letterOut 4 4 6 := ⟨Or.inr ⟨(by decide +kernel), rfl⟩, by decide⟩
theorem d_M_letterOut_6 : DlI k_M_letterOut 6 4 8 := Or.inr ⟨(by decide +kernel), rfl⟩
theorem d_M_letterOut_8 : DlA k_M_letterOut 8 0 9 := Or.inl ⟨0, (by decide +kernel), rfl, rfl⟩
theorem d_M_letterOut_9 : DG k_M_letterOut 9 5 0 12 := ⟨7, (by decide +kernel), f_M_7, rfl⟩
theorem d_M_letterOut_12 : Dc k_M_letterOut 12 (5) 13 := Or.inl ⟨(by decide +kernel), rfl⟩
theorem d_M_letterOut_13 : Dk k_M_letterOut 13 .iaload 1 14 := ⟨(by decide +kernel), rfl⟩
theorem d_M_letterOut_14 : Db k_M_letterOut 14 (.if_icmp .ge) 17 52 := ⟨38, (by decide +kernel), rfl, by decide⟩
theorem d_M_letterOut_17 : DlA k_M_letterOut 17 0 18 := Or.inl ⟨0, (by decide +kernel), rfl, rfl⟩
theorem d_M_letterOut_18 : DlI k_M_letterOut 18 4 20 := Or.inr ⟨(by decide +kernel), rfl⟩
theorem d_M_letterOut_20 : Dc k_M_letterOut 20 (3) 21 := Or.inl ⟨(by decide +kernel), rfl⟩
theorem d_M_letterOut_21 : DCV k_M_letterOut 21 k_M_of 5 2 24 := ⟨52, (by decide +kernel), rfl, tb_at 669 (by decide +kernel) (by decide +kernel), m_M_of, iv_M_of.1, iv_M_of.2, ⟨(RX6, TX6, 16), rfl, rfl⟩, by decide +kernel, by decide⟩
theorem d_M_letterOut_24 : DlI k_M_letterOut 24 1 25 := Or.inl ⟨1, (by decide +kernel), rfl, rfl⟩
theorem d_M_letterOut_25 : Db k_M_letterOut 25 (.if_icmp .ne) 28 44 := ⟨19, (by decide +kernel), rfl, by decide⟩
theorem d_M_letterOut_28 : DlA k_M_letterOut 28 0 29 := Or.inl ⟨0, (by decide +kernel), rfl, rfl⟩
theorem d_M_letterOut_29 : DlI k_M_letterOut 29 4 31 := Or.inr ⟨(by decide +kernel), rfl⟩
theorem d_M_letterOut_31 : Dc k_M_letterOut 31 (4) 32 := Or.inl ⟨(by decide +kernel), rfl⟩
theorem d_M_letterOut_32 : DCV k_M_letterOut 32 k_M_of 5 2 35 := ⟨52, (by decide +kernel), rfl, tb_at 669 (by decide +kernel) (by decide +kernel), m_M_of, iv_M_of.1, iv_M_of.2, ⟨(RX6, TX6, 16), rfl, rfl⟩, by decide +kernel, by decide⟩
theorem d_M_letterOut_35 : DlI k_M_letterOut 35 2 36 := Or.inl ⟨2, (by decide +kernel), rfl, rfl⟩
theorem d_M_letterOut_36 : Db k_M_letterOut 36 (.if_icmp .ne) 39 44 := ⟨8, (by decide +kernel), rfl, by decide⟩
theorem d_M_letterOut_39 : DlI k_M_letterOut 39 4 41 := Or.inr ⟨(by decide +kernel), rfl⟩
theorem d_M_letterOut_41 : Db k_M_letterOut 41 .goto 44 45 := ⟨4, (by decide +kernel), rfl, by decide⟩
theorem d_M_letterOut_44 : DlI k_M_letterOut 44 3 45 := Or.inl ⟨3, (by decide +kernel), rfl, rfl⟩
theorem d_M_letterOut_45 : DsI k_M_letterOut 45 3 46 := ⟨Or.inl ⟨3, (by decide +kernel), rfl, rfl⟩, by decide⟩
theorem d_M_letterOut_46 : Dinc k_M_letterOut 46 4 (1) 49 := ⟨(by decide +kernel), rfl, by decide⟩
theorem d_M_letterOut_49 : Db k_M_letterOut 49 .goto 52 6 := ⟨-43, (by decide +kernel), rfl, by decide⟩
theorem d_M_letterOut_52 : DlI k_M_letterOut 52 3 53 := Or.inl ⟨3, (by decide +kernel), rfl, rfl⟩
theorem d_M_letterOut_53 : DrI k_M_letterOut 53 := ⟨(by decide +kernel), rfl⟩
theorem d_M_whole_0 : DcL k_M_whole 0 1 1 := Or.inl ⟨1, (by decide +kernel), by decide, rfl⟩
theorem d_M_whole_1 : DsL k_M_whole 1 1 2 := ⟨Or.inl ⟨1, (by decide +kernel), rfl, rfl⟩, by decide⟩
theorem d_M_whole_2 : Dc k_M_whole 2 (0) 3 := Or.inl ⟨(by decide +kernel), rfl⟩
theorem d_M_whole_3 : DsI k_M_whole 3 3 4 := ⟨Or.inl ⟨3, (by decide +kernel), rfl, rfl⟩, by decide⟩
theorem d_M_whole_4 : DlI k_M_whole 4 3 5 := Or.inl ⟨3, (by decide +kernel), rfl, rfl⟩
theorem d_M_whole_5 : DlA k_M_whole 5 0 6 := Or.inl ⟨0, (by decide +kernel), rfl, rfl⟩
theorem d_M_whole_6 : DG k_M_whole 6 5 0 9 := ⟨7, (by decide +kernel), f_M_7, rfl⟩
theorem d_M_whole_9 : Dc k_M_whole 9 (6) 11 := Or.inr (Or.inl ⟨(by decide +kernel), by decide, rfl⟩)
theorem d_M_whole_11 : Dk k_M_whole 11 .iaload 1 12 := ⟨(by decide +kernel), rfl⟩
theorem d_M_whole_12 : Db k_M_whole 12 (.if_icmp .ge) 15 68 := ⟨56, (by decide +kernel), rfl, by decide⟩
theorem d_M_whole_15 : DlA k_M_whole 15 0 16 := Or.inl ⟨0, (by decide +kernel), rfl, rfl⟩
theorem d_M_whole_16 : DG k_M_whole 16 5 1 19 := ⟨13, (by decide +kernel), f_M_13, rfl⟩
theorem d_M_whole_19 : DlI k_M_whole 19 3 20 := Or.inl ⟨3, (by decide +kernel), rfl, rfl⟩
theorem d_M_whole_20 : DlA k_M_whole 20 0 21 := Or.inl ⟨0, (by decide +kernel), rfl, rfl⟩
theorem d_M_whole_21 : DlI k_M_whole 21 3 22 := Or.inl ⟨3, (by decide +kernel), rfl, rfl⟩
theorem d_M_whole_22 : Dc k_M_whole 22 (3) 23 := Or.inl ⟨(by decide +kernel), rfl⟩
theorem d_M_whole_23 : DCV k_M_whole 23 k_M_roundOf 5 2 26 := ⟨135, (by decide +kernel), rfl, tb_at 752 (by decide +kernel) (by decide +kernel), m_M_roundOf, iv_M_roundOf.1, iv_M_roundOf.2, ⟨(RX6, TX6, 16), rfl, rfl⟩, by decide +kernel, by decide⟩
theorem d_M_whole_26 : Dk k_M_whole 26 .iastore 1 27 := ⟨(by decide +kernel), rfl⟩
theorem d_M_whole_27 : DlA k_M_whole 27 0 28 := Or.inl ⟨0, (by decide +kernel), rfl, rfl⟩
theorem d_M_whole_28 : DG k_M_whole 28 5 2 31 := ⟨16, (by decide +kernel), f_M_16, rfl⟩
theorem d_M_whole_31 : DlI k_M_whole 31 3 32 := Or.inl ⟨3, (by decide +kernel), rfl, rfl⟩
theorem d_M_whole_32 : DlA k_M_whole 32 0 33 := Or.inl ⟨0, (by decide +kernel), rfl, rfl⟩
theorem d_M_whole_33 : DlI k_M_whole 33 3 34 := Or.inl ⟨3, (by decide +kernel), rfl, rfl⟩
theorem d_M_whole_34 : Dc k_M_whole 34 (4) 35 := Or.inl ⟨(by decide +kernel), rfl⟩
theorem d_M_whole_35 : DCV k_M_whole 35 k_M_roundOf 5 2 38 := ⟨135, (by decide +kernel), rfl, tb_at 752 (by decide +kernel) (by decide +kernel), m_M_roundOf, iv_M_roundOf.1, iv_M_roundOf.2, ⟨(RX6, TX6, 16), rfl, rfl⟩, by decide +kernel, by decide⟩
theorem d_M_whole_38 : Dk k_M_whole 38 .iastore 1 39 := ⟨(by decide +kernel), rfl⟩
theorem d_M_whole_39 : DlL k_M_whole 39 1 40 := Or.inl ⟨1, (by decide +kernel), rfl, rfl⟩
theorem d_M_whole_40 : DlA k_M_whole 40 0 41 := Or.inl ⟨0, (by decide +kernel), rfl, rfl⟩
theorem d_M_whole_41 : DG k_M_whole 41 5 1 44 := ⟨13, (by decide +kernel), f_M_13, rfl⟩
theorem d_M_whole_44 : DlI k_M_whole 44 3 45 := Or.inl ⟨3, (by decide +kernel), rfl, rfl⟩
theorem d_M_whole_45 : Dk k_M_whole 45 .iaload 1 46 := ⟨(by decide +kernel), rfl⟩
theorem d_M_whole_46 : Db k_M_whole 46 (.ifCond .le) 49 59 := ⟨13, (by decide +kernel), rfl, by decide⟩
theorem d_M_whole_49 : DlA k_M_whole 49 0 50 := Or.inl ⟨0, (by decide +kernel), rfl, rfl⟩
theorem d_M_whole_50 : DG k_M_whole 50 5 1 53 := ⟨13, (by decide +kernel), f_M_13, rfl⟩
theorem d_M_whole_53 : DlI k_M_whole 53 3 54 := Or.inl ⟨3, (by decide +kernel), rfl, rfl⟩
theorem d_M_whole_54 : Dk k_M_whole 54 .iaload 1 55 := ⟨(by decide +kernel), rfl⟩
theorem d_M_whole_55 : Dk k_M_whole 55 .i2l 1 56 := ⟨(by decide +kernel), rfl⟩
theorem d_M_whole_56 : Db k_M_whole 56 .goto 59 60 := ⟨4, (by decide +kernel), rfl, by decide⟩
theorem d_M_whole_59 : DcL k_M_whole 59 1 60 := Or.inl ⟨1, (by decide +kernel), by decide, rfl⟩
theorem d_M_whole_60 : Dk k_M_whole 60 .lmul 1 61 := ⟨(by decide +kernel), rfl⟩
theorem d_M_whole_61 : DsL k_M_whole 61 1 62 := ⟨Or.inl ⟨1, (by decide +kernel), rfl, rfl⟩, by decide⟩
theorem d_M_whole_62 : Dinc k_M_whole 62 3 (1) 65 := ⟨(by decide +kernel), rfl, by decide⟩
theorem d_M_whole_65 : Db k_M_whole 65 .goto 68 4 := ⟨-61, (by decide +kernel), rfl, by decide⟩
theorem d_M_whole_68 : DlL k_M_whole 68 1 69 := Or.inl ⟨1, (by decide +kernel), rfl, rfl⟩
theorem d_M_whole_69 : DrL k_M_whole 69 := ⟨(by decide +kernel), rfl⟩
theorem d_M_leftOf_0 : DlL k_M_leftOf 0 1 1 := Or.inl ⟨1, (by decide +kernel), rfl, rfl⟩
theorem d_M_leftOf_1 : DsL k_M_leftOf 1 5 3 := ⟨Or.inr ⟨(by decide +kernel), rfl⟩, by decide⟩
theorem d_M_leftOf_3 : DlA k_M_leftOf 3 0 4 := Or.inl ⟨0, (by decide +kernel), rfl, rfl⟩
theorem d_M_leftOf_4 : DlI k_M_leftOf 4 3 5 := Or.inl ⟨3, (by decide +kernel), rfl, rfl⟩
theorem d_M_leftOf_5 : Dc k_M_leftOf 5 (2) 6 := Or.inl ⟨(by decide +kernel), rfl⟩
theorem d_M_leftOf_6 : DCV k_M_leftOf 6 k_M_of 5 2 9 := ⟨52, (by decide +kernel), rfl, tb_at 669 (by decide +kernel) (by decide +kernel), m_M_of, iv_M_of.1, iv_M_of.2, ⟨(RX6, TX6, 16), rfl, rfl⟩, by decide +kernel, by decide⟩
theorem d_M_leftOf_9 : DsI k_M_leftOf 9 7 11 := ⟨Or.inr ⟨(by decide +kernel), rfl⟩, by decide⟩
theorem d_M_leftOf_11 : DlI k_M_leftOf 11 7 13 := Or.inr ⟨(by decide +kernel), rfl⟩
theorem d_M_leftOf_13 : DlI k_M_leftOf 13 4 15 := Or.inr ⟨(by decide +kernel), rfl⟩
theorem d_M_leftOf_15 : Db k_M_leftOf 15 (.if_icmp .ge) 18 61 := ⟨46, (by decide +kernel), rfl, by decide⟩
theorem d_M_leftOf_18 : DlL k_M_leftOf 18 5 20 := Or.inr ⟨(by decide +kernel), rfl⟩
theorem d_M_leftOf_20 : DcL k_M_leftOf 20 0 21 := Or.inl ⟨0, (by decide +kernel), by decide, rfl⟩
theorem d_M_leftOf_21 : Dk k_M_leftOf 21 .lcmp 1 22 := ⟨(by decide +kernel), rfl⟩
theorem d_M_leftOf_22 : Db k_M_leftOf 22 (.ifCond .le) 25 61 := ⟨39, (by decide +kernel), rfl, by decide⟩
theorem d_M_leftOf_25 : DlL k_M_leftOf 25 5 27 := Or.inr ⟨(by decide +kernel), rfl⟩
theorem d_M_leftOf_27 : DlA k_M_leftOf 27 0 28 := Or.inl ⟨0, (by decide +kernel), rfl, rfl⟩
theorem d_M_leftOf_28 : DG k_M_leftOf 28 5 1 31 := ⟨13, (by decide +kernel), f_M_13, rfl⟩
theorem d_M_leftOf_31 : DlI k_M_leftOf 31 7 33 := Or.inr ⟨(by decide +kernel), rfl⟩
theorem d_M_leftOf_33 : Dk k_M_leftOf 33 .iaload 1 34 := ⟨(by decide +kernel), rfl⟩
theorem d_M_leftOf_34 : Dk k_M_leftOf 34 .i2l 1 35 := ⟨(by decide +kernel), rfl⟩
theorem d_M_leftOf_35 : Dk k_M_leftOf 35 .ldiv 1 36 := ⟨(by decide +kernel), rfl⟩
theorem d_M_leftOf_36 : DlA k_M_leftOf 36 0 37 := Or.inl ⟨0, (by decide +kernel), rfl, rfl⟩
theorem d_M_leftOf_37 : DG k_M_leftOf 37 5 1 40 := ⟨13, (by decide +kernel), f_M_13, rfl⟩
theorem d_M_leftOf_40 : DlI k_M_leftOf 40 7 42 := Or.inr ⟨(by decide +kernel), rfl⟩
theorem d_M_leftOf_42 : Dk k_M_leftOf 42 .iaload 1 43 := ⟨(by decide +kernel), rfl⟩
theorem d_M_leftOf_43 : DlA k_M_leftOf 43 0 44 := Or.inl ⟨0, (by decide +kernel), rfl, rfl⟩
theorem d_M_leftOf_44 : DG k_M_leftOf 44 5 2 47 := ⟨16, (by decide +kernel), f_M_16, rfl⟩
theorem d_M_leftOf_47 : DlI k_M_leftOf 47 7 49 := Or.inr ⟨(by decide +kernel), rfl⟩
theorem d_M_leftOf_49 : Dk k_M_leftOf 49 .iaload 1 50 := ⟨(by decide +kernel), rfl⟩
theorem d_M_leftOf_50 : Dk k_M_leftOf 50 .isub 1 51 := ⟨(by decide +kernel), rfl⟩
theorem d_M_leftOf_51 : Dk k_M_leftOf 51 .i2l 1 52 := ⟨(by decide +kernel), rfl⟩
theorem d_M_leftOf_52 : Dk k_M_leftOf 52 .lmul 1 53 := ⟨(by decide +kernel), rfl⟩
theorem d_M_leftOf_53 : DsL k_M_leftOf 53 5 55 := ⟨Or.inr ⟨(by decide +kernel), rfl⟩, by decide⟩
theorem d_M_leftOf_55 : Dinc k_M_leftOf 55 7 (1) 58 := ⟨(by decide +kernel), rfl, by decide⟩
theorem d_M_leftOf_58 : Db k_M_leftOf 58 .goto 61 11 := ⟨-47, (by decide +kernel), rfl, by decide⟩
theorem d_M_leftOf_61 : DlL k_M_leftOf 61 5 63 := Or.inr ⟨(by decide +kernel), rfl⟩
theorem d_M_leftOf_63 : DrL k_M_leftOf 63 := ⟨(by decide +kernel), rfl⟩
theorem d_M_chanceOf_0 : DlA k_M_chanceOf 0 0 1 := Or.inl ⟨0, (by decide +kernel), rfl, rfl⟩
theorem d_M_chanceOf_1 : DlI k_M_chanceOf 1 3 2 := Or.inl ⟨3, (by decide +kernel), rfl, rfl⟩
theorem d_M_chanceOf_2 : DCV k_M_chanceOf 2 k_M_isOwn 5 1 5 := ⟨127, (by decide +kernel), rfl, tb_at 760 (by decide +kernel) (by decide +kernel), m_M_isOwn, iv_M_isOwn.1, iv_M_isOwn.2, ⟨(RX6, TX6, 16), rfl, rfl⟩, by decide +kernel, by decide⟩
theorem d_M_chanceOf_5 : Db k_M_chanceOf 5 (.ifCond .eq) 8 20 := ⟨15, (by decide +kernel), rfl, by decide⟩
theorem d_M_chanceOf_8 : DlI k_M_chanceOf 8 5 10 := Or.inr ⟨(by decide +kernel), rfl⟩
theorem d_M_chanceOf_10 : DlI k_M_chanceOf 10 3 11 := Or.inl ⟨3, (by decide +kernel), rfl, rfl⟩
theorem d_M_chanceOf_11 : Db k_M_chanceOf 11 (.if_icmp .ne) 14 18 := ⟨7, (by decide +kernel), rfl, by decide⟩
theorem d_M_chanceOf_14 : DlL k_M_chanceOf 14 1 15 := Or.inl ⟨1, (by decide +kernel), rfl, rfl⟩
theorem d_M_chanceOf_15 : Db k_M_chanceOf 15 .goto 18 19 := ⟨4, (by decide +kernel), rfl, by decide⟩
theorem d_M_chanceOf_18 : DcL k_M_chanceOf 18 0 19 := Or.inl ⟨0, (by decide +kernel), by decide, rfl⟩
theorem d_M_chanceOf_19 : DrL k_M_chanceOf 19 := ⟨(by decide +kernel), rfl⟩
theorem d_M_chanceOf_20 : DlA k_M_chanceOf 20 0 21 := Or.inl ⟨0, (by decide +kernel), rfl, rfl⟩
theorem d_M_chanceOf_21 : DlI k_M_chanceOf 21 5 23 := Or.inr ⟨(by decide +kernel), rfl⟩
theorem d_M_chanceOf_23 : DCV k_M_chanceOf 23 k_M_isOwn 5 1 26 := ⟨127, (by decide +kernel), rfl, tb_at 760 (by decide +kernel) (by decide +kernel), m_M_isOwn, iv_M_isOwn.1, iv_M_isOwn.2, ⟨(RX6, TX6, 16), rfl, rfl⟩, by decide +kernel, by decide⟩
theorem d_M_chanceOf_26 : Db k_M_chanceOf 26 (.ifCond .ne) 29 41 := ⟨15, (by decide +kernel), rfl, by decide⟩
theorem d_M_chanceOf_29 : DlA k_M_chanceOf 29 0 30 := Or.inl ⟨0, (by decide +kernel), rfl, rfl⟩
theorem d_M_chanceOf_30 : DlI k_M_chanceOf 30 5 32 := Or.inr ⟨(by decide +kernel), rfl⟩
theorem d_M_chanceOf_32 : Dc k_M_chanceOf 32 (2) 33 := Or.inl ⟨(by decide +kernel), rfl⟩
theorem d_M_chanceOf_33 : DCV k_M_chanceOf 33 k_M_of 5 2 36 := ⟨52, (by decide +kernel), rfl, tb_at 669 (by decide +kernel) (by decide +kernel), m_M_of, iv_M_of.1, iv_M_of.2, ⟨(RX6, TX6, 16), rfl, rfl⟩, by decide +kernel, by decide⟩
theorem d_M_chanceOf_36 : DlI k_M_chanceOf 36 4 38 := Or.inr ⟨(by decide +kernel), rfl⟩
theorem d_M_chanceOf_38 : Db k_M_chanceOf 38 (.if_icmp .le) 41 43 := ⟨5, (by decide +kernel), rfl, by decide⟩
theorem d_M_chanceOf_41 : DcL k_M_chanceOf 41 0 42 := Or.inl ⟨0, (by decide +kernel), by decide, rfl⟩
theorem d_M_chanceOf_42 : DrL k_M_chanceOf 42 := ⟨(by decide +kernel), rfl⟩
theorem d_M_chanceOf_43 : DlA k_M_chanceOf 43 0 44 := Or.inl ⟨0, (by decide +kernel), rfl, rfl⟩
theorem d_M_chanceOf_44 : DlL k_M_chanceOf 44 1 45 := Or.inl ⟨1, (by decide +kernel), rfl, rfl⟩
theorem d_M_chanceOf_45 : DlI k_M_chanceOf 45 5 47 := Or.inr ⟨(by decide +kernel), rfl⟩
theorem d_M_chanceOf_47 : DlI k_M_chanceOf 47 4 49 := Or.inr ⟨(by decide +kernel), rfl⟩
theorem d_M_chanceOf_49 : DCV k_M_chanceOf 49 k_M_leftOf 5 3 52 := ⟨138, (by decide +kernel), rfl, tb_at 781 (by decide +kernel) (by decide +kernel), m_M_leftOf, iv_M_leftOf.1, iv_M_leftOf.2, ⟨(RX6, TX6, 16), rfl, rfl⟩, by decide +kernel, by decide⟩
theorem d_M_chanceOf_52 : DlA k_M_chanceOf 52 0 53 := Or.inl ⟨0, (by decide +kernel), rfl, rfl⟩
theorem d_M_chanceOf_53 : DG k_M_chanceOf 53 5 1 56 := ⟨13, (by decide +kernel), f_M_13, rfl⟩
theorem d_M_chanceOf_56 : DlI k_M_chanceOf 56 4 58 := Or.inr ⟨(by decide +kernel), rfl⟩
theorem d_M_chanceOf_58 : Dk k_M_chanceOf 58 .iaload 1 59 := ⟨(by decide +kernel), rfl⟩
theorem d_M_chanceOf_59 : Dk k_M_chanceOf 59 .i2l 1 60 := ⟨(by decide +kernel), rfl⟩
theorem d_M_chanceOf_60 : Dk k_M_chanceOf 60 .ldiv 1 61 := ⟨(by decide +kernel), rfl⟩
theorem d_M_chanceOf_61 : DrL k_M_chanceOf 61 := ⟨(by decide +kernel), rfl⟩
theorem d_M_senderOf_0 : DcL k_M_senderOf 0 0 1 := Or.inl ⟨0, (by decide +kernel), by decide, rfl⟩
theorem d_M_senderOf_1 : DsL k_M_senderOf 1 6 3 := ⟨Or.inr ⟨(by decide +kernel), rfl⟩, by decide⟩
theorem d_M_senderOf_3 : Dc k_M_senderOf 3 (0) 4 := Or.inl ⟨(by decide +kernel), rfl⟩
theorem d_M_senderOf_4 : DsI k_M_senderOf 4 8 6 := ⟨Or.inr ⟨(by decide +kernel), rfl⟩, by decide⟩
theorem d_M_senderOf_6 : DlI k_M_senderOf 6 8 8 := Or.inr ⟨(by decide +kernel), rfl⟩
theorem d_M_senderOf_8 : DlA k_M_senderOf 8 0 9 := Or.inl ⟨0, (by decide +kernel), rfl, rfl⟩
theorem d_M_senderOf_9 : DG k_M_senderOf 9 5 0 12 := ⟨7, (by decide +kernel), f_M_7, rfl⟩
theorem d_M_senderOf_12 : Dc k_M_senderOf 12 (5) 13 := Or.inl ⟨(by decide +kernel), rfl⟩
theorem d_M_senderOf_13 : Dk k_M_senderOf 13 .iaload 1 14 := ⟨(by decide +kernel), rfl⟩
theorem d_M_senderOf_14 : Db k_M_senderOf 14 (.if_icmp .ge) 17 54 := ⟨40, (by decide +kernel), rfl, by decide⟩
theorem d_M_senderOf_17 : DlL k_M_senderOf 17 6 19 := Or.inr ⟨(by decide +kernel), rfl⟩
theorem d_M_senderOf_19 : DlA k_M_senderOf 19 0 20 := Or.inl ⟨0, (by decide +kernel), rfl, rfl⟩
theorem d_M_senderOf_20 : DlI k_M_senderOf 20 8 22 := Or.inr ⟨(by decide +kernel), rfl⟩
theorem d_M_senderOf_22 : Dc k_M_senderOf 22 (0) 23 := Or.inl ⟨(by decide +kernel), rfl⟩
theorem d_M_senderOf_23 : DCV k_M_senderOf 23 k_M_of 5 2 26 := ⟨52, (by decide +kernel), rfl, tb_at 669 (by decide +kernel) (by decide +kernel), m_M_of, iv_M_of.1, iv_M_of.2, ⟨(RX6, TX6, 16), rfl, rfl⟩, by decide +kernel, by decide⟩
theorem d_M_senderOf_26 : DlI k_M_senderOf 26 5 28 := Or.inr ⟨(by decide +kernel), rfl⟩
theorem d_M_senderOf_28 : Db k_M_senderOf 28 (.if_icmp .ne) 31 44 := ⟨16, (by decide +kernel), rfl, by decide⟩
theorem d_M_senderOf_31 : DlA k_M_senderOf 31 0 32 := Or.inl ⟨0, (by decide +kernel), rfl, rfl⟩
theorem d_M_senderOf_32 : DlL k_M_senderOf 32 1 33 := Or.inl ⟨1, (by decide +kernel), rfl, rfl⟩
theorem d_M_senderOf_33 : DlI k_M_senderOf 33 3 34 := Or.inl ⟨3, (by decide +kernel), rfl, rfl⟩
theorem d_M_senderOf_34 : DlI k_M_senderOf 34 4 36 := Or.inr ⟨(by decide +kernel), rfl⟩
theorem d_M_senderOf_36 : DlI k_M_senderOf 36 8 38 := Or.inr ⟨(by decide +kernel), rfl⟩
theorem d_M_senderOf_38 : DCV k_M_senderOf 38 k_M_chanceOf 5 4 41 := ⟨142, (by decide +kernel), rfl, tb_at 777 (by decide +kernel) (by decide +kernel), m_M_chanceOf, iv_M_chanceOf.1, iv_M_chanceOf.2, ⟨(RX6, TX6, 16), rfl, rfl⟩, by decide +kernel, by decide⟩
theorem d_M_senderOf_41 : Db k_M_senderOf 41 .goto 44 45 := ⟨4, (by decide +kernel), rfl, by decide⟩
theorem d_M_senderOf_44 : DcL k_M_senderOf 44 0 45 := Or.inl ⟨0, (by decide +kernel), by decide, rfl⟩
theorem d_M_senderOf_45 : Dk k_M_senderOf 45 .ladd 1 46 := ⟨(by decide +kernel), rfl⟩
theorem d_M_senderOf_46 : DsL k_M_senderOf 46 6 48 := ⟨Or.inr ⟨(by decide +kernel), rfl⟩, by decide⟩
theorem d_M_senderOf_48 : Dinc k_M_senderOf 48 8 (1) 51 := ⟨(by decide +kernel), rfl, by decide⟩
theorem d_M_senderOf_51 : Db k_M_senderOf 51 .goto 54 6 := ⟨-45, (by decide +kernel), rfl, by decide⟩
theorem d_M_senderOf_54 : DlL k_M_senderOf 54 6 56 := Or.inr ⟨(by decide +kernel), rfl⟩
theorem d_M_senderOf_56 : DrL k_M_senderOf 56 := ⟨(by decide +kernel), rfl⟩
theorem d_M_fraction_0 : DlL k_M_fraction 0 0 1 := Or.inl ⟨0, (by decide +kernel), rfl, rfl⟩
theorem d_M_fraction_1 : DsL k_M_fraction 1 5 3 := ⟨Or.inr ⟨(by decide +kernel), rfl⟩, by decide⟩
theorem d_M_fraction_3 : DlL k_M_fraction 3 2 4 := Or.inl ⟨2, (by decide +kernel), rfl, rfl⟩
theorem d_M_fraction_4 : DsL k_M_fraction 4 7 6 := ⟨Or.inr ⟨(by decide +kernel), rfl⟩, by decide⟩
theorem d_M_fraction_6 : DlL k_M_fraction 6 7 8 := Or.inr ⟨(by decide +kernel), rfl⟩
theorem d_M_fraction_8 : DcL k_M_fraction 8 0 9 := Or.inl ⟨0, (by decide +kernel), by decide, rfl⟩
theorem d_M_fraction_9 : Dk k_M_fraction 9 .lcmp 1 10 := ⟨(by decide +kernel), rfl⟩
theorem d_M_fraction_10 : Db k_M_fraction 10 (.ifCond .eq) 13 31 := ⟨21, (by decide +kernel), rfl, by decide⟩
theorem d_M_fraction_13 : DlL k_M_fraction 13 5 15 := Or.inr ⟨(by decide +kernel), rfl⟩
theorem d_M_fraction_15 : DlL k_M_fraction 15 7 17 := Or.inr ⟨(by decide +kernel), rfl⟩
theorem d_M_fraction_17 : Dk k_M_fraction 17 .lrem 1 18 := ⟨(by decide +kernel), rfl⟩
theorem d_M_fraction_18 : DsL k_M_fraction 18 9 20 := ⟨Or.inr ⟨(by decide +kernel), rfl⟩, by decide⟩
theorem d_M_fraction_20 : DlL k_M_fraction 20 7 22 := Or.inr ⟨(by decide +kernel), rfl⟩
theorem d_M_fraction_22 : DsL k_M_fraction 22 5 24 := ⟨Or.inr ⟨(by decide +kernel), rfl⟩, by decide⟩
theorem d_M_fraction_24 : DlL k_M_fraction 24 9 26 := Or.inr ⟨(by decide +kernel), rfl⟩
theorem d_M_fraction_26 : DsL k_M_fraction 26 7 28 := ⟨Or.inr ⟨(by decide +kernel), rfl⟩, by decide⟩
theorem d_M_fraction_28 : Db k_M_fraction 28 .goto 31 6 := ⟨-22, (by decide +kernel), rfl, by decide⟩
theorem d_M_fraction_31 : DlI k_M_fraction 31 4 33 := Or.inr ⟨(by decide +kernel), rfl⟩
theorem d_M_fraction_33 : Db k_M_fraction 33 (.ifCond .ne) 36 40 := ⟨7, (by decide +kernel), rfl, by decide⟩
theorem d_M_fraction_36 : DlL k_M_fraction 36 0 37 := Or.inl ⟨0, (by decide +kernel), rfl, rfl⟩
theorem d_M_fraction_37 : Db k_M_fraction 37 .goto 40 41 := ⟨4, (by decide +kernel), rfl, by decide⟩
theorem d_M_fraction_40 : DlL k_M_fraction 40 2 41 := Or.inl ⟨2, (by decide +kernel), rfl, rfl⟩
theorem d_M_fraction_41 : DlL k_M_fraction 41 5 43 := Or.inr ⟨(by decide +kernel), rfl⟩
theorem d_M_fraction_43 : Dk k_M_fraction 43 .ldiv 1 44 := ⟨(by decide +kernel), rfl⟩
theorem d_M_fraction_44 : DrL k_M_fraction 44 := ⟨(by decide +kernel), rfl⟩
theorem d_M_out_0 : DlA k_M_out 0 0 1 := Or.inl ⟨0, (by decide +kernel), rfl, rfl⟩
theorem d_M_out_1 : DlI k_M_out 1 1 2 := Or.inl ⟨1, (by decide +kernel), rfl, rfl⟩
theorem d_M_out_2 : DCV k_M_out 2 k_M_isRound 5 1 5 := ⟨130, (by decide +kernel), rfl, tb_at 747 (by decide +kernel) (by decide +kernel), m_M_isRound, iv_M_isRound.1, iv_M_isRound.2, ⟨(RX6, TX6, 16), rfl, rfl⟩, by decide +kernel, by decide⟩
theorem d_M_out_5 : Db k_M_out 5 (.ifCond .eq) 8 17 := ⟨12, (by decide +kernel), rfl, by decide⟩
theorem d_M_out_8 : DlA k_M_out 8 0 9 := Or.inl ⟨0, (by decide +kernel), rfl, rfl⟩
theorem d_M_out_9 : DlI k_M_out 9 1 10 := Or.inl ⟨1, (by decide +kernel), rfl, rfl⟩
theorem d_M_out_10 : DlI k_M_out 10 2 11 := Or.inl ⟨2, (by decide +kernel), rfl, rfl⟩
theorem d_M_out_11 : DCV k_M_out 11 k_M_letterOut 5 2 14 := ⟨146, (by decide +kernel), rfl, tb_at 768 (by decide +kernel) (by decide +kernel), m_M_letterOut, iv_M_letterOut.1, iv_M_letterOut.2, ⟨(RX6, TX6, 16), rfl, rfl⟩, by decide +kernel, by decide⟩
theorem d_M_out_14 : Db k_M_out 14 .goto 17 19 := ⟨5, (by decide +kernel), rfl, by decide⟩
theorem d_M_out_17 : Dc k_M_out 17 (-4) 19 := Or.inr (Or.inl ⟨(by decide +kernel), by decide, rfl⟩)
theorem d_M_out_19 : DsI k_M_out 19 4 21 := ⟨Or.inr ⟨(by decide +kernel), rfl⟩, by decide⟩
theorem d_M_out_21 : DlI k_M_out 21 4 23 := Or.inr ⟨(by decide +kernel), rfl⟩
theorem d_M_out_23 : Db k_M_out 23 (.ifCond .lt) 26 42 := ⟨19, (by decide +kernel), rfl, by decide⟩
theorem d_M_out_26 : DlI k_M_out 26 2 27 := Or.inl ⟨2, (by decide +kernel), rfl, rfl⟩
theorem d_M_out_27 : Db k_M_out 27 (.ifCond .lt) 30 42 := ⟨15, (by decide +kernel), rfl, by decide⟩
theorem d_M_out_30 : DlI k_M_out 30 3 31 := Or.inl ⟨3, (by decide +kernel), rfl, rfl⟩
theorem d_M_out_31 : Dk k_M_out 31 .i2l 1 32 := ⟨(by decide +kernel), rfl⟩
theorem d_M_out_32 : DcL k_M_out 32 0 33 := Or.inl ⟨0, (by decide +kernel), by decide, rfl⟩
theorem d_M_out_33 : DcL k_M_out 33 (3) 36 := Or.inr ⟨111, (by decide +kernel), tb_at 724 (by decide +kernel) (by decide +kernel), rfl⟩
theorem d_M_out_36 : DCS k_M_out 36 k_M_in 3 39 := ⟨48, (by decide +kernel), rfl, Or.inl (tb_at 654 (by decide +kernel) (by decide +kernel)), m_M_in, is_M_in, by decide +kernel, by decide⟩
theorem d_M_out_39 : Db k_M_out 39 (.ifCond .ne) 42 44 := ⟨5, (by decide +kernel), rfl, by decide⟩
theorem d_M_out_42 : Dc k_M_out 42 (-1) 43 := Or.inl ⟨(by decide +kernel), rfl⟩
theorem d_M_out_43 : DrI k_M_out 43 := ⟨(by decide +kernel), rfl⟩
theorem d_M_out_44 : DlI k_M_out 44 3 45 := Or.inl ⟨3, (by decide +kernel), rfl, rfl⟩
theorem d_M_out_45 : Dc k_M_out 45 (2) 46 := Or.inl ⟨(by decide +kernel), rfl⟩
theorem d_M_out_46 : Db k_M_out 46 (.if_icmp .ge) 49 66 := ⟨20, (by decide +kernel), rfl, by decide⟩
theorem d_M_out_49 : DlI k_M_out 49 3 50 := Or.inl ⟨3, (by decide +kernel), rfl, rfl⟩
theorem d_M_out_50 : Db k_M_out 50 (.ifCond .ne) 53 58 := ⟨8, (by decide +kernel), rfl, by decide⟩
theorem d_M_out_53 : DlI k_M_out 53 4 55 := Or.inr ⟨(by decide +kernel), rfl⟩
theorem d_M_out_55 : Db k_M_out 55 .goto 58 65 := ⟨10, (by decide +kernel), rfl, by decide⟩
theorem d_M_out_58 : DlA k_M_out 58 0 59 := Or.inl ⟨0, (by decide +kernel), rfl, rfl⟩
theorem d_M_out_59 : DlI k_M_out 59 4 61 := Or.inr ⟨(by decide +kernel), rfl⟩
theorem d_M_out_61 : Dc k_M_out 61 (1) 62 := Or.inl ⟨(by decide +kernel), rfl⟩
theorem d_M_out_62 : DCV k_M_out 62 k_M_of 5 2 65 := ⟨52, (by decide +kernel), rfl, tb_at 669 (by decide +kernel) (by decide +kernel), m_M_of, iv_M_of.1, iv_M_of.2, ⟨(RX6, TX6, 16), rfl, rfl⟩, by decide +kernel, by decide⟩
theorem d_M_out_65 : DrI k_M_out 65 := ⟨(by decide +kernel), rfl⟩
theorem d_M_out_66 : DlA k_M_out 66 0 67 := Or.inl ⟨0, (by decide +kernel), rfl, rfl⟩
theorem d_M_out_67 : DCV k_M_out 67 k_M_whole 5 0 70 := ⟨149, (by decide +kernel), rfl, tb_at 772 (by decide +kernel) (by decide +kernel), m_M_whole, iv_M_whole.1, iv_M_whole.2, ⟨(RX6, TX6, 16), rfl, rfl⟩, by decide +kernel, by decide⟩
theorem d_M_out_70 : DsL k_M_out 70 5 72 := ⟨Or.inr ⟨(by decide +kernel), rfl⟩, by decide⟩
theorem d_M_out_72 : Dc k_M_out 72 (0) 73 := Or.inl ⟨(by decide +kernel), rfl⟩
theorem d_M_out_73 : DsI k_M_out 73 7 75 := ⟨Or.inr ⟨(by decide +kernel), rfl⟩, by decide⟩
theorem d_M_out_75 : Dc k_M_out 75 (0) 76 := Or.inl ⟨(by decide +kernel), rfl⟩
theorem d_M_out_76 : DsI k_M_out 76 8 78 := ⟨Or.inr ⟨(by decide +kernel), rfl⟩, by decide⟩
theorem d_M_out_78 : DcL k_M_out 78 (-1) 81 := Or.inr ⟨153, (by decide +kernel), tb_at 776 (by decide +kernel) (by decide +kernel), rfl⟩
theorem d_M_out_81 : DsL k_M_out 81 9 83 := ⟨Or.inr ⟨(by decide +kernel), rfl⟩, by decide⟩
theorem d_M_out_83 : Dc k_M_out 83 (0) 84 := Or.inl ⟨(by decide +kernel), rfl⟩
theorem d_M_out_84 : DsI k_M_out 84 11 86 := ⟨Or.inr ⟨(by decide +kernel), rfl⟩, by decide⟩
theorem d_M_out_86 : DlI k_M_out 86 11 88 := Or.inr ⟨(by decide +kernel), rfl⟩
theorem d_M_out_88 : DlA k_M_out 88 0 89 := Or.inl ⟨0, (by decide +kernel), rfl, rfl⟩
theorem d_M_out_89 : DG k_M_out 89 5 0 92 := ⟨7, (by decide +kernel), f_M_7, rfl⟩
theorem d_M_out_92 : Dc k_M_out 92 (5) 93 := Or.inl ⟨(by decide +kernel), rfl⟩
theorem d_M_out_93 : Dk k_M_out 93 .iaload 1 94 := ⟨(by decide +kernel), rfl⟩
theorem d_M_out_94 : Db k_M_out 94 (.if_icmp .ge) 97 167 := ⟨73, (by decide +kernel), rfl, by decide⟩
theorem d_M_out_97 : DlA k_M_out 97 0 98 := Or.inl ⟨0, (by decide +kernel), rfl, rfl⟩
theorem d_M_out_98 : DlL k_M_out 98 5 100 := Or.inr ⟨(by decide +kernel), rfl⟩
theorem d_M_out_100 : DlI k_M_out 100 4 102 := Or.inr ⟨(by decide +kernel), rfl⟩
theorem d_M_out_102 : DlI k_M_out 102 1 103 := Or.inl ⟨1, (by decide +kernel), rfl, rfl⟩
theorem d_M_out_103 : DlI k_M_out 103 11 105 := Or.inr ⟨(by decide +kernel), rfl⟩
theorem d_M_out_105 : DCV k_M_out 105 k_M_chanceOf 5 4 108 := ⟨142, (by decide +kernel), rfl, tb_at 777 (by decide +kernel) (by decide +kernel), m_M_chanceOf, iv_M_chanceOf.1, iv_M_chanceOf.2, ⟨(RX6, TX6, 16), rfl, rfl⟩, by decide +kernel, by decide⟩
theorem d_M_out_108 : DsL k_M_out 108 12 110 := ⟨Or.inr ⟨(by decide +kernel), rfl⟩, by decide⟩
theorem d_M_out_110 : DlI k_M_out 110 7 112 := Or.inr ⟨(by decide +kernel), rfl⟩
theorem d_M_out_112 : DlL k_M_out 112 12 114 := Or.inr ⟨(by decide +kernel), rfl⟩
theorem d_M_out_114 : DcL k_M_out 114 0 115 := Or.inl ⟨0, (by decide +kernel), by decide, rfl⟩
theorem d_M_out_115 : Dk k_M_out 115 .lcmp 1 116 := ⟨(by decide +kernel), rfl⟩
theorem d_M_out_116 : Db k_M_out 116 (.ifCond .le) 119 123 := ⟨7, (by decide +kernel), rfl, by decide⟩
theorem d_M_out_119 : Dc k_M_out 119 (1) 120 := Or.inl ⟨(by decide +kernel), rfl⟩
theorem d_M_out_120 : Db k_M_out 120 .goto 123 124 := ⟨4, (by decide +kernel), rfl, by decide⟩
theorem d_M_out_123 : Dc k_M_out 123 (0) 124 := Or.inl ⟨(by decide +kernel), rfl⟩
theorem d_M_out_124 : Dk k_M_out 124 .iadd 1 125 := ⟨(by decide +kernel), rfl⟩
theorem d_M_out_125 : DsI k_M_out 125 7 127 := ⟨Or.inr ⟨(by decide +kernel), rfl⟩, by decide⟩
theorem d_M_out_127 : DlL k_M_out 127 12 129 := Or.inr ⟨(by decide +kernel), rfl⟩
theorem d_M_out_129 : DlL k_M_out 129 9 131 := Or.inr ⟨(by decide +kernel), rfl⟩
theorem d_M_out_131 : Dk k_M_out 131 .lcmp 1 132 := ⟨(by decide +kernel), rfl⟩
theorem d_M_out_132 : Db k_M_out 132 (.ifCond .le) 135 140 := ⟨8, (by decide +kernel), rfl, by decide⟩
theorem d_M_out_135 : DlI k_M_out 135 11 137 := Or.inr ⟨(by decide +kernel), rfl⟩
theorem d_M_out_137 : Db k_M_out 137 .goto 140 142 := ⟨5, (by decide +kernel), rfl, by decide⟩
theorem d_M_out_140 : DlI k_M_out 140 8 142 := Or.inr ⟨(by decide +kernel), rfl⟩
theorem d_M_out_142 : DsI k_M_out 142 8 144 := ⟨Or.inr ⟨(by decide +kernel), rfl⟩, by decide⟩
theorem d_M_out_144 : DlL k_M_out 144 12 146 := Or.inr ⟨(by decide +kernel), rfl⟩
theorem d_M_out_146 : DlL k_M_out 146 9 148 := Or.inr ⟨(by decide +kernel), rfl⟩
theorem d_M_out_148 : Dk k_M_out 148 .lcmp 1 149 := ⟨(by decide +kernel), rfl⟩
theorem d_M_out_149 : Db k_M_out 149 (.ifCond .le) 152 157 := ⟨8, (by decide +kernel), rfl, by decide⟩
theorem d_M_out_152 : DlL k_M_out 152 12 154 := Or.inr ⟨(by decide +kernel), rfl⟩
theorem d_M_out_154 : Db k_M_out 154 .goto 157 159 := ⟨5, (by decide +kernel), rfl, by decide⟩
theorem d_M_out_157 : DlL k_M_out 157 9 159 := Or.inr ⟨(by decide +kernel), rfl⟩
theorem d_M_out_159 : DsL k_M_out 159 9 161 := ⟨Or.inr ⟨(by decide +kernel), rfl⟩, by decide⟩
theorem d_M_out_161 : Dinc k_M_out 161 11 (1) 164 := ⟨(by decide +kernel), rfl, by decide⟩
theorem d_M_out_164 : Db k_M_out 164 .goto 167 86 := ⟨-78, (by decide +kernel), rfl, by decide⟩
theorem d_M_out_167 : DlI k_M_out 167 3 168 := Or.inl ⟨3, (by decide +kernel), rfl, rfl⟩
theorem d_M_out_168 : Dc k_M_out 168 (2) 169 := Or.inl ⟨(by decide +kernel), rfl⟩
theorem d_M_out_169 : Db k_M_out 169 (.if_icmp .ne) 172 177 := ⟨8, (by decide +kernel), rfl, by decide⟩
theorem d_M_out_172 : DlI k_M_out 172 7 174 := Or.inr ⟨(by decide +kernel), rfl⟩
theorem d_M_out_174 : Db k_M_out 174 .goto 177 179 := ⟨5, (by decide +kernel), rfl, by decide⟩
theorem d_M_out_177 : DlI k_M_out 177 8 179 := Or.inr ⟨(by decide +kernel), rfl⟩
theorem d_M_out_179 : DrI k_M_out 179 := ⟨(by decide +kernel), rfl⟩
theorem d_M_count_0 : DlI k_M_count 0 1 1 := Or.inl ⟨1, (by decide +kernel), rfl, rfl⟩
theorem d_M_count_1 : Dk k_M_count 1 .i2l 1 2 := ⟨(by decide +kernel), rfl⟩
theorem d_M_count_2 : DcL k_M_count 2 0 3 := Or.inl ⟨0, (by decide +kernel), by decide, rfl⟩
theorem d_M_count_3 : DcL k_M_count 3 (3) 6 := Or.inr ⟨111, (by decide +kernel), tb_at 724 (by decide +kernel) (by decide +kernel), rfl⟩
theorem d_M_count_6 : DCS k_M_count 6 k_M_in 3 9 := ⟨48, (by decide +kernel), rfl, Or.inl (tb_at 654 (by decide +kernel) (by decide +kernel)), m_M_in, is_M_in, by decide +kernel, by decide⟩
theorem d_M_count_9 : Db k_M_count 9 (.ifCond .eq) 12 19 := ⟨10, (by decide +kernel), rfl, by decide⟩
theorem d_M_count_12 : DlA k_M_count 12 0 13 := Or.inl ⟨0, (by decide +kernel), rfl, rfl⟩
theorem d_M_count_13 : DG k_M_count 13 5 0 16 := ⟨7, (by decide +kernel), f_M_7, rfl⟩
theorem d_M_count_16 : DlI k_M_count 16 1 17 := Or.inl ⟨1, (by decide +kernel), rfl, rfl⟩
theorem d_M_count_17 : Dk k_M_count 17 .iaload 1 18 := ⟨(by decide +kernel), rfl⟩
theorem d_M_count_18 : DrI k_M_count 18 := ⟨(by decide +kernel), rfl⟩
theorem d_M_count_19 : DlI k_M_count 19 1 20 := Or.inl ⟨1, (by decide +kernel), rfl, rfl⟩
theorem d_M_count_20 : decode k_M_count.2.2.1 20 = .ok (.tableswitch 57 4 7 #[32, 37, 44, 52], 32) := by decide +kernel
theorem d_M_count_52 : DlA k_M_count 52 0 53 := Or.inl ⟨0, (by decide +kernel), rfl, rfl⟩
theorem d_M_count_53 : DCV k_M_count 53 k_M_standing 5 0 56 := ⟨76, (by decide +kernel), rfl, tb_at 661 (by decide +kernel) (by decide +kernel), m_M_standing, iv_M_standing.1, iv_M_standing.2, ⟨(RX6, TX6, 16), rfl, rfl⟩, by decide +kernel, by decide⟩
theorem d_M_count_56 : DrI k_M_count 56 := ⟨(by decide +kernel), rfl⟩
theorem d_M_count_57 : DlA k_M_count 57 0 58 := Or.inl ⟨0, (by decide +kernel), rfl, rfl⟩
theorem d_M_count_58 : DG k_M_count 58 5 0 61 := ⟨7, (by decide +kernel), f_M_7, rfl⟩
theorem d_M_count_61 : Dc k_M_count 61 (5) 62 := Or.inl ⟨(by decide +kernel), rfl⟩
theorem d_M_count_62 : Dk k_M_count 62 .iaload 1 63 := ⟨(by decide +kernel), rfl⟩
theorem d_M_count_63 : DrI k_M_count 63 := ⟨(by decide +kernel), rfl⟩
theorem d_M_count_64 : DlA k_M_count 64 0 65 := Or.inl ⟨0, (by decide +kernel), rfl, rfl⟩
theorem d_M_count_65 : DG k_M_count 65 5 0 68 := ⟨7, (by decide +kernel), f_M_7, rfl⟩
theorem d_M_count_68 : Dc k_M_count 68 (6) 70 := Or.inr (Or.inl ⟨(by decide +kernel), by decide, rfl⟩)
theorem d_M_count_70 : Dk k_M_count 70 .iaload 1 71 := ⟨(by decide +kernel), rfl⟩
theorem d_M_count_71 : DrI k_M_count 71 := ⟨(by decide +kernel), rfl⟩
theorem d_M_count_72 : DlA k_M_count 72 0 73 := Or.inl ⟨0, (by decide +kernel), rfl, rfl⟩
theorem d_M_count_73 : DG k_M_count 73 5 8 76 := ⟨155, (by decide +kernel), f_M_155, rfl⟩
theorem d_M_count_76 : DrI k_M_count 76 := ⟨(by decide +kernel), rfl⟩
theorem d_M_count_77 : Dc k_M_count 77 (-1) 78 := Or.inl ⟨(by decide +kernel), rfl⟩
theorem d_M_count_78 : DrI k_M_count 78 := ⟨(by decide +kernel), rfl⟩
theorem d_M_chance_0 : DlA k_M_chance 0 0 1 := Or.inl ⟨0, (by decide +kernel), rfl, rfl⟩
theorem d_M_chance_1 : DlI k_M_chance 1 1 2 := Or.inl ⟨1, (by decide +kernel), rfl, rfl⟩
theorem d_M_chance_2 : DCV k_M_chance 2 k_M_isRound 5 1 5 := ⟨130, (by decide +kernel), rfl, tb_at 747 (by decide +kernel) (by decide +kernel), m_M_isRound, iv_M_isRound.1, iv_M_isRound.2, ⟨(RX6, TX6, 16), rfl, rfl⟩, by decide +kernel, by decide⟩
theorem d_M_chance_5 : Db k_M_chance 5 (.ifCond .eq) 8 21 := ⟨16, (by decide +kernel), rfl, by decide⟩
theorem d_M_chance_8 : DlI k_M_chance 8 2 9 := Or.inl ⟨2, (by decide +kernel), rfl, rfl⟩
theorem d_M_chance_9 : Db k_M_chance 9 (.ifCond .lt) 12 21 := ⟨12, (by decide +kernel), rfl, by decide⟩
theorem d_M_chance_12 : DlA k_M_chance 12 0 13 := Or.inl ⟨0, (by decide +kernel), rfl, rfl⟩
theorem d_M_chance_13 : DlI k_M_chance 13 1 14 := Or.inl ⟨1, (by decide +kernel), rfl, rfl⟩
theorem d_M_chance_14 : DlI k_M_chance 14 2 15 := Or.inl ⟨2, (by decide +kernel), rfl, rfl⟩
theorem d_M_chance_15 : DCV k_M_chance 15 k_M_letterOut 5 2 18 := ⟨146, (by decide +kernel), rfl, tb_at 768 (by decide +kernel) (by decide +kernel), m_M_letterOut, iv_M_letterOut.1, iv_M_letterOut.2, ⟨(RX6, TX6, 16), rfl, rfl⟩, by decide +kernel, by decide⟩
theorem d_M_chance_18 : Db k_M_chance 18 .goto 21 23 := ⟨5, (by decide +kernel), rfl, by decide⟩
theorem d_M_chance_21 : Dc k_M_chance 21 (-4) 23 := Or.inr (Or.inl ⟨(by decide +kernel), by decide, rfl⟩)
theorem d_M_chance_23 : DsI k_M_chance 23 5 25 := ⟨Or.inr ⟨(by decide +kernel), rfl⟩, by decide⟩
theorem d_M_chance_25 : DlI k_M_chance 25 5 27 := Or.inr ⟨(by decide +kernel), rfl⟩
theorem d_M_chance_27 : Db k_M_chance 27 (.ifCond .lt) 30 49 := ⟨22, (by decide +kernel), rfl, by decide⟩
theorem d_M_chance_30 : DlA k_M_chance 30 0 31 := Or.inl ⟨0, (by decide +kernel), rfl, rfl⟩
theorem d_M_chance_31 : DlI k_M_chance 31 3 32 := Or.inl ⟨3, (by decide +kernel), rfl, rfl⟩
theorem d_M_chance_32 : DCV k_M_chance 32 k_M_isLetter 5 1 35 := ⟨121, (by decide +kernel), rfl, tb_at 735 (by decide +kernel) (by decide +kernel), m_M_isLetter, iv_M_isLetter.1, iv_M_isLetter.2, ⟨(RX6, TX6, 16), rfl, rfl⟩, by decide +kernel, by decide⟩
theorem d_M_chance_35 : Db k_M_chance 35 (.ifCond .eq) 38 49 := ⟨14, (by decide +kernel), rfl, by decide⟩
theorem d_M_chance_38 : DlI k_M_chance 38 4 40 := Or.inr ⟨(by decide +kernel), rfl⟩
theorem d_M_chance_40 : Dk k_M_chance 40 .i2l 1 41 := ⟨(by decide +kernel), rfl⟩
theorem d_M_chance_41 : DcL k_M_chance 41 0 42 := Or.inl ⟨0, (by decide +kernel), by decide, rfl⟩
theorem d_M_chance_42 : DcL k_M_chance 42 1 43 := Or.inl ⟨1, (by decide +kernel), by decide, rfl⟩
theorem d_M_chance_43 : DCS k_M_chance 43 k_M_in 3 46 := ⟨48, (by decide +kernel), rfl, Or.inl (tb_at 654 (by decide +kernel) (by decide +kernel)), m_M_in, is_M_in, by decide +kernel, by decide⟩
theorem d_M_chance_46 : Db k_M_chance 46 (.ifCond .ne) 49 53 := ⟨7, (by decide +kernel), rfl, by decide⟩
theorem d_M_chance_49 : DcL k_M_chance 49 (-1) 52 := Or.inr ⟨153, (by decide +kernel), tb_at 776 (by decide +kernel) (by decide +kernel), rfl⟩
theorem d_M_chance_52 : DrL k_M_chance 52 := ⟨(by decide +kernel), rfl⟩
theorem d_M_chance_53 : DlA k_M_chance 53 0 54 := Or.inl ⟨0, (by decide +kernel), rfl, rfl⟩
theorem d_M_chance_54 : DCV k_M_chance 54 k_M_whole 5 0 57 := ⟨149, (by decide +kernel), rfl, tb_at 772 (by decide +kernel) (by decide +kernel), m_M_whole, iv_M_whole.1, iv_M_whole.2, ⟨(RX6, TX6, 16), rfl, rfl⟩, by decide +kernel, by decide⟩
theorem d_M_chance_57 : DsL k_M_chance 57 6 59 := ⟨Or.inr ⟨(by decide +kernel), rfl⟩, by decide⟩
theorem d_M_chance_59 : DlA k_M_chance 59 0 60 := Or.inl ⟨0, (by decide +kernel), rfl, rfl⟩
theorem d_M_chance_60 : DlL k_M_chance 60 6 62 := Or.inr ⟨(by decide +kernel), rfl⟩
theorem d_M_chance_62 : DlI k_M_chance 62 5 64 := Or.inr ⟨(by decide +kernel), rfl⟩
theorem d_M_chance_64 : DlI k_M_chance 64 1 65 := Or.inl ⟨1, (by decide +kernel), rfl, rfl⟩
theorem d_M_chance_65 : DlI k_M_chance 65 3 66 := Or.inl ⟨3, (by decide +kernel), rfl, rfl⟩
theorem d_M_chance_66 : DCV k_M_chance 66 k_M_chanceOf 5 4 69 := ⟨142, (by decide +kernel), rfl, tb_at 777 (by decide +kernel) (by decide +kernel), m_M_chanceOf, iv_M_chanceOf.1, iv_M_chanceOf.2, ⟨(RX6, TX6, 16), rfl, rfl⟩, by decide +kernel, by decide⟩
theorem d_M_chance_69 : DlL k_M_chance 69 6 71 := Or.inr ⟨(by decide +kernel), rfl⟩
theorem d_M_chance_71 : DlI k_M_chance 71 4 73 := Or.inr ⟨(by decide +kernel), rfl⟩
theorem d_M_chance_73 : DCS k_M_chance 73 k_M_fraction 3 76 := ⟨158, (by decide +kernel), rfl, Or.inl (tb_at 793 (by decide +kernel) (by decide +kernel)), m_M_fraction, is_M_fraction, by decide +kernel, by decide⟩
theorem d_M_chance_76 : DrL k_M_chance 76 := ⟨(by decide +kernel), rfl⟩
theorem d_M_sender_0 : DlA k_M_sender 0 0 1 := Or.inl ⟨0, (by decide +kernel), rfl, rfl⟩
theorem d_M_sender_1 : DlI k_M_sender 1 1 2 := Or.inl ⟨1, (by decide +kernel), rfl, rfl⟩
theorem d_M_sender_2 : DCV k_M_sender 2 k_M_isRound 5 1 5 := ⟨130, (by decide +kernel), rfl, tb_at 747 (by decide +kernel) (by decide +kernel), m_M_isRound, iv_M_isRound.1, iv_M_isRound.2, ⟨(RX6, TX6, 16), rfl, rfl⟩, by decide +kernel, by decide⟩
theorem d_M_sender_5 : Db k_M_sender 5 (.ifCond .eq) 8 21 := ⟨16, (by decide +kernel), rfl, by decide⟩
theorem d_M_sender_8 : DlI k_M_sender 8 2 9 := Or.inl ⟨2, (by decide +kernel), rfl, rfl⟩
theorem d_M_sender_9 : Db k_M_sender 9 (.ifCond .lt) 12 21 := ⟨12, (by decide +kernel), rfl, by decide⟩
theorem d_M_sender_12 : DlA k_M_sender 12 0 13 := Or.inl ⟨0, (by decide +kernel), rfl, rfl⟩
theorem d_M_sender_13 : DlI k_M_sender 13 1 14 := Or.inl ⟨1, (by decide +kernel), rfl, rfl⟩
theorem d_M_sender_14 : DlI k_M_sender 14 2 15 := Or.inl ⟨2, (by decide +kernel), rfl, rfl⟩
theorem d_M_sender_15 : DCV k_M_sender 15 k_M_letterOut 5 2 18 := ⟨146, (by decide +kernel), rfl, tb_at 768 (by decide +kernel) (by decide +kernel), m_M_letterOut, iv_M_letterOut.1, iv_M_letterOut.2, ⟨(RX6, TX6, 16), rfl, rfl⟩, by decide +kernel, by decide⟩
theorem d_M_sender_18 : Db k_M_sender 18 .goto 21 23 := ⟨5, (by decide +kernel), rfl, by decide⟩
theorem d_M_sender_21 : Dc k_M_sender 21 (-4) 23 := Or.inr (Or.inl ⟨(by decide +kernel), by decide, rfl⟩)
theorem d_M_sender_23 : DsI k_M_sender 23 5 25 := ⟨Or.inr ⟨(by decide +kernel), rfl⟩, by decide⟩
theorem d_M_sender_25 : DlI k_M_sender 25 5 27 := Or.inr ⟨(by decide +kernel), rfl⟩
theorem d_M_sender_27 : Db k_M_sender 27 (.ifCond .lt) 30 53 := ⟨26, (by decide +kernel), rfl, by decide⟩
theorem d_M_sender_30 : DlI k_M_sender 30 3 31 := Or.inl ⟨3, (by decide +kernel), rfl, rfl⟩
theorem d_M_sender_31 : Dk k_M_sender 31 .i2l 1 32 := ⟨(by decide +kernel), rfl⟩
theorem d_M_sender_32 : DcL k_M_sender 32 0 33 := Or.inl ⟨0, (by decide +kernel), by decide, rfl⟩
theorem d_M_sender_33 : DcL k_M_sender 33 (9) 36 := Or.inr ⟨162, (by decide +kernel), tb_at 800 (by decide +kernel) (by decide +kernel), rfl⟩
theorem d_M_sender_36 : DCS k_M_sender 36 k_M_in 3 39 := ⟨48, (by decide +kernel), rfl, Or.inl (tb_at 654 (by decide +kernel) (by decide +kernel)), m_M_in, is_M_in, by decide +kernel, by decide⟩
theorem d_M_sender_39 : Db k_M_sender 39 (.ifCond .eq) 42 53 := ⟨14, (by decide +kernel), rfl, by decide⟩
theorem d_M_sender_42 : DlI k_M_sender 42 4 44 := Or.inr ⟨(by decide +kernel), rfl⟩
theorem d_M_sender_44 : Dk k_M_sender 44 .i2l 1 45 := ⟨(by decide +kernel), rfl⟩
theorem d_M_sender_45 : DcL k_M_sender 45 0 46 := Or.inl ⟨0, (by decide +kernel), by decide, rfl⟩
theorem d_M_sender_46 : DcL k_M_sender 46 1 47 := Or.inl ⟨1, (by decide +kernel), by decide, rfl⟩
theorem d_M_sender_47 : DCS k_M_sender 47 k_M_in 3 50 := ⟨48, (by decide +kernel), rfl, Or.inl (tb_at 654 (by decide +kernel) (by decide +kernel)), m_M_in, is_M_in, by decide +kernel, by decide⟩
theorem d_M_sender_50 : Db k_M_sender 50 (.ifCond .ne) 53 57 := ⟨7, (by decide +kernel), rfl, by decide⟩
theorem d_M_sender_53 : DcL k_M_sender 53 (-1) 56 := Or.inr ⟨153, (by decide +kernel), tb_at 776 (by decide +kernel) (by decide +kernel), rfl⟩
theorem d_M_sender_56 : DrL k_M_sender 56 := ⟨(by decide +kernel), rfl⟩
theorem d_M_sender_57 : DlA k_M_sender 57 0 58 := Or.inl ⟨0, (by decide +kernel), rfl, rfl⟩
theorem d_M_sender_58 : DCV k_M_sender 58 k_M_whole 5 0 61 := ⟨149, (by decide +kernel), rfl, tb_at 772 (by decide +kernel) (by decide +kernel), m_M_whole, iv_M_whole.1, iv_M_whole.2, ⟨(RX6, TX6, 16), rfl, rfl⟩, by decide +kernel, by decide⟩
theorem d_M_sender_61 : DsL k_M_sender 61 6 63 := ⟨Or.inr ⟨(by decide +kernel), rfl⟩, by decide⟩
theorem d_M_sender_63 : DlA k_M_sender 63 0 64 := Or.inl ⟨0, (by decide +kernel), rfl, rfl⟩
theorem d_M_sender_64 : DlL k_M_sender 64 6 66 := Or.inr ⟨(by decide +kernel), rfl⟩
theorem d_M_sender_66 : DlI k_M_sender 66 5 68 := Or.inr ⟨(by decide +kernel), rfl⟩
theorem d_M_sender_68 : DlI k_M_sender 68 1 69 := Or.inl ⟨1, (by decide +kernel), rfl, rfl⟩
theorem d_M_sender_69 : DlI k_M_sender 69 3 70 := Or.inl ⟨3, (by decide +kernel), rfl, rfl⟩
theorem d_M_sender_70 : DCV k_M_sender 70 k_M_senderOf 5 4 73 := ⟨164, (by decide +kernel), rfl, tb_at 801 (by decide +kernel) (by decide +kernel), m_M_senderOf, iv_M_senderOf.1, iv_M_senderOf.2, ⟨(RX6, TX6, 16), rfl, rfl⟩, by decide +kernel, by decide⟩
theorem d_M_sender_73 : DlL k_M_sender 73 6 75 := Or.inr ⟨(by decide +kernel), rfl⟩
theorem d_M_sender_75 : DlI k_M_sender 75 4 77 := Or.inr ⟨(by decide +kernel), rfl⟩
theorem d_M_sender_77 : DCS k_M_sender 77 k_M_fraction 3 80 := ⟨158, (by decide +kernel), rfl, Or.inl (tb_at 793 (by decide +kernel) (by decide +kernel)), m_M_fraction, is_M_fraction, by decide +kernel, by decide⟩
theorem d_M_sender_80 : DrL k_M_sender 80 := ⟨(by decide +kernel), rfl⟩
theorem d_M_stays_0 : DlA k_M_stays 0 0 1 := Or.inl ⟨0, (by decide +kernel), rfl, rfl⟩
theorem d_M_stays_1 : DlI k_M_stays 1 1 2 := Or.inl ⟨1, (by decide +kernel), rfl, rfl⟩
theorem d_M_stays_2 : DCV k_M_stays 2 k_M_isLetter 5 1 5 := ⟨121, (by decide +kernel), rfl, tb_at 735 (by decide +kernel) (by decide +kernel), m_M_isLetter, iv_M_isLetter.1, iv_M_isLetter.2, ⟨(RX6, TX6, 16), rfl, rfl⟩, by decide +kernel, by decide⟩
theorem d_M_stays_5 : Db k_M_stays 5 (.ifCond .eq) 8 18 := ⟨13, (by decide +kernel), rfl, by decide⟩
theorem d_M_stays_8 : DlI k_M_stays 8 2 9 := Or.inl ⟨2, (by decide +kernel), rfl, rfl⟩
theorem d_M_stays_9 : Dk k_M_stays 9 .i2l 1 10 := ⟨(by decide +kernel), rfl⟩
theorem d_M_stays_10 : DcL k_M_stays 10 0 11 := Or.inl ⟨0, (by decide +kernel), by decide, rfl⟩
theorem d_M_stays_11 : DcL k_M_stays 11 1 12 := Or.inl ⟨1, (by decide +kernel), by decide, rfl⟩
theorem d_M_stays_12 : DCS k_M_stays 12 k_M_in 3 15 := ⟨48, (by decide +kernel), rfl, Or.inl (tb_at 654 (by decide +kernel) (by decide +kernel)), m_M_in, is_M_in, by decide +kernel, by decide⟩
theorem d_M_stays_15 : Db k_M_stays 15 (.ifCond .ne) 18 22 := ⟨7, (by decide +kernel), rfl, by decide⟩
theorem d_M_stays_18 : DcL k_M_stays 18 (-1) 21 := Or.inr ⟨153, (by decide +kernel), tb_at 776 (by decide +kernel) (by decide +kernel), rfl⟩
theorem d_M_stays_21 : DrL k_M_stays 21 := ⟨(by decide +kernel), rfl⟩
theorem d_M_stays_22 : DlA k_M_stays 22 0 23 := Or.inl ⟨0, (by decide +kernel), rfl, rfl⟩
theorem d_M_stays_23 : DlI k_M_stays 23 1 24 := Or.inl ⟨1, (by decide +kernel), rfl, rfl⟩
theorem d_M_stays_24 : DCV k_M_stays 24 k_M_isOwn 5 1 27 := ⟨127, (by decide +kernel), rfl, tb_at 760 (by decide +kernel) (by decide +kernel), m_M_isOwn, iv_M_isOwn.1, iv_M_isOwn.2, ⟨(RX6, TX6, 16), rfl, rfl⟩, by decide +kernel, by decide⟩
theorem d_M_stays_27 : Db k_M_stays 27 (.ifCond .eq) 30 34 := ⟨7, (by decide +kernel), rfl, by decide⟩
theorem d_M_stays_30 : DcL k_M_stays 30 (-2) 33 := Or.inr ⟨167, (by decide +kernel), tb_at 809 (by decide +kernel) (by decide +kernel), rfl⟩
theorem d_M_stays_33 : DrL k_M_stays 33 := ⟨(by decide +kernel), rfl⟩
theorem d_M_stays_34 : DlA k_M_stays 34 0 35 := Or.inl ⟨0, (by decide +kernel), rfl, rfl⟩
theorem d_M_stays_35 : DCV k_M_stays 35 k_M_whole 5 0 38 := ⟨149, (by decide +kernel), rfl, tb_at 772 (by decide +kernel) (by decide +kernel), m_M_whole, iv_M_whole.1, iv_M_whole.2, ⟨(RX6, TX6, 16), rfl, rfl⟩, by decide +kernel, by decide⟩
theorem d_M_stays_38 : DsL k_M_stays 38 3 39 := ⟨Or.inl ⟨3, (by decide +kernel), rfl, rfl⟩, by decide⟩
theorem d_M_stays_39 : DlA k_M_stays 39 0 40 := Or.inl ⟨0, (by decide +kernel), rfl, rfl⟩
theorem d_M_stays_40 : DlL k_M_stays 40 3 41 := Or.inl ⟨3, (by decide +kernel), rfl, rfl⟩
theorem d_M_stays_41 : DlI k_M_stays 41 1 42 := Or.inl ⟨1, (by decide +kernel), rfl, rfl⟩
theorem d_M_stays_42 : DlA k_M_stays 42 0 43 := Or.inl ⟨0, (by decide +kernel), rfl, rfl⟩
theorem d_M_stays_43 : DG k_M_stays 43 5 0 46 := ⟨7, (by decide +kernel), f_M_7, rfl⟩
theorem d_M_stays_46 : Dc k_M_stays 46 (6) 48 := Or.inr (Or.inl ⟨(by decide +kernel), by decide, rfl⟩)
theorem d_M_stays_48 : Dk k_M_stays 48 .iaload 1 49 := ⟨(by decide +kernel), rfl⟩
theorem d_M_stays_49 : DCV k_M_stays 49 k_M_leftOf 5 3 52 := ⟨138, (by decide +kernel), rfl, tb_at 781 (by decide +kernel) (by decide +kernel), m_M_leftOf, iv_M_leftOf.1, iv_M_leftOf.2, ⟨(RX6, TX6, 16), rfl, rfl⟩, by decide +kernel, by decide⟩
theorem d_M_stays_52 : DlL k_M_stays 52 3 53 := Or.inl ⟨3, (by decide +kernel), rfl, rfl⟩
theorem d_M_stays_53 : DlI k_M_stays 53 2 54 := Or.inl ⟨2, (by decide +kernel), rfl, rfl⟩
theorem d_M_stays_54 : DCS k_M_stays 54 k_M_fraction 3 57 := ⟨158, (by decide +kernel), rfl, Or.inl (tb_at 793 (by decide +kernel) (by decide +kernel)), m_M_fraction, is_M_fraction, by decide +kernel, by decide⟩
theorem d_M_stays_57 : DrL k_M_stays 57 := ⟨(by decide +kernel), rfl⟩
theorem d_M_expected_0 : DlI k_M_expected 0 1 1 := Or.inl ⟨1, (by decide +kernel), rfl, rfl⟩
theorem d_M_expected_1 : Dk k_M_expected 1 .i2l 1 2 := ⟨(by decide +kernel), rfl⟩
theorem d_M_expected_2 : DcL k_M_expected 2 0 3 := Or.inl ⟨0, (by decide +kernel), by decide, rfl⟩
theorem d_M_expected_3 : DcL k_M_expected 3 (9) 6 := Or.inr ⟨162, (by decide +kernel), tb_at 800 (by decide +kernel) (by decide +kernel), rfl⟩
theorem d_M_expected_6 : DCS k_M_expected 6 k_M_in 3 9 := ⟨48, (by decide +kernel), rfl, Or.inl (tb_at 654 (by decide +kernel) (by decide +kernel)), m_M_in, is_M_in, by decide +kernel, by decide⟩
theorem d_M_expected_9 : Db k_M_expected 9 (.ifCond .eq) 12 34 := ⟨25, (by decide +kernel), rfl, by decide⟩
theorem d_M_expected_12 : DlI k_M_expected 12 2 13 := Or.inl ⟨2, (by decide +kernel), rfl, rfl⟩
theorem d_M_expected_13 : Dk k_M_expected 13 .i2l 1 14 := ⟨(by decide +kernel), rfl⟩
theorem d_M_expected_14 : DcL k_M_expected 14 0 15 := Or.inl ⟨0, (by decide +kernel), by decide, rfl⟩
theorem d_M_expected_15 : DcL k_M_expected 15 (7) 18 := Or.inr ⟨97, (by decide +kernel), tb_at 653 (by decide +kernel) (by decide +kernel), rfl⟩
theorem d_M_expected_18 : DCS k_M_expected 18 k_M_in 3 21 := ⟨48, (by decide +kernel), rfl, Or.inl (tb_at 654 (by decide +kernel) (by decide +kernel)), m_M_in, is_M_in, by decide +kernel, by decide⟩
theorem d_M_expected_21 : Db k_M_expected 21 (.ifCond .eq) 24 34 := ⟨13, (by decide +kernel), rfl, by decide⟩
theorem d_M_expected_24 : DlI k_M_expected 24 3 25 := Or.inl ⟨3, (by decide +kernel), rfl, rfl⟩
theorem d_M_expected_25 : Dk k_M_expected 25 .i2l 1 26 := ⟨(by decide +kernel), rfl⟩
theorem d_M_expected_26 : DcL k_M_expected 26 0 27 := Or.inl ⟨0, (by decide +kernel), by decide, rfl⟩
theorem d_M_expected_27 : DcL k_M_expected 27 1 28 := Or.inl ⟨1, (by decide +kernel), by decide, rfl⟩
theorem d_M_expected_28 : DCS k_M_expected 28 k_M_in 3 31 := ⟨48, (by decide +kernel), rfl, Or.inl (tb_at 654 (by decide +kernel) (by decide +kernel)), m_M_in, is_M_in, by decide +kernel, by decide⟩
theorem d_M_expected_31 : Db k_M_expected 31 (.ifCond .ne) 34 38 := ⟨7, (by decide +kernel), rfl, by decide⟩
theorem d_M_expected_34 : DcL k_M_expected 34 (-1) 37 := Or.inr ⟨153, (by decide +kernel), tb_at 776 (by decide +kernel) (by decide +kernel), rfl⟩
theorem d_M_expected_37 : DrL k_M_expected 37 := ⟨(by decide +kernel), rfl⟩
theorem d_M_expected_38 : DlA k_M_expected 38 0 39 := Or.inl ⟨0, (by decide +kernel), rfl, rfl⟩
theorem d_M_expected_39 : DCV k_M_expected 39 k_M_whole 5 0 42 := ⟨149, (by decide +kernel), rfl, tb_at 772 (by decide +kernel) (by decide +kernel), m_M_whole, iv_M_whole.1, iv_M_whole.2, ⟨(RX6, TX6, 16), rfl, rfl⟩, by decide +kernel, by decide⟩
theorem d_M_expected_42 : DsL k_M_expected 42 4 44 := ⟨Or.inr ⟨(by decide +kernel), rfl⟩, by decide⟩
theorem d_M_expected_44 : DcL k_M_expected 44 0 45 := Or.inl ⟨0, (by decide +kernel), by decide, rfl⟩
theorem d_M_expected_45 : DsL k_M_expected 45 6 47 := ⟨Or.inr ⟨(by decide +kernel), rfl⟩, by decide⟩
theorem d_M_expected_47 : Dc k_M_expected 47 (0) 48 := Or.inl ⟨(by decide +kernel), rfl⟩
theorem d_M_expected_48 : DsI k_M_expected 48 8 50 := ⟨Or.inr ⟨(by decide +kernel), rfl⟩, by decide⟩
theorem d_M_expected_50 : DlI k_M_expected 50 8 52 := Or.inr ⟨(by decide +kernel), rfl⟩
theorem d_M_expected_52 : DlA k_M_expected 52 0 53 := Or.inl ⟨0, (by decide +kernel), rfl, rfl⟩
theorem d_M_expected_53 : DG k_M_expected 53 5 0 56 := ⟨7, (by decide +kernel), f_M_7, rfl⟩
theorem d_M_expected_56 : Dc k_M_expected 56 (5) 57 := Or.inl ⟨(by decide +kernel), rfl⟩
theorem d_M_expected_57 : Dk k_M_expected 57 .iaload 1 58 := ⟨(by decide +kernel), rfl⟩
theorem d_M_expected_58 : Db k_M_expected 58 (.if_icmp .ge) 61 112 := ⟨54, (by decide +kernel), rfl, by decide⟩
theorem d_M_expected_61 : DlL k_M_expected 61 6 63 := Or.inr ⟨(by decide +kernel), rfl⟩
theorem d_M_expected_63 : DlA k_M_expected 63 0 64 := Or.inl ⟨0, (by decide +kernel), rfl, rfl⟩
theorem d_M_expected_64 : DlI k_M_expected 64 8 66 := Or.inr ⟨(by decide +kernel), rfl⟩
theorem d_M_expected_66 : DCV k_M_expected 66 k_M_stands 5 1 69 := ⟨56, (by decide +kernel), rfl, tb_at 665 (by decide +kernel) (by decide +kernel), m_M_stands, iv_M_stands.1, iv_M_stands.2, ⟨(RX6, TX6, 16), rfl, rfl⟩, by decide +kernel, by decide⟩
theorem d_M_expected_69 : Db k_M_expected 69 (.ifCond .ne) 72 102 := ⟨33, (by decide +kernel), rfl, by decide⟩
theorem d_M_expected_72 : DlA k_M_expected 72 0 73 := Or.inl ⟨0, (by decide +kernel), rfl, rfl⟩
theorem d_M_expected_73 : DlI k_M_expected 73 8 75 := Or.inr ⟨(by decide +kernel), rfl⟩
theorem d_M_expected_75 : Dc k_M_expected 75 (1) 76 := Or.inl ⟨(by decide +kernel), rfl⟩
theorem d_M_expected_76 : DCV k_M_expected 76 k_M_of 5 2 79 := ⟨52, (by decide +kernel), rfl, tb_at 669 (by decide +kernel) (by decide +kernel), m_M_of, iv_M_of.1, iv_M_of.2, ⟨(RX6, TX6, 16), rfl, rfl⟩, by decide +kernel, by decide⟩
theorem d_M_expected_79 : DlI k_M_expected 79 2 80 := Or.inl ⟨2, (by decide +kernel), rfl, rfl⟩
theorem d_M_expected_80 : Db k_M_expected 80 (.if_icmp .ne) 83 102 := ⟨22, (by decide +kernel), rfl, by decide⟩
theorem d_M_expected_83 : DlA k_M_expected 83 0 84 := Or.inl ⟨0, (by decide +kernel), rfl, rfl⟩
theorem d_M_expected_84 : DlL k_M_expected 84 4 86 := Or.inr ⟨(by decide +kernel), rfl⟩
theorem d_M_expected_86 : DlI k_M_expected 86 8 88 := Or.inr ⟨(by decide +kernel), rfl⟩
theorem d_M_expected_88 : DlA k_M_expected 88 0 89 := Or.inl ⟨0, (by decide +kernel), rfl, rfl⟩
theorem d_M_expected_89 : DlI k_M_expected 89 8 91 := Or.inr ⟨(by decide +kernel), rfl⟩
theorem d_M_expected_91 : Dc k_M_expected 91 (3) 92 := Or.inl ⟨(by decide +kernel), rfl⟩
theorem d_M_expected_92 : DCV k_M_expected 92 k_M_of 5 2 95 := ⟨52, (by decide +kernel), rfl, tb_at 669 (by decide +kernel) (by decide +kernel), m_M_of, iv_M_of.1, iv_M_of.2, ⟨(RX6, TX6, 16), rfl, rfl⟩, by decide +kernel, by decide⟩
theorem d_M_expected_95 : DlI k_M_expected 95 1 96 := Or.inl ⟨1, (by decide +kernel), rfl, rfl⟩
theorem d_M_expected_96 : DCV k_M_expected 96 k_M_senderOf 5 4 99 := ⟨164, (by decide +kernel), rfl, tb_at 801 (by decide +kernel) (by decide +kernel), m_M_senderOf, iv_M_senderOf.1, iv_M_senderOf.2, ⟨(RX6, TX6, 16), rfl, rfl⟩, by decide +kernel, by decide⟩
theorem d_M_expected_99 : Db k_M_expected 99 .goto 102 103 := ⟨4, (by decide +kernel), rfl, by decide⟩
theorem d_M_expected_102 : DcL k_M_expected 102 0 103 := Or.inl ⟨0, (by decide +kernel), by decide, rfl⟩
theorem d_M_expected_103 : Dk k_M_expected 103 .ladd 1 104 := ⟨(by decide +kernel), rfl⟩
theorem d_M_expected_104 : DsL k_M_expected 104 6 106 := ⟨Or.inr ⟨(by decide +kernel), rfl⟩, by decide⟩
theorem d_M_expected_106 : Dinc k_M_expected 106 8 (1) 109 := ⟨(by decide +kernel), rfl, by decide⟩
theorem d_M_expected_109 : Db k_M_expected 109 .goto 112 50 := ⟨-59, (by decide +kernel), rfl, by decide⟩
theorem d_M_expected_112 : DlL k_M_expected 112 6 114 := Or.inr ⟨(by decide +kernel), rfl⟩
theorem d_M_expected_114 : DlL k_M_expected 114 4 116 := Or.inr ⟨(by decide +kernel), rfl⟩
theorem d_M_expected_116 : DlI k_M_expected 116 3 117 := Or.inl ⟨3, (by decide +kernel), rfl, rfl⟩
theorem d_M_expected_117 : DCS k_M_expected 117 k_M_fraction 3 120 := ⟨158, (by decide +kernel), rfl, Or.inl (tb_at 793 (by decide +kernel) (by decide +kernel)), m_M_fraction, is_M_fraction, by decide +kernel, by decide⟩
theorem d_M_expected_120 : DrL k_M_expected 120 := ⟨(by decide +kernel), rfl⟩
theorem d_M_blend_0 : DlA k_M_blend 0 0 1 := Or.inl ⟨0, (by decide +kernel), rfl, rfl⟩
theorem d_M_blend_1 : DG k_M_blend 1 5 0 4 := ⟨7, (by decide +kernel), f_M_7, rfl⟩
theorem d_M_blend_4 : Dc k_M_blend 4 (0) 5 := Or.inl ⟨(by decide +kernel), rfl⟩
theorem d_M_blend_5 : Dk k_M_blend 5 .iaload 1 6 := ⟨(by decide +kernel), rfl⟩
theorem d_M_blend_6 : Db k_M_blend 6 (.ifCond .ne) 9 18 := ⟨12, (by decide +kernel), rfl, by decide⟩
theorem d_M_blend_9 : DlA k_M_blend 9 0 10 := Or.inl ⟨0, (by decide +kernel), rfl, rfl⟩
theorem d_M_blend_10 : DG k_M_blend 10 5 0 13 := ⟨7, (by decide +kernel), f_M_7, rfl⟩
theorem d_M_blend_13 : Dc k_M_blend 13 (3) 14 := Or.inl ⟨(by decide +kernel), rfl⟩
theorem d_M_blend_14 : Dk k_M_blend 14 .iaload 1 15 := ⟨(by decide +kernel), rfl⟩
theorem d_M_blend_15 : Db k_M_blend 15 (.ifCond .le) 18 21 := ⟨6, (by decide +kernel), rfl, by decide⟩
theorem d_M_blend_18 : Dc k_M_blend 18 (-4) 20 := Or.inr (Or.inl ⟨(by decide +kernel), by decide, rfl⟩)
theorem d_M_blend_20 : DrI k_M_blend 20 := ⟨(by decide +kernel), rfl⟩
theorem d_M_blend_21 : DlA k_M_blend 21 0 22 := Or.inl ⟨0, (by decide +kernel), rfl, rfl⟩
theorem d_M_blend_22 : DCV k_M_blend 22 k_M_standing 5 0 25 := ⟨76, (by decide +kernel), rfl, tb_at 661 (by decide +kernel) (by decide +kernel), m_M_standing, iv_M_standing.1, iv_M_standing.2, ⟨(RX6, TX6, 16), rfl, rfl⟩, by decide +kernel, by decide⟩
theorem d_M_blend_25 : DsI k_M_blend 25 1 26 := ⟨Or.inl ⟨1, (by decide +kernel), rfl, rfl⟩, by decide⟩
theorem d_M_blend_26 : DlA k_M_blend 26 0 27 := Or.inl ⟨0, (by decide +kernel), rfl, rfl⟩
theorem d_M_blend_27 : DG k_M_blend 27 5 0 30 := ⟨7, (by decide +kernel), f_M_7, rfl⟩
theorem d_M_blend_30 : Dc k_M_blend 30 (1) 31 := Or.inl ⟨(by decide +kernel), rfl⟩
theorem d_M_blend_31 : Dk k_M_blend 31 .iaload 1 32 := ⟨(by decide +kernel), rfl⟩
theorem d_M_blend_32 : DlI k_M_blend 32 1 33 := Or.inl ⟨1, (by decide +kernel), rfl, rfl⟩
theorem d_M_blend_33 : Dk k_M_blend 33 .isub 1 34 := ⟨(by decide +kernel), rfl⟩
theorem d_M_blend_34 : DsI k_M_blend 34 2 35 := ⟨Or.inl ⟨2, (by decide +kernel), rfl, rfl⟩, by decide⟩
theorem d_M_blend_35 : DlI k_M_blend 35 1 36 := Or.inl ⟨1, (by decide +kernel), rfl, rfl⟩
theorem d_M_blend_36 : Db k_M_blend 36 (.ifCond .ne) 39 43 := ⟨7, (by decide +kernel), rfl, by decide⟩
theorem d_M_blend_39 : Dc k_M_blend 39 (0) 40 := Or.inl ⟨(by decide +kernel), rfl⟩
theorem d_M_blend_40 : Db k_M_blend 40 .goto 43 53 := ⟨13, (by decide +kernel), rfl, by decide⟩
theorem d_M_blend_43 : DlI k_M_blend 43 2 44 := Or.inl ⟨2, (by decide +kernel), rfl, rfl⟩
theorem d_M_blend_44 : Dc k_M_blend 44 (1) 45 := Or.inl ⟨(by decide +kernel), rfl⟩
theorem d_M_blend_45 : Db k_M_blend 45 (.if_icmp .ge) 48 52 := ⟨7, (by decide +kernel), rfl, by decide⟩
theorem d_M_blend_48 : Dc k_M_blend 48 (1) 49 := Or.inl ⟨(by decide +kernel), rfl⟩
theorem d_M_blend_49 : Db k_M_blend 49 .goto 52 53 := ⟨4, (by decide +kernel), rfl, by decide⟩
theorem d_M_blend_52 : DlI k_M_blend 52 2 53 := Or.inl ⟨2, (by decide +kernel), rfl, rfl⟩
theorem d_M_blend_53 : DlA k_M_blend 53 0 54 := Or.inl ⟨0, (by decide +kernel), rfl, rfl⟩
theorem d_M_blend_54 : DG k_M_blend 54 5 0 57 := ⟨7, (by decide +kernel), f_M_7, rfl⟩
theorem d_M_blend_57 : Dc k_M_blend 57 (1) 58 := Or.inl ⟨(by decide +kernel), rfl⟩
theorem d_M_blend_58 : Dk k_M_blend 58 .iaload 1 59 := ⟨(by decide +kernel), rfl⟩
theorem d_M_blend_59 : Dk k_M_blend 59 .iadd 1 60 := ⟨(by decide +kernel), rfl⟩
theorem d_M_blend_60 : Dc k_M_blend 60 (1) 61 := Or.inl ⟨(by decide +kernel), rfl⟩
theorem d_M_blend_61 : Dk k_M_blend 61 .isub 1 62 := ⟨(by decide +kernel), rfl⟩
theorem d_M_blend_62 : DrI k_M_blend 62 := ⟨(by decide +kernel), rfl⟩
theorem d_M_type_0 : DlI k_M_type 0 1 1 := Or.inl ⟨1, (by decide +kernel), rfl, rfl⟩
theorem d_M_type_1 : Dk k_M_type 1 .i2l 1 2 := ⟨(by decide +kernel), rfl⟩
theorem d_M_type_2 : DcL k_M_type 2 (32) 5 := Or.inr ⟨169, (by decide +kernel), tb_at 822 (by decide +kernel) (by decide +kernel), rfl⟩
theorem d_M_type_5 : DcL k_M_type 5 (126) 8 := Or.inr ⟨171, (by decide +kernel), tb_at 823 (by decide +kernel) (by decide +kernel), rfl⟩
theorem d_M_type_8 : DCS k_M_type 8 k_M_in 3 11 := ⟨48, (by decide +kernel), rfl, Or.inl (tb_at 654 (by decide +kernel) (by decide +kernel)), m_M_in, is_M_in, by decide +kernel, by decide⟩
theorem d_M_type_11 : Db k_M_type 11 (.ifCond .ne) 14 16 := ⟨5, (by decide +kernel), rfl, by decide⟩
theorem d_M_type_14 : Dc k_M_type 14 (-1) 15 := Or.inl ⟨(by decide +kernel), rfl⟩
theorem d_M_type_15 : DrI k_M_type 15 := ⟨(by decide +kernel), rfl⟩
theorem d_M_type_16 : DlA k_M_type 16 0 17 := Or.inl ⟨0, (by decide +kernel), rfl, rfl⟩
theorem d_M_type_17 : DG k_M_type 17 5 4 20 := ⟨173, (by decide +kernel), f_M_173, rfl⟩
theorem d_M_type_20 : Dc k_M_type 20 (90) 22 := Or.inr (Or.inl ⟨(by decide +kernel), by decide, rfl⟩)
theorem d_M_type_22 : Db k_M_type 22 (.if_icmp .ne) 25 28 := ⟨6, (by decide +kernel), rfl, by decide⟩
theorem d_M_type_25 : Dc k_M_type 25 (-3) 27 := Or.inr (Or.inl ⟨(by decide +kernel), by decide, rfl⟩)
theorem d_M_type_27 : DrI k_M_type 27 := ⟨(by decide +kernel), rfl⟩
theorem d_M_type_28 : DlA k_M_type 28 0 29 := Or.inl ⟨0, (by decide +kernel), rfl, rfl⟩
theorem d_M_type_29 : DG k_M_type 29 5 3 32 := ⟨19, (by decide +kernel), f_M_19, rfl⟩
theorem d_M_type_32 : DlA k_M_type 32 0 33 := Or.inl ⟨0, (by decide +kernel), rfl, rfl⟩
theorem d_M_type_33 : DG k_M_type 33 5 4 36 := ⟨173, (by decide +kernel), f_M_173, rfl⟩
theorem d_M_type_36 : DlI k_M_type 36 1 37 := Or.inl ⟨1, (by decide +kernel), rfl, rfl⟩
theorem d_M_type_37 : Dk k_M_type 37 .iastore 1 38 := ⟨(by decide +kernel), rfl⟩
theorem d_M_type_38 : DlA k_M_type 38 0 39 := Or.inl ⟨0, (by decide +kernel), rfl, rfl⟩
theorem d_M_type_39 : Dk k_M_type 39 .dup 1 40 := ⟨(by decide +kernel), rfl⟩
theorem d_M_type_40 : DG k_M_type 40 5 4 43 := ⟨173, (by decide +kernel), f_M_173, rfl⟩
theorem d_M_type_43 : Dc k_M_type 43 (1) 44 := Or.inl ⟨(by decide +kernel), rfl⟩
theorem d_M_type_44 : Dk k_M_type 44 .iadd 1 45 := ⟨(by decide +kernel), rfl⟩
theorem d_M_type_45 : DP k_M_type 45 5 4 48 .int := ⟨173, (by decide +kernel), p_M_173, rfl, RX6, TX6, 16, rfl, rfl⟩
theorem d_M_type_48 : DlA k_M_type 48 0 49 := Or.inl ⟨0, (by decide +kernel), rfl, rfl⟩
theorem d_M_type_49 : DG k_M_type 49 5 4 52 := ⟨173, (by decide +kernel), f_M_173, rfl⟩
theorem d_M_type_52 : DrI k_M_type 52 := ⟨(by decide +kernel), rfl⟩
theorem d_M_here_0 : DlA k_M_here 0 0 1 := Or.inl ⟨0, (by decide +kernel), rfl, rfl⟩
theorem d_M_here_1 : DG k_M_here 1 5 5 4 := ⟨176, (by decide +kernel), f_M_176, rfl⟩
theorem d_M_here_4 : DlA k_M_here 4 0 5 := Or.inl ⟨0, (by decide +kernel), rfl, rfl⟩
theorem d_M_here_5 : DG k_M_here 5 5 4 8 := ⟨173, (by decide +kernel), f_M_173, rfl⟩
theorem d_M_here_8 : Db k_M_here 8 (.if_icmp .ge) 11 38 := ⟨30, (by decide +kernel), rfl, by decide⟩
theorem d_M_here_11 : DlA k_M_here 11 0 12 := Or.inl ⟨0, (by decide +kernel), rfl, rfl⟩
theorem d_M_here_12 : DG k_M_here 12 5 3 15 := ⟨19, (by decide +kernel), f_M_19, rfl⟩
theorem d_M_here_15 : DlA k_M_here 15 0 16 := Or.inl ⟨0, (by decide +kernel), rfl, rfl⟩
theorem d_M_here_16 : DG k_M_here 16 5 5 19 := ⟨176, (by decide +kernel), f_M_176, rfl⟩
theorem d_M_here_19 : Dk k_M_here 19 .iaload 1 20 := ⟨(by decide +kernel), rfl⟩
theorem d_M_here_20 : Dc k_M_here 20 (32) 22 := Or.inr (Or.inl ⟨(by decide +kernel), by decide, rfl⟩)
theorem d_M_here_22 : Db k_M_here 22 (.if_icmp .ne) 25 38 := ⟨16, (by decide +kernel), rfl, by decide⟩
theorem d_M_here_25 : DlA k_M_here 25 0 26 := Or.inl ⟨0, (by decide +kernel), rfl, rfl⟩
theorem d_M_here_26 : Dk k_M_here 26 .dup 1 27 := ⟨(by decide +kernel), rfl⟩
theorem d_M_here_27 : DG k_M_here 27 5 5 30 := ⟨176, (by decide +kernel), f_M_176, rfl⟩
theorem d_M_here_30 : Dc k_M_here 30 (1) 31 := Or.inl ⟨(by decide +kernel), rfl⟩
theorem d_M_here_31 : Dk k_M_here 31 .iadd 1 32 := ⟨(by decide +kernel), rfl⟩
theorem d_M_here_32 : DP k_M_here 32 5 5 35 .int := ⟨176, (by decide +kernel), p_M_176, rfl, RX6, TX6, 16, rfl, rfl⟩
theorem d_M_here_35 : Db k_M_here 35 .goto 38 0 := ⟨-35, (by decide +kernel), rfl, by decide⟩
theorem d_M_here_38 : DlA k_M_here 38 0 39 := Or.inl ⟨0, (by decide +kernel), rfl, rfl⟩
theorem d_M_here_39 : DG k_M_here 39 5 5 42 := ⟨176, (by decide +kernel), f_M_176, rfl⟩
theorem d_M_here_42 : DlA k_M_here 42 0 43 := Or.inl ⟨0, (by decide +kernel), rfl, rfl⟩
theorem d_M_here_43 : DG k_M_here 43 5 4 46 := ⟨173, (by decide +kernel), f_M_173, rfl⟩
theorem d_M_here_46 : Db k_M_here 46 (.if_icmp .ge) 49 61 := ⟨15, (by decide +kernel), rfl, by decide⟩
theorem d_M_here_49 : DlA k_M_here 49 0 50 := Or.inl ⟨0, (by decide +kernel), rfl, rfl⟩
theorem d_M_here_50 : DG k_M_here 50 5 3 53 := ⟨19, (by decide +kernel), f_M_19, rfl⟩
theorem d_M_here_53 : DlA k_M_here 53 0 54 := Or.inl ⟨0, (by decide +kernel), rfl, rfl⟩
theorem d_M_here_54 : DG k_M_here 54 5 5 57 := ⟨176, (by decide +kernel), f_M_176, rfl⟩
theorem d_M_here_57 : Dk k_M_here 57 .iaload 1 58 := ⟨(by decide +kernel), rfl⟩
theorem d_M_here_58 : Db k_M_here 58 .goto 61 62 := ⟨4, (by decide +kernel), rfl, by decide⟩
theorem d_M_here_61 : Dc k_M_here 61 (0) 62 := Or.inl ⟨(by decide +kernel), rfl⟩
theorem d_M_here_62 : DrI k_M_here 62 := ⟨(by decide +kernel), rfl⟩
theorem d_M_event_0 : DlA k_M_event 0 0 1 := Or.inl ⟨0, (by decide +kernel), rfl, rfl⟩
theorem d_M_event_1 : DCV k_M_event 1 k_M_here 5 0 4 := ⟨179, (by decide +kernel), rfl, tb_at 832 (by decide +kernel) (by decide +kernel), m_M_here, iv_M_here.1, iv_M_here.2, ⟨(RX6, TX6, 16), rfl, rfl⟩, by decide +kernel, by decide⟩
theorem d_M_event_4 : DsI k_M_event 4 1 5 := ⟨Or.inl ⟨1, (by decide +kernel), rfl, rfl⟩, by decide⟩
theorem d_M_event_5 : DlI k_M_event 5 1 6 := Or.inl ⟨1, (by decide +kernel), rfl, rfl⟩
theorem d_M_event_6 : Dc k_M_event 6 (46) 8 := Or.inr (Or.inl ⟨(by decide +kernel), by decide, rfl⟩)
theorem d_M_event_8 : Db k_M_event 8 (.if_icmp .ne) 11 24 := ⟨16, (by decide +kernel), rfl, by decide⟩
theorem d_M_event_11 : DlA k_M_event 11 0 12 := Or.inl ⟨0, (by decide +kernel), rfl, rfl⟩
theorem d_M_event_12 : Dk k_M_event 12 .dup 1 13 := ⟨(by decide +kernel), rfl⟩
theorem d_M_event_13 : DG k_M_event 13 5 5 16 := ⟨176, (by decide +kernel), f_M_176, rfl⟩
theorem d_M_event_16 : Dc k_M_event 16 (1) 17 := Or.inl ⟨(by decide +kernel), rfl⟩
theorem d_M_event_17 : Dk k_M_event 17 .iadd 1 18 := ⟨(by decide +kernel), rfl⟩
theorem d_M_event_18 : DP k_M_event 18 5 5 21 .int := ⟨176, (by decide +kernel), p_M_176, rfl, RX6, TX6, 16, rfl, rfl⟩
theorem d_M_event_21 : Dc k_M_event 21 (99) 23 := Or.inr (Or.inl ⟨(by decide +kernel), by decide, rfl⟩)
theorem d_M_event_23 : DrI k_M_event 23 := ⟨(by decide +kernel), rfl⟩
theorem d_M_event_24 : DlI k_M_event 24 1 25 := Or.inl ⟨1, (by decide +kernel), rfl, rfl⟩
theorem d_M_event_25 : Dk k_M_event 25 .i2l 1 26 := ⟨(by decide +kernel), rfl⟩
theorem d_M_event_26 : DcL k_M_event 26 (48) 29 := Or.inr ⟨182, (by decide +kernel), tb_at 840 (by decide +kernel) (by decide +kernel), rfl⟩
theorem d_M_event_29 : DcL k_M_event 29 (55) 32 := Or.inr ⟨184, (by decide +kernel), tb_at 841 (by decide +kernel) (by decide +kernel), rfl⟩
theorem d_M_event_32 : DCS k_M_event 32 k_M_in 3 35 := ⟨48, (by decide +kernel), rfl, Or.inl (tb_at 654 (by decide +kernel) (by decide +kernel)), m_M_in, is_M_in, by decide +kernel, by decide⟩
theorem d_M_event_35 : Db k_M_event 35 (.ifCond .ne) 38 46 := ⟨11, (by decide +kernel), rfl, by decide⟩
theorem d_M_event_38 : DlI k_M_event 38 1 39 := Or.inl ⟨1, (by decide +kernel), rfl, rfl⟩
theorem d_M_event_39 : Dc k_M_event 39 (33) 41 := Or.inr (Or.inl ⟨(by decide +kernel), by decide, rfl⟩)
theorem d_M_event_41 : Db k_M_event 41 (.if_icmp .eq) 44 46 := ⟨5, (by decide +kernel), rfl, by decide⟩
theorem d_M_event_44 : Dc k_M_event 44 (-1) 45 := Or.inl ⟨(by decide +kernel), rfl⟩
theorem d_M_event_45 : DrI k_M_event 45 := ⟨(by decide +kernel), rfl⟩
theorem d_M_event_46 : DlA k_M_event 46 0 47 := Or.inl ⟨0, (by decide +kernel), rfl, rfl⟩
theorem d_M_event_47 : Dk k_M_event 47 .dup 1 48 := ⟨(by decide +kernel), rfl⟩
theorem d_M_event_48 : DG k_M_event 48 5 5 51 := ⟨176, (by decide +kernel), f_M_176, rfl⟩
theorem d_M_event_51 : Dc k_M_event 51 (1) 52 := Or.inl ⟨(by decide +kernel), rfl⟩
theorem d_M_event_52 : Dk k_M_event 52 .iadd 1 53 := ⟨(by decide +kernel), rfl⟩
theorem d_M_event_53 : DP k_M_event 53 5 5 56 .int := ⟨176, (by decide +kernel), p_M_176, rfl, RX6, TX6, 16, rfl, rfl⟩
theorem d_M_event_56 : DlA k_M_event 56 0 57 := Or.inl ⟨0, (by decide +kernel), rfl, rfl⟩
theorem d_M_event_57 : DCV k_M_event 57 k_M_here 5 0 60 := ⟨179, (by decide +kernel), rfl, tb_at 832 (by decide +kernel) (by decide +kernel), m_M_here, iv_M_here.1, iv_M_here.2, ⟨(RX6, TX6, 16), rfl, rfl⟩, by decide +kernel, by decide⟩
theorem d_M_event_60 : Dc k_M_event 60 (62) 62 := Or.inr (Or.inl ⟨(by decide +kernel), by decide, rfl⟩)
theorem d_M_event_62 : Db k_M_event 62 (.if_icmp .eq) 65 67 := ⟨5, (by decide +kernel), rfl, by decide⟩
theorem d_M_event_65 : Dc k_M_event 65 (-1) 66 := Or.inl ⟨(by decide +kernel), rfl⟩
theorem d_M_event_66 : DrI k_M_event 66 := ⟨(by decide +kernel), rfl⟩
theorem d_M_event_67 : DlA k_M_event 67 0 68 := Or.inl ⟨0, (by decide +kernel), rfl, rfl⟩
theorem d_M_event_68 : Dk k_M_event 68 .dup 1 69 := ⟨(by decide +kernel), rfl⟩
theorem d_M_event_69 : DG k_M_event 69 5 5 72 := ⟨176, (by decide +kernel), f_M_176, rfl⟩
theorem d_M_event_72 : Dc k_M_event 72 (1) 73 := Or.inl ⟨(by decide +kernel), rfl⟩
theorem d_M_event_73 : Dk k_M_event 73 .iadd 1 74 := ⟨(by decide +kernel), rfl⟩
theorem d_M_event_74 : DP k_M_event 74 5 5 77 .int := ⟨176, (by decide +kernel), p_M_176, rfl, RX6, TX6, 16, rfl, rfl⟩
theorem d_M_event_77 : DlA k_M_event 77 0 78 := Or.inl ⟨0, (by decide +kernel), rfl, rfl⟩
theorem d_M_event_78 : DCV k_M_event 78 k_M_here 5 0 81 := ⟨179, (by decide +kernel), rfl, tb_at 832 (by decide +kernel) (by decide +kernel), m_M_here, iv_M_here.1, iv_M_here.2, ⟨(RX6, TX6, 16), rfl, rfl⟩, by decide +kernel, by decide⟩
theorem d_M_event_81 : DsI k_M_event 81 2 82 := ⟨Or.inl ⟨2, (by decide +kernel), rfl, rfl⟩, by decide⟩
theorem d_M_event_82 : DlI k_M_event 82 2 83 := Or.inl ⟨2, (by decide +kernel), rfl, rfl⟩
theorem d_M_event_83 : Dk k_M_event 83 .i2l 1 84 := ⟨(by decide +kernel), rfl⟩
theorem d_M_event_84 : DcL k_M_event 84 (48) 87 := Or.inr ⟨182, (by decide +kernel), tb_at 840 (by decide +kernel) (by decide +kernel), rfl⟩
theorem d_M_event_87 : DcL k_M_event 87 (55) 90 := Or.inr ⟨184, (by decide +kernel), tb_at 841 (by decide +kernel) (by decide +kernel), rfl⟩
theorem d_M_event_90 : DCS k_M_event 90 k_M_in 3 93 := ⟨48, (by decide +kernel), rfl, Or.inl (tb_at 654 (by decide +kernel) (by decide +kernel)), m_M_in, is_M_in, by decide +kernel, by decide⟩
theorem d_M_event_93 : Db k_M_event 93 (.ifCond .ne) 96 98 := ⟨5, (by decide +kernel), rfl, by decide⟩
theorem d_M_event_96 : Dc k_M_event 96 (-1) 97 := Or.inl ⟨(by decide +kernel), rfl⟩
theorem d_M_event_97 : DrI k_M_event 97 := ⟨(by decide +kernel), rfl⟩
theorem d_M_event_98 : DlA k_M_event 98 0 99 := Or.inl ⟨0, (by decide +kernel), rfl, rfl⟩
theorem d_M_event_99 : Dk k_M_event 99 .dup 1 100 := ⟨(by decide +kernel), rfl⟩
theorem d_M_event_100 : DG k_M_event 100 5 5 103 := ⟨176, (by decide +kernel), f_M_176, rfl⟩
theorem d_M_event_103 : Dc k_M_event 103 (1) 104 := Or.inl ⟨(by decide +kernel), rfl⟩
theorem d_M_event_104 : Dk k_M_event 104 .iadd 1 105 := ⟨(by decide +kernel), rfl⟩
theorem d_M_event_105 : DP k_M_event 105 5 5 108 .int := ⟨176, (by decide +kernel), p_M_176, rfl, RX6, TX6, 16, rfl, rfl⟩
theorem d_M_event_108 : Dc k_M_event 108 (10) 110 := Or.inr (Or.inl ⟨(by decide +kernel), by decide, rfl⟩)
theorem d_M_event_110 : DlI k_M_event 110 1 111 := Or.inl ⟨1, (by decide +kernel), rfl, rfl⟩
theorem d_M_event_111 : Dc k_M_event 111 (33) 113 := Or.inr (Or.inl ⟨(by decide +kernel), by decide, rfl⟩)
theorem d_M_event_113 : Db k_M_event 113 (.if_icmp .ne) 116 121 := ⟨8, (by decide +kernel), rfl, by decide⟩
theorem d_M_event_116 : Dc k_M_event 116 (9) 118 := Or.inr (Or.inl ⟨(by decide +kernel), by decide, rfl⟩)
theorem d_M_event_118 : Db k_M_event 118 .goto 121 125 := ⟨7, (by decide +kernel), rfl, by decide⟩
theorem d_M_event_121 : DlI k_M_event 121 1 122 := Or.inl ⟨1, (by decide +kernel), rfl, rfl⟩
theorem d_M_event_122 : Dc k_M_event 122 (48) 124 := Or.inr (Or.inl ⟨(by decide +kernel), by decide, rfl⟩)
theorem d_M_event_124 : Dk k_M_event 124 .isub 1 125 := ⟨(by decide +kernel), rfl⟩
theorem d_M_event_125 : Dk k_M_event 125 .imul 1 126 := ⟨(by decide +kernel), rfl⟩
theorem d_M_event_126 : DlI k_M_event 126 2 127 := Or.inl ⟨2, (by decide +kernel), rfl, rfl⟩
theorem d_M_event_127 : Dk k_M_event 127 .iadd 1 128 := ⟨(by decide +kernel), rfl⟩
theorem d_M_event_128 : Dc k_M_event 128 (48) 130 := Or.inr (Or.inl ⟨(by decide +kernel), by decide, rfl⟩)
theorem d_M_event_130 : Dk k_M_event 130 .isub 1 131 := ⟨(by decide +kernel), rfl⟩
theorem d_M_event_131 : DrI k_M_event 131 := ⟨(by decide +kernel), rfl⟩
theorem d_M_goesThrough_0 : DlA k_M_goesThrough 0 0 1 := Or.inl ⟨0, (by decide +kernel), rfl, rfl⟩
theorem d_M_goesThrough_1 : Dc k_M_goesThrough 1 (0) 2 := Or.inl ⟨(by decide +kernel), rfl⟩
theorem d_M_goesThrough_2 : DP k_M_goesThrough 2 5 5 5 .int := ⟨176, (by decide +kernel), p_M_176, rfl, RX6, TX6, 16, rfl, rfl⟩
theorem d_M_goesThrough_5 : DlA k_M_goesThrough 5 0 6 := Or.inl ⟨0, (by decide +kernel), rfl, rfl⟩
theorem d_M_goesThrough_6 : Dc k_M_goesThrough 6 (0) 7 := Or.inl ⟨(by decide +kernel), rfl⟩
theorem d_M_goesThrough_7 : DP k_M_goesThrough 7 5 6 10 .int := ⟨186, (by decide +kernel), p_M_186, rfl, RX6, TX6, 16, rfl, rfl⟩
theorem d_M_goesThrough_10 : Dc k_M_goesThrough 10 (1) 11 := Or.inl ⟨(by decide +kernel), rfl⟩
theorem d_M_goesThrough_11 : DsI k_M_goesThrough 11 2 12 := ⟨Or.inl ⟨2, (by decide +kernel), rfl, rfl⟩, by decide⟩
theorem d_M_goesThrough_12 : Dc k_M_goesThrough 12 (1) 13 := Or.inl ⟨(by decide +kernel), rfl⟩
theorem d_M_goesThrough_13 : DsI k_M_goesThrough 13 3 14 := ⟨Or.inl ⟨3, (by decide +kernel), rfl, rfl⟩, by decide⟩
theorem d_M_goesThrough_14 : DlI k_M_goesThrough 14 2 15 := Or.inl ⟨2, (by decide +kernel), rfl, rfl⟩
theorem d_M_goesThrough_15 : Db k_M_goesThrough 15 (.ifCond .eq) 18 131 := ⟨116, (by decide +kernel), rfl, by decide⟩
theorem d_M_goesThrough_18 : DlI k_M_goesThrough 18 3 19 := Or.inl ⟨3, (by decide +kernel), rfl, rfl⟩
theorem d_M_goesThrough_19 : Db k_M_goesThrough 19 (.ifCond .eq) 22 131 := ⟨112, (by decide +kernel), rfl, by decide⟩
theorem d_M_goesThrough_22 : DlA k_M_goesThrough 22 0 23 := Or.inl ⟨0, (by decide +kernel), rfl, rfl⟩
theorem d_M_goesThrough_23 : DG k_M_goesThrough 23 5 6 26 := ⟨186, (by decide +kernel), f_M_186, rfl⟩
theorem d_M_goesThrough_26 : Db k_M_goesThrough 26 (.ifCond .eq) 29 36 := ⟨10, (by decide +kernel), rfl, by decide⟩
theorem d_M_goesThrough_29 : DlA k_M_goesThrough 29 0 30 := Or.inl ⟨0, (by decide +kernel), rfl, rfl⟩
theorem d_M_goesThrough_30 : DCV k_M_goesThrough 30 k_M_here 5 0 33 := ⟨179, (by decide +kernel), rfl, tb_at 832 (by decide +kernel) (by decide +kernel), m_M_here, iv_M_here.1, iv_M_here.2, ⟨(RX6, TX6, 16), rfl, rfl⟩, by decide +kernel, by decide⟩
theorem d_M_goesThrough_33 : Db k_M_goesThrough 33 (.ifCond .eq) 36 131 := ⟨98, (by decide +kernel), rfl, by decide⟩
theorem d_M_goesThrough_36 : DlA k_M_goesThrough 36 0 37 := Or.inl ⟨0, (by decide +kernel), rfl, rfl⟩
theorem d_M_goesThrough_37 : DCV k_M_goesThrough 37 k_M_event 5 0 40 := ⟨189, (by decide +kernel), rfl, tb_at 836 (by decide +kernel) (by decide +kernel), m_M_event, iv_M_event.1, iv_M_event.2, ⟨(RX6, TX6, 16), rfl, rfl⟩, by decide +kernel, by decide⟩
theorem d_M_goesThrough_40 : DsI k_M_goesThrough 40 4 42 := ⟨Or.inr ⟨(by decide +kernel), rfl⟩, by decide⟩
theorem d_M_goesThrough_42 : DlI k_M_goesThrough 42 4 44 := Or.inr ⟨(by decide +kernel), rfl⟩
theorem d_M_goesThrough_44 : Db k_M_goesThrough 44 (.ifCond .lt) 47 51 := ⟨7, (by decide +kernel), rfl, by decide⟩
theorem d_M_goesThrough_47 : Dc k_M_goesThrough 47 (1) 48 := Or.inl ⟨(by decide +kernel), rfl⟩
theorem d_M_goesThrough_48 : Db k_M_goesThrough 48 .goto 51 52 := ⟨4, (by decide +kernel), rfl, by decide⟩
theorem d_M_goesThrough_51 : Dc k_M_goesThrough 51 (0) 52 := Or.inl ⟨(by decide +kernel), rfl⟩
theorem d_M_goesThrough_52 : DsI k_M_goesThrough 52 2 53 := ⟨Or.inl ⟨2, (by decide +kernel), rfl, rfl⟩, by decide⟩
theorem d_M_goesThrough_53 : DlI k_M_goesThrough 53 1 54 := Or.inl ⟨1, (by decide +kernel), rfl, rfl⟩
theorem d_M_goesThrough_54 : Db k_M_goesThrough 54 (.ifCond .eq) 57 61 := ⟨7, (by decide +kernel), rfl, by decide⟩
theorem d_M_goesThrough_57 : DlI k_M_goesThrough 57 2 58 := Or.inl ⟨2, (by decide +kernel), rfl, rfl⟩
theorem d_M_goesThrough_58 : Db k_M_goesThrough 58 (.ifCond .ne) 61 65 := ⟨7, (by decide +kernel), rfl, by decide⟩
theorem d_M_goesThrough_61 : Dc k_M_goesThrough 61 (0) 62 := Or.inl ⟨(by decide +kernel), rfl⟩
theorem d_M_goesThrough_62 : Db k_M_goesThrough 62 .goto 65 93 := ⟨31, (by decide +kernel), rfl, by decide⟩
theorem d_M_goesThrough_65 : DlI k_M_goesThrough 65 4 67 := Or.inr ⟨(by decide +kernel), rfl⟩
theorem d_M_goesThrough_67 : Dc k_M_goesThrough 67 (99) 69 := Or.inr (Or.inl ⟨(by decide +kernel), by decide, rfl⟩)
theorem d_M_goesThrough_69 : Db k_M_goesThrough 69 (.if_icmp .ne) 72 79 := ⟨10, (by decide +kernel), rfl, by decide⟩
theorem d_M_goesThrough_72 : DlA k_M_goesThrough 72 0 73 := Or.inl ⟨0, (by decide +kernel), rfl, rfl⟩
theorem d_M_goesThrough_73 : DCV k_M_goesThrough 73 k_M_ticks 5 0 76 := ⟨108, (by decide +kernel), rfl, tb_at 713 (by decide +kernel) (by decide +kernel), m_M_ticks, iv_M_ticks.1, iv_M_ticks.2, ⟨(RX6, TX6, 16), rfl, rfl⟩, by decide +kernel, by decide⟩
theorem d_M_goesThrough_76 : Db k_M_goesThrough 76 .goto 79 93 := ⟨17, (by decide +kernel), rfl, by decide⟩
theorem d_M_goesThrough_79 : DlA k_M_goesThrough 79 0 80 := Or.inl ⟨0, (by decide +kernel), rfl, rfl⟩
theorem d_M_goesThrough_80 : DlI k_M_goesThrough 80 4 82 := Or.inr ⟨(by decide +kernel), rfl⟩
theorem d_M_goesThrough_82 : Dc k_M_goesThrough 82 (10) 84 := Or.inr (Or.inl ⟨(by decide +kernel), by decide, rfl⟩)
theorem d_M_goesThrough_84 : Dk k_M_goesThrough 84 .idiv 1 85 := ⟨(by decide +kernel), rfl⟩
theorem d_M_goesThrough_85 : DlI k_M_goesThrough 85 4 87 := Or.inr ⟨(by decide +kernel), rfl⟩
theorem d_M_goesThrough_87 : Dc k_M_goesThrough 87 (10) 89 := Or.inr (Or.inl ⟨(by decide +kernel), by decide, rfl⟩)
theorem d_M_goesThrough_89 : Dk k_M_goesThrough 89 .irem 1 90 := ⟨(by decide +kernel), rfl⟩
theorem d_M_goesThrough_90 : DCV k_M_goesThrough 90 k_M_comes 5 2 93 := ⟨105, (by decide +kernel), rfl, tb_at 677 (by decide +kernel) (by decide +kernel), m_M_comes, iv_M_comes.1, iv_M_comes.2, ⟨(RX6, TX6, 16), rfl, rfl⟩, by decide +kernel, by decide⟩
theorem d_M_goesThrough_93 : DsI k_M_goesThrough 93 5 95 := ⟨Or.inr ⟨(by decide +kernel), rfl⟩, by decide⟩
theorem d_M_goesThrough_95 : DlI k_M_goesThrough 95 5 97 := Or.inr ⟨(by decide +kernel), rfl⟩
theorem d_M_goesThrough_97 : Db k_M_goesThrough 97 (.ifCond .lt) 100 104 := ⟨7, (by decide +kernel), rfl, by decide⟩
theorem d_M_goesThrough_100 : Dc k_M_goesThrough 100 (1) 101 := Or.inl ⟨(by decide +kernel), rfl⟩
theorem d_M_goesThrough_101 : Db k_M_goesThrough 101 .goto 104 105 := ⟨4, (by decide +kernel), rfl, by decide⟩
theorem d_M_goesThrough_104 : Dc k_M_goesThrough 104 (0) 105 := Or.inl ⟨(by decide +kernel), rfl⟩
theorem d_M_goesThrough_105 : DsI k_M_goesThrough 105 3 106 := ⟨Or.inl ⟨3, (by decide +kernel), rfl, rfl⟩, by decide⟩
theorem d_M_goesThrough_106 : DlA k_M_goesThrough 106 0 107 := Or.inl ⟨0, (by decide +kernel), rfl, rfl⟩
theorem d_M_goesThrough_107 : Dk k_M_goesThrough 107 .dup 1 108 := ⟨(by decide +kernel), rfl⟩
theorem d_M_goesThrough_108 : DG k_M_goesThrough 108 5 6 111 := ⟨186, (by decide +kernel), f_M_186, rfl⟩
theorem d_M_goesThrough_111 : DlI k_M_goesThrough 111 2 112 := Or.inl ⟨2, (by decide +kernel), rfl, rfl⟩
theorem d_M_goesThrough_112 : Db k_M_goesThrough 112 (.ifCond .eq) 115 123 := ⟨11, (by decide +kernel), rfl, by decide⟩
theorem d_M_goesThrough_115 : DlI k_M_goesThrough 115 3 116 := Or.inl ⟨3, (by decide +kernel), rfl, rfl⟩
theorem d_M_goesThrough_116 : Db k_M_goesThrough 116 (.ifCond .eq) 119 123 := ⟨7, (by decide +kernel), rfl, by decide⟩
theorem d_M_goesThrough_119 : Dc k_M_goesThrough 119 (1) 120 := Or.inl ⟨(by decide +kernel), rfl⟩
theorem d_M_goesThrough_120 : Db k_M_goesThrough 120 .goto 123 124 := ⟨4, (by decide +kernel), rfl, by decide⟩
theorem d_M_goesThrough_123 : Dc k_M_goesThrough 123 (0) 124 := Or.inl ⟨(by decide +kernel), rfl⟩
theorem d_M_goesThrough_124 : Dk k_M_goesThrough 124 .iadd 1 125 := ⟨(by decide +kernel), rfl⟩
theorem d_M_goesThrough_125 : DP k_M_goesThrough 125 5 6 128 .int := ⟨186, (by decide +kernel), p_M_186, rfl, RX6, TX6, 16, rfl, rfl⟩
theorem d_M_goesThrough_128 : Db k_M_goesThrough 128 .goto 131 14 := ⟨-114, (by decide +kernel), rfl, by decide⟩
theorem d_M_goesThrough_131 : DlI k_M_goesThrough 131 2 132 := Or.inl ⟨2, (by decide +kernel), rfl, rfl⟩
theorem d_M_goesThrough_132 : DrZ k_M_goesThrough 132 := ⟨(by decide +kernel), rfl⟩
theorem d_M_read_0 : DlA k_M_read 0 0 1 := Or.inl ⟨0, (by decide +kernel), rfl, rfl⟩
theorem d_M_read_1 : Dc k_M_read 1 (0) 2 := Or.inl ⟨(by decide +kernel), rfl⟩
theorem d_M_read_2 : DCV k_M_read 2 k_M_goesThrough 5 1 5 := ⟨192, (by decide +kernel), rfl, tb_at 828 (by decide +kernel) (by decide +kernel), m_M_goesThrough, iv_M_goesThrough.1, iv_M_goesThrough.2, ⟨(RX6, TX6, 16), rfl, rfl⟩, by decide +kernel, by decide⟩
theorem d_M_read_5 : DsI k_M_read 5 1 6 := ⟨Or.inl ⟨1, (by decide +kernel), rfl, rfl⟩, by decide⟩
theorem d_M_read_6 : DlA k_M_read 6 0 7 := Or.inl ⟨0, (by decide +kernel), rfl, rfl⟩
theorem d_M_read_7 : DCV k_M_read 7 k_M_here 5 0 10 := ⟨179, (by decide +kernel), rfl, tb_at 832 (by decide +kernel) (by decide +kernel), m_M_here, iv_M_here.1, iv_M_here.2, ⟨(RX6, TX6, 16), rfl, rfl⟩, by decide +kernel, by decide⟩
theorem d_M_read_10 : Db k_M_read 10 (.ifCond .ne) 13 20 := ⟨10, (by decide +kernel), rfl, by decide⟩
theorem d_M_read_13 : DlA k_M_read 13 0 14 := Or.inl ⟨0, (by decide +kernel), rfl, rfl⟩
theorem d_M_read_14 : DG k_M_read 14 5 4 17 := ⟨173, (by decide +kernel), f_M_173, rfl⟩
theorem d_M_read_17 : Db k_M_read 17 .goto 20 24 := ⟨7, (by decide +kernel), rfl, by decide⟩
theorem d_M_read_20 : DlA k_M_read 20 0 21 := Or.inl ⟨0, (by decide +kernel), rfl, rfl⟩
theorem d_M_read_21 : DG k_M_read 21 5 5 24 := ⟨176, (by decide +kernel), f_M_176, rfl⟩
theorem d_M_read_24 : DsI k_M_read 24 2 25 := ⟨Or.inl ⟨2, (by decide +kernel), rfl, rfl⟩, by decide⟩
theorem d_M_read_25 : DlI k_M_read 25 1 26 := Or.inl ⟨1, (by decide +kernel), rfl, rfl⟩
theorem d_M_read_26 : Db k_M_read 26 (.ifCond .eq) 29 39 := ⟨13, (by decide +kernel), rfl, by decide⟩
theorem d_M_read_29 : DlA k_M_read 29 0 30 := Or.inl ⟨0, (by decide +kernel), rfl, rfl⟩
theorem d_M_read_30 : DCV k_M_read 30 k_M_notes 5 0 33 := ⟨102, (by decide +kernel), rfl, tb_at 673 (by decide +kernel) (by decide +kernel), m_M_notes, iv_M_notes.1, iv_M_notes.2, ⟨(RX6, TX6, 16), rfl, rfl⟩, by decide +kernel, by decide⟩
theorem d_M_read_33 : DlA k_M_read 33 0 34 := Or.inl ⟨0, (by decide +kernel), rfl, rfl⟩
theorem d_M_read_34 : Dc k_M_read 34 (1) 35 := Or.inl ⟨(by decide +kernel), rfl⟩
theorem d_M_read_35 : DCV k_M_read 35 k_M_goesThrough 5 1 38 := ⟨192, (by decide +kernel), rfl, tb_at 828 (by decide +kernel) (by decide +kernel), m_M_goesThrough, iv_M_goesThrough.1, iv_M_goesThrough.2, ⟨(RX6, TX6, 16), rfl, rfl⟩, by decide +kernel, by decide⟩
theorem d_M_read_38 : Dk k_M_read 38 .pop 1 39 := ⟨(by decide +kernel), rfl⟩
theorem d_M_read_39 : DlA k_M_read 39 0 40 := Or.inl ⟨0, (by decide +kernel), rfl, rfl⟩
theorem d_M_read_40 : Dc k_M_read 40 (0) 41 := Or.inl ⟨(by decide +kernel), rfl⟩
theorem d_M_read_41 : DP k_M_read 41 5 4 44 .int := ⟨173, (by decide +kernel), p_M_173, rfl, RX6, TX6, 16, rfl, rfl⟩
theorem d_M_read_44 : DlI k_M_read 44 1 45 := Or.inl ⟨1, (by decide +kernel), rfl, rfl⟩
theorem d_M_read_45 : Db k_M_read 45 (.ifCond .eq) 48 55 := ⟨10, (by decide +kernel), rfl, by decide⟩
theorem d_M_read_48 : DlA k_M_read 48 0 49 := Or.inl ⟨0, (by decide +kernel), rfl, rfl⟩
theorem d_M_read_49 : DG k_M_read 49 5 6 52 := ⟨186, (by decide +kernel), f_M_186, rfl⟩
theorem d_M_read_52 : Db k_M_read 52 .goto 55 59 := ⟨7, (by decide +kernel), rfl, by decide⟩
theorem d_M_read_55 : Dc k_M_read 55 (-20) 57 := Or.inr (Or.inl ⟨(by decide +kernel), by decide, rfl⟩)
theorem d_M_read_57 : DlI k_M_read 57 2 58 := Or.inl ⟨2, (by decide +kernel), rfl, rfl⟩
theorem d_M_read_58 : Dk k_M_read 58 .isub 1 59 := ⟨(by decide +kernel), rfl⟩
theorem d_M_read_59 : DrI k_M_read 59 := ⟨(by decide +kernel), rfl⟩
theorem d_M_drift_0 : DlI k_M_drift 0 1 1 := Or.inl ⟨1, (by decide +kernel), rfl, rfl⟩
theorem d_M_drift_1 : Dk k_M_drift 1 .i2l 1 2 := ⟨(by decide +kernel), rfl⟩
theorem d_M_drift_2 : DcL k_M_drift 2 1 3 := Or.inl ⟨1, (by decide +kernel), by decide, rfl⟩
theorem d_M_drift_3 : DcL k_M_drift 3 (40) 6 := Or.inr ⟨196, (by decide +kernel), tb_at 846 (by decide +kernel) (by decide +kernel), rfl⟩
theorem d_M_drift_6 : DCS k_M_drift 6 k_M_in 3 9 := ⟨48, (by decide +kernel), rfl, Or.inl (tb_at 654 (by decide +kernel) (by decide +kernel)), m_M_in, is_M_in, by decide +kernel, by decide⟩
theorem d_M_drift_9 : Db k_M_drift 9 (.ifCond .ne) 12 14 := ⟨5, (by decide +kernel), rfl, by decide⟩
theorem d_M_drift_12 : Dc k_M_drift 12 (-1) 13 := Or.inl ⟨(by decide +kernel), rfl⟩
theorem d_M_drift_13 : DrI k_M_drift 13 := ⟨(by decide +kernel), rfl⟩
theorem d_M_drift_14 : Dc k_M_drift 14 (0) 15 := Or.inl ⟨(by decide +kernel), rfl⟩
theorem d_M_drift_15 : DsI k_M_drift 15 2 16 := ⟨Or.inl ⟨2, (by decide +kernel), rfl, rfl⟩, by decide⟩
theorem d_M_drift_16 : DlI k_M_drift 16 2 17 := Or.inl ⟨2, (by decide +kernel), rfl, rfl⟩
theorem d_M_drift_17 : DlI k_M_drift 17 1 18 := Or.inl ⟨1, (by decide +kernel), rfl, rfl⟩
theorem d_M_drift_18 : Db k_M_drift 18 (.if_icmp .ge) 21 76 := ⟨58, (by decide +kernel), rfl, by decide⟩
theorem d_M_drift_21 : DlA k_M_drift 21 0 22 := Or.inl ⟨0, (by decide +kernel), rfl, rfl⟩
theorem d_M_drift_22 : DCV k_M_drift 22 k_M_notes 5 0 25 := ⟨102, (by decide +kernel), rfl, tb_at 673 (by decide +kernel) (by decide +kernel), m_M_notes, iv_M_notes.1, iv_M_notes.2, ⟨(RX6, TX6, 16), rfl, rfl⟩, by decide +kernel, by decide⟩
theorem d_M_drift_25 : DlA k_M_drift 25 0 26 := Or.inl ⟨0, (by decide +kernel), rfl, rfl⟩
theorem d_M_drift_26 : DCV k_M_drift 26 k_M_draws 5 0 29 := ⟨68, (by decide +kernel), rfl, tb_at 693 (by decide +kernel) (by decide +kernel), m_M_draws, iv_M_draws.1, iv_M_draws.2, ⟨(RX6, TX6, 16), rfl, rfl⟩, by decide +kernel, by decide⟩
theorem d_M_drift_29 : DsI k_M_drift 29 3 30 := ⟨Or.inl ⟨3, (by decide +kernel), rfl, rfl⟩, by decide⟩
theorem d_M_drift_30 : DlI k_M_drift 30 3 31 := Or.inl ⟨3, (by decide +kernel), rfl, rfl⟩
theorem d_M_drift_31 : Dc k_M_drift 31 (8) 33 := Or.inr (Or.inl ⟨(by decide +kernel), by decide, rfl⟩)
theorem d_M_drift_33 : Dk k_M_drift 33 .irem 1 34 := ⟨(by decide +kernel), rfl⟩
theorem d_M_drift_34 : Db k_M_drift 34 (.ifCond .ne) 37 44 := ⟨10, (by decide +kernel), rfl, by decide⟩
theorem d_M_drift_37 : DlA k_M_drift 37 0 38 := Or.inl ⟨0, (by decide +kernel), rfl, rfl⟩
theorem d_M_drift_38 : DCV k_M_drift 38 k_M_ticks 5 0 41 := ⟨108, (by decide +kernel), rfl, tb_at 713 (by decide +kernel) (by decide +kernel), m_M_ticks, iv_M_ticks.1, iv_M_ticks.2, ⟨(RX6, TX6, 16), rfl, rfl⟩, by decide +kernel, by decide⟩
theorem d_M_drift_41 : Db k_M_drift 41 .goto 44 62 := ⟨21, (by decide +kernel), rfl, by decide⟩
theorem d_M_drift_44 : DlA k_M_drift 44 0 45 := Or.inl ⟨0, (by decide +kernel), rfl, rfl⟩
theorem d_M_drift_45 : DlI k_M_drift 45 3 46 := Or.inl ⟨3, (by decide +kernel), rfl, rfl⟩
theorem d_M_drift_46 : Dc k_M_drift 46 (8) 48 := Or.inr (Or.inl ⟨(by decide +kernel), by decide, rfl⟩)
theorem d_M_drift_48 : Dk k_M_drift 48 .idiv 1 49 := ⟨(by decide +kernel), rfl⟩
theorem d_M_drift_49 : Dc k_M_drift 49 (8) 51 := Or.inr (Or.inl ⟨(by decide +kernel), by decide, rfl⟩)
theorem d_M_drift_51 : Dk k_M_drift 51 .irem 1 52 := ⟨(by decide +kernel), rfl⟩
theorem d_M_drift_52 : DlI k_M_drift 52 3 53 := Or.inl ⟨3, (by decide +kernel), rfl, rfl⟩
theorem d_M_drift_53 : Dc k_M_drift 53 (64) 55 := Or.inr (Or.inl ⟨(by decide +kernel), by decide, rfl⟩)
theorem d_M_drift_55 : Dk k_M_drift 55 .idiv 1 56 := ⟨(by decide +kernel), rfl⟩
theorem d_M_drift_56 : Dc k_M_drift 56 (8) 58 := Or.inr (Or.inl ⟨(by decide +kernel), by decide, rfl⟩)
theorem d_M_drift_58 : Dk k_M_drift 58 .irem 1 59 := ⟨(by decide +kernel), rfl⟩
theorem d_M_drift_59 : DCV k_M_drift 59 k_M_comes 5 2 62 := ⟨105, (by decide +kernel), rfl, tb_at 677 (by decide +kernel) (by decide +kernel), m_M_comes, iv_M_comes.1, iv_M_comes.2, ⟨(RX6, TX6, 16), rfl, rfl⟩, by decide +kernel, by decide⟩
theorem d_M_drift_62 : DsI k_M_drift 62 4 64 := ⟨Or.inr ⟨(by decide +kernel), rfl⟩, by decide⟩
theorem d_M_drift_64 : DlA k_M_drift 64 0 65 := Or.inl ⟨0, (by decide +kernel), rfl, rfl⟩
theorem d_M_drift_65 : DlI k_M_drift 65 4 67 := Or.inr ⟨(by decide +kernel), rfl⟩
theorem d_M_drift_67 : DP k_M_drift 67 5 6 70 .int := ⟨186, (by decide +kernel), p_M_186, rfl, RX6, TX6, 16, rfl, rfl⟩
theorem d_M_drift_70 : Dinc k_M_drift 70 2 (1) 73 := ⟨(by decide +kernel), rfl, by decide⟩
theorem d_M_drift_73 : Db k_M_drift 73 .goto 76 16 := ⟨-57, (by decide +kernel), rfl, by decide⟩
theorem d_M_drift_76 : DlA k_M_drift 76 0 77 := Or.inl ⟨0, (by decide +kernel), rfl, rfl⟩
theorem d_M_drift_77 : DG k_M_drift 77 5 0 80 := ⟨7, (by decide +kernel), f_M_7, rfl⟩
theorem d_M_drift_80 : Dc k_M_drift 80 (5) 81 := Or.inl ⟨(by decide +kernel), rfl⟩
theorem d_M_drift_81 : Dk k_M_drift 81 .iaload 1 82 := ⟨(by decide +kernel), rfl⟩
theorem d_M_drift_82 : DrI k_M_drift 82 := ⟨(by decide +kernel), rfl⟩
theorem d_M_seed_0 : DlI k_M_seed 0 1 1 := Or.inl ⟨1, (by decide +kernel), rfl, rfl⟩
theorem d_M_seed_1 : Db k_M_seed 1 (.ifCond .ge) 4 6 := ⟨5, (by decide +kernel), rfl, by decide⟩
theorem d_M_seed_4 : Dc k_M_seed 4 (-1) 5 := Or.inl ⟨(by decide +kernel), rfl⟩
theorem d_M_seed_5 : DrI k_M_seed 5 := ⟨(by decide +kernel), rfl⟩
theorem d_M_seed_6 : DlA k_M_seed 6 0 7 := Or.inl ⟨0, (by decide +kernel), rfl, rfl⟩
theorem d_M_seed_7 : DG k_M_seed 7 5 0 10 := ⟨7, (by decide +kernel), f_M_7, rfl⟩
theorem d_M_seed_10 : Dc k_M_seed 10 (4) 11 := Or.inl ⟨(by decide +kernel), rfl⟩
theorem d_M_seed_11 : Dk k_M_seed 11 .iaload 1 12 := ⟨(by decide +kernel), rfl⟩
theorem d_M_seed_12 : DsI k_M_seed 12 2 13 := ⟨Or.inl ⟨2, (by decide +kernel), rfl, rfl⟩, by decide⟩
theorem d_M_seed_13 : DlA k_M_seed 13 0 14 := Or.inl ⟨0, (by decide +kernel), rfl, rfl⟩
theorem d_M_seed_14 : DG k_M_seed 14 5 0 17 := ⟨7, (by decide +kernel), f_M_7, rfl⟩
theorem d_M_seed_17 : Dc k_M_seed 17 (4) 18 := Or.inl ⟨(by decide +kernel), rfl⟩
theorem d_M_seed_18 : DlI k_M_seed 18 1 19 := Or.inl ⟨1, (by decide +kernel), rfl, rfl⟩
theorem d_M_seed_19 : Dk k_M_seed 19 .iastore 1 20 := ⟨(by decide +kernel), rfl⟩
theorem d_M_seed_20 : DlI k_M_seed 20 2 21 := Or.inl ⟨2, (by decide +kernel), rfl, rfl⟩
theorem d_M_seed_21 : DrI k_M_seed 21 := ⟨(by decide +kernel), rfl⟩
theorem d_M_notes_0 : DlA k_M_notes 0 0 1 := Or.inl ⟨0, (by decide +kernel), rfl, rfl⟩
theorem d_M_notes_1 : DG k_M_notes 1 5 8 4 := ⟨155, (by decide +kernel), f_M_155, rfl⟩
theorem d_M_notes_4 : Dc k_M_notes 4 (6) 6 := Or.inr (Or.inl ⟨(by decide +kernel), by decide, rfl⟩)
theorem d_M_notes_6 : Db k_M_notes 6 (.if_icmp .ne) 9 47 := ⟨41, (by decide +kernel), rfl, by decide⟩
theorem d_M_notes_9 : Dc k_M_notes 9 (402) 12 := Or.inr (Or.inr (Or.inl ⟨(by decide +kernel), by decide, rfl⟩))
theorem d_M_notes_12 : DsI k_M_notes 12 1 13 := ⟨Or.inl ⟨1, (by decide +kernel), rfl, rfl⟩, by decide⟩
theorem d_M_notes_13 : DlI k_M_notes 13 1 14 := Or.inl ⟨1, (by decide +kernel), rfl, rfl⟩
theorem d_M_notes_14 : Dc k_M_notes 14 (2412) 17 := Or.inr (Or.inr (Or.inl ⟨(by decide +kernel), by decide, rfl⟩))
theorem d_M_notes_17 : Db k_M_notes 17 (.if_icmp .ge) 20 42 := ⟨25, (by decide +kernel), rfl, by decide⟩
theorem d_M_notes_20 : DlA k_M_notes 20 0 21 := Or.inl ⟨0, (by decide +kernel), rfl, rfl⟩
theorem d_M_notes_21 : DG k_M_notes 21 5 7 24 := ⟨22, (by decide +kernel), f_M_22, rfl⟩
theorem d_M_notes_24 : DlI k_M_notes 24 1 25 := Or.inl ⟨1, (by decide +kernel), rfl, rfl⟩
theorem d_M_notes_25 : Dc k_M_notes 25 (402) 28 := Or.inr (Or.inr (Or.inl ⟨(by decide +kernel), by decide, rfl⟩))
theorem d_M_notes_28 : Dk k_M_notes 28 .isub 1 29 := ⟨(by decide +kernel), rfl⟩
theorem d_M_notes_29 : DlA k_M_notes 29 0 30 := Or.inl ⟨0, (by decide +kernel), rfl, rfl⟩
theorem d_M_notes_30 : DG k_M_notes 30 5 7 33 := ⟨22, (by decide +kernel), f_M_22, rfl⟩
theorem d_M_notes_33 : DlI k_M_notes 33 1 34 := Or.inl ⟨1, (by decide +kernel), rfl, rfl⟩
theorem d_M_notes_34 : Dk k_M_notes 34 .iaload 1 35 := ⟨(by decide +kernel), rfl⟩
theorem d_M_notes_35 : Dk k_M_notes 35 .iastore 1 36 := ⟨(by decide +kernel), rfl⟩
theorem d_M_notes_36 : Dinc k_M_notes 36 1 (1) 39 := ⟨(by decide +kernel), rfl, by decide⟩
theorem d_M_notes_39 : Db k_M_notes 39 .goto 42 13 := ⟨-26, (by decide +kernel), rfl, by decide⟩
theorem d_M_notes_42 : DlA k_M_notes 42 0 43 := Or.inl ⟨0, (by decide +kernel), rfl, rfl⟩
theorem d_M_notes_43 : Dc k_M_notes 43 (5) 44 := Or.inl ⟨(by decide +kernel), rfl⟩
theorem d_M_notes_44 : DP k_M_notes 44 5 8 47 .int := ⟨155, (by decide +kernel), p_M_155, rfl, RX6, TX6, 16, rfl, rfl⟩
theorem d_M_notes_47 : Dc k_M_notes 47 (0) 48 := Or.inl ⟨(by decide +kernel), rfl⟩
theorem d_M_notes_48 : DsI k_M_notes 48 1 49 := ⟨Or.inl ⟨1, (by decide +kernel), rfl, rfl⟩, by decide⟩
theorem d_M_notes_49 : DlI k_M_notes 49 1 50 := Or.inl ⟨1, (by decide +kernel), rfl, rfl⟩
theorem d_M_notes_50 : Dc k_M_notes 50 (402) 53 := Or.inr (Or.inr (Or.inl ⟨(by decide +kernel), by decide, rfl⟩))
theorem d_M_notes_53 : Db k_M_notes 53 (.if_icmp .ge) 56 83 := ⟨30, (by decide +kernel), rfl, by decide⟩
theorem d_M_notes_56 : DlA k_M_notes 56 0 57 := Or.inl ⟨0, (by decide +kernel), rfl, rfl⟩
theorem d_M_notes_57 : DG k_M_notes 57 5 7 60 := ⟨22, (by decide +kernel), f_M_22, rfl⟩
theorem d_M_notes_60 : Dc k_M_notes 60 (402) 63 := Or.inr (Or.inr (Or.inl ⟨(by decide +kernel), by decide, rfl⟩))
theorem d_M_notes_63 : DlA k_M_notes 63 0 64 := Or.inl ⟨0, (by decide +kernel), rfl, rfl⟩
theorem d_M_notes_64 : DG k_M_notes 64 5 8 67 := ⟨155, (by decide +kernel), f_M_155, rfl⟩
theorem d_M_notes_67 : Dk k_M_notes 67 .imul 1 68 := ⟨(by decide +kernel), rfl⟩
theorem d_M_notes_68 : DlI k_M_notes 68 1 69 := Or.inl ⟨1, (by decide +kernel), rfl, rfl⟩
theorem d_M_notes_69 : Dk k_M_notes 69 .iadd 1 70 := ⟨(by decide +kernel), rfl⟩
theorem d_M_notes_70 : DlA k_M_notes 70 0 71 := Or.inl ⟨0, (by decide +kernel), rfl, rfl⟩
theorem d_M_notes_71 : DG k_M_notes 71 5 0 74 := ⟨7, (by decide +kernel), f_M_7, rfl⟩
theorem d_M_notes_74 : DlI k_M_notes 74 1 75 := Or.inl ⟨1, (by decide +kernel), rfl, rfl⟩
theorem d_M_notes_75 : Dk k_M_notes 75 .iaload 1 76 := ⟨(by decide +kernel), rfl⟩
theorem d_M_notes_76 : Dk k_M_notes 76 .iastore 1 77 := ⟨(by decide +kernel), rfl⟩
theorem d_M_notes_77 : Dinc k_M_notes 77 1 (1) 80 := ⟨(by decide +kernel), rfl, by decide⟩
theorem d_M_notes_80 : Db k_M_notes 80 .goto 83 49 := ⟨-31, (by decide +kernel), rfl, by decide⟩
theorem d_M_notes_83 : DlA k_M_notes 83 0 84 := Or.inl ⟨0, (by decide +kernel), rfl, rfl⟩
theorem d_M_notes_84 : Dk k_M_notes 84 .dup 1 85 := ⟨(by decide +kernel), rfl⟩
theorem d_M_notes_85 : DG k_M_notes 85 5 8 88 := ⟨155, (by decide +kernel), f_M_155, rfl⟩
theorem d_M_notes_88 : Dc k_M_notes 88 (1) 89 := Or.inl ⟨(by decide +kernel), rfl⟩
theorem d_M_notes_89 : Dk k_M_notes 89 .iadd 1 90 := ⟨(by decide +kernel), rfl⟩
theorem d_M_notes_90 : DP k_M_notes 90 5 8 93 .int := ⟨155, (by decide +kernel), p_M_155, rfl, RX6, TX6, 16, rfl, rfl⟩
theorem d_M_notes_93 : DrV k_M_notes 93 := ⟨(by decide +kernel), rfl⟩
theorem d_M_undo_0 : DlA k_M_undo 0 0 1 := Or.inl ⟨0, (by decide +kernel), rfl, rfl⟩
theorem d_M_undo_1 : DG k_M_undo 1 5 8 4 := ⟨155, (by decide +kernel), f_M_155, rfl⟩
theorem d_M_undo_4 : Db k_M_undo 4 (.ifCond .ne) 7 10 := ⟨6, (by decide +kernel), rfl, by decide⟩
theorem d_M_undo_7 : Dc k_M_undo 7 (-4) 9 := Or.inr (Or.inl ⟨(by decide +kernel), by decide, rfl⟩)
theorem d_M_undo_9 : DrI k_M_undo 9 := ⟨(by decide +kernel), rfl⟩
theorem d_M_undo_10 : DlA k_M_undo 10 0 11 := Or.inl ⟨0, (by decide +kernel), rfl, rfl⟩
theorem d_M_undo_11 : Dk k_M_undo 11 .dup 1 12 := ⟨(by decide +kernel), rfl⟩
theorem d_M_undo_12 : DG k_M_undo 12 5 8 15 := ⟨155, (by decide +kernel), f_M_155, rfl⟩
theorem d_M_undo_15 : Dc k_M_undo 15 (1) 16 := Or.inl ⟨(by decide +kernel), rfl⟩
theorem d_M_undo_16 : Dk k_M_undo 16 .isub 1 17 := ⟨(by decide +kernel), rfl⟩
theorem d_M_undo_17 : DP k_M_undo 17 5 8 20 .int := ⟨155, (by decide +kernel), p_M_155, rfl, RX6, TX6, 16, rfl, rfl⟩
theorem d_M_undo_20 : Dc k_M_undo 20 (0) 21 := Or.inl ⟨(by decide +kernel), rfl⟩
theorem d_M_undo_21 : DsI k_M_undo 21 1 22 := ⟨Or.inl ⟨1, (by decide +kernel), rfl, rfl⟩, by decide⟩
theorem d_M_undo_22 : DlI k_M_undo 22 1 23 := Or.inl ⟨1, (by decide +kernel), rfl, rfl⟩
theorem d_M_undo_23 : Dc k_M_undo 23 (402) 26 := Or.inr (Or.inr (Or.inl ⟨(by decide +kernel), by decide, rfl⟩))
theorem d_M_undo_26 : Db k_M_undo 26 (.if_icmp .ge) 29 56 := ⟨30, (by decide +kernel), rfl, by decide⟩
theorem d_M_undo_29 : DlA k_M_undo 29 0 30 := Or.inl ⟨0, (by decide +kernel), rfl, rfl⟩
theorem d_M_undo_30 : DG k_M_undo 30 5 0 33 := ⟨7, (by decide +kernel), f_M_7, rfl⟩
theorem d_M_undo_33 : DlI k_M_undo 33 1 34 := Or.inl ⟨1, (by decide +kernel), rfl, rfl⟩
theorem d_M_undo_34 : DlA k_M_undo 34 0 35 := Or.inl ⟨0, (by decide +kernel), rfl, rfl⟩
theorem d_M_undo_35 : DG k_M_undo 35 5 7 38 := ⟨22, (by decide +kernel), f_M_22, rfl⟩
theorem d_M_undo_38 : Dc k_M_undo 38 (402) 41 := Or.inr (Or.inr (Or.inl ⟨(by decide +kernel), by decide, rfl⟩))
theorem d_M_undo_41 : DlA k_M_undo 41 0 42 := Or.inl ⟨0, (by decide +kernel), rfl, rfl⟩
theorem d_M_undo_42 : DG k_M_undo 42 5 8 45 := ⟨155, (by decide +kernel), f_M_155, rfl⟩
theorem d_M_undo_45 : Dk k_M_undo 45 .imul 1 46 := ⟨(by decide +kernel), rfl⟩
theorem d_M_undo_46 : DlI k_M_undo 46 1 47 := Or.inl ⟨1, (by decide +kernel), rfl, rfl⟩
theorem d_M_undo_47 : Dk k_M_undo 47 .iadd 1 48 := ⟨(by decide +kernel), rfl⟩
theorem d_M_undo_48 : Dk k_M_undo 48 .iaload 1 49 := ⟨(by decide +kernel), rfl⟩
theorem d_M_undo_49 : Dk k_M_undo 49 .iastore 1 50 := ⟨(by decide +kernel), rfl⟩
theorem d_M_undo_50 : Dinc k_M_undo 50 1 (1) 53 := ⟨(by decide +kernel), rfl, by decide⟩
theorem d_M_undo_53 : Db k_M_undo 53 .goto 56 22 := ⟨-31, (by decide +kernel), rfl, by decide⟩
theorem d_M_undo_56 : DlA k_M_undo 56 0 57 := Or.inl ⟨0, (by decide +kernel), rfl, rfl⟩
theorem d_M_undo_57 : DG k_M_undo 57 5 8 60 := ⟨155, (by decide +kernel), f_M_155, rfl⟩
theorem d_M_undo_60 : DrI k_M_undo 60 := ⟨(by decide +kernel), rfl⟩
theorem d_M_image_0 : Dc k_M_image 0 (0) 1 := Or.inl ⟨(by decide +kernel), rfl⟩
theorem d_M_image_1 : DsI k_M_image 1 1 2 := ⟨Or.inl ⟨1, (by decide +kernel), rfl, rfl⟩, by decide⟩
theorem d_M_image_2 : DlI k_M_image 2 1 3 := Or.inl ⟨1, (by decide +kernel), rfl, rfl⟩
theorem d_M_image_3 : Dc k_M_image 3 (402) 6 := Or.inr (Or.inr (Or.inl ⟨(by decide +kernel), by decide, rfl⟩))
theorem d_M_image_6 : Db k_M_image 6 (.if_icmp .ge) 9 27 := ⟨21, (by decide +kernel), rfl, by decide⟩
theorem d_M_image_9 : DlA k_M_image 9 0 10 := Or.inl ⟨0, (by decide +kernel), rfl, rfl⟩
theorem d_M_image_10 : DG k_M_image 10 5 9 13 := ⟨25, (by decide +kernel), f_M_25, rfl⟩
theorem d_M_image_13 : DlI k_M_image 13 1 14 := Or.inl ⟨1, (by decide +kernel), rfl, rfl⟩
theorem d_M_image_14 : DlA k_M_image 14 0 15 := Or.inl ⟨0, (by decide +kernel), rfl, rfl⟩
theorem d_M_image_15 : DG k_M_image 15 5 0 18 := ⟨7, (by decide +kernel), f_M_7, rfl⟩
theorem d_M_image_18 : DlI k_M_image 18 1 19 := Or.inl ⟨1, (by decide +kernel), rfl, rfl⟩
theorem d_M_image_19 : Dk k_M_image 19 .iaload 1 20 := ⟨(by decide +kernel), rfl⟩
theorem d_M_image_20 : Dk k_M_image 20 .iastore 1 21 := ⟨(by decide +kernel), rfl⟩
theorem d_M_image_21 : Dinc k_M_image 21 1 (1) 24 := ⟨(by decide +kernel), rfl, by decide⟩
theorem d_M_image_24 : Db k_M_image 24 .goto 27 2 := ⟨-22, (by decide +kernel), rfl, by decide⟩
theorem d_M_image_27 : Dc k_M_image 27 (0) 28 := Or.inl ⟨(by decide +kernel), rfl⟩
theorem d_M_image_28 : DsI k_M_image 28 1 29 := ⟨Or.inl ⟨1, (by decide +kernel), rfl, rfl⟩, by decide⟩
theorem d_M_image_29 : DlI k_M_image 29 1 30 := Or.inl ⟨1, (by decide +kernel), rfl, rfl⟩
theorem d_M_image_30 : Dc k_M_image 30 (2412) 33 := Or.inr (Or.inr (Or.inl ⟨(by decide +kernel), by decide, rfl⟩))
theorem d_M_image_33 : Db k_M_image 33 (.if_icmp .ge) 36 54 := ⟨21, (by decide +kernel), rfl, by decide⟩
theorem d_M_image_36 : DlA k_M_image 36 0 37 := Or.inl ⟨0, (by decide +kernel), rfl, rfl⟩
theorem d_M_image_37 : DG k_M_image 37 5 10 40 := ⟨28, (by decide +kernel), f_M_28, rfl⟩
theorem d_M_image_40 : DlI k_M_image 40 1 41 := Or.inl ⟨1, (by decide +kernel), rfl, rfl⟩
theorem d_M_image_41 : DlA k_M_image 41 0 42 := Or.inl ⟨0, (by decide +kernel), rfl, rfl⟩
theorem d_M_image_42 : DG k_M_image 42 5 7 45 := ⟨22, (by decide +kernel), f_M_22, rfl⟩
theorem d_M_image_45 : DlI k_M_image 45 1 46 := Or.inl ⟨1, (by decide +kernel), rfl, rfl⟩
theorem d_M_image_46 : Dk k_M_image 46 .iaload 1 47 := ⟨(by decide +kernel), rfl⟩
theorem d_M_image_47 : Dk k_M_image 47 .iastore 1 48 := ⟨(by decide +kernel), rfl⟩
theorem d_M_image_48 : Dinc k_M_image 48 1 (1) 51 := ⟨(by decide +kernel), rfl, by decide⟩
theorem d_M_image_51 : Db k_M_image 51 .goto 54 29 := ⟨-22, (by decide +kernel), rfl, by decide⟩
theorem d_M_image_54 : DlA k_M_image 54 0 55 := Or.inl ⟨0, (by decide +kernel), rfl, rfl⟩
theorem d_M_image_55 : DlA k_M_image 55 0 56 := Or.inl ⟨0, (by decide +kernel), rfl, rfl⟩
theorem d_M_image_56 : DG k_M_image 56 5 8 59 := ⟨155, (by decide +kernel), f_M_155, rfl⟩
theorem d_M_image_59 : DP k_M_image 59 5 11 62 .int := ⟨31, (by decide +kernel), p_M_31, rfl, RX6, TX6, 16, rfl, rfl⟩
theorem d_M_image_62 : Dc k_M_image 62 (1) 63 := Or.inl ⟨(by decide +kernel), rfl⟩
theorem d_M_image_63 : DrI k_M_image 63 := ⟨(by decide +kernel), rfl⟩
theorem d_M_restore_0 : DlA k_M_restore 0 0 1 := Or.inl ⟨0, (by decide +kernel), rfl, rfl⟩
theorem d_M_restore_1 : DG k_M_restore 1 5 11 4 := ⟨31, (by decide +kernel), f_M_31, rfl⟩
theorem d_M_restore_4 : Db k_M_restore 4 (.ifCond .ge) 7 10 := ⟨6, (by decide +kernel), rfl, by decide⟩
theorem d_M_restore_7 : Dc k_M_restore 7 (-4) 9 := Or.inr (Or.inl ⟨(by decide +kernel), by decide, rfl⟩)
theorem d_M_restore_9 : DrI k_M_restore 9 := ⟨(by decide +kernel), rfl⟩
theorem d_M_restore_10 : Dc k_M_restore 10 (0) 11 := Or.inl ⟨(by decide +kernel), rfl⟩
theorem d_M_restore_11 : DsI k_M_restore 11 1 12 := ⟨Or.inl ⟨1, (by decide +kernel), rfl, rfl⟩, by decide⟩
theorem d_M_restore_12 : DlI k_M_restore 12 1 13 := Or.inl ⟨1, (by decide +kernel), rfl, rfl⟩
theorem d_M_restore_13 : Dc k_M_restore 13 (402) 16 := Or.inr (Or.inr (Or.inl ⟨(by decide +kernel), by decide, rfl⟩))
theorem d_M_restore_16 : Db k_M_restore 16 (.if_icmp .ge) 19 37 := ⟨21, (by decide +kernel), rfl, by decide⟩
theorem d_M_restore_19 : DlA k_M_restore 19 0 20 := Or.inl ⟨0, (by decide +kernel), rfl, rfl⟩
theorem d_M_restore_20 : DG k_M_restore 20 5 0 23 := ⟨7, (by decide +kernel), f_M_7, rfl⟩
theorem d_M_restore_23 : DlI k_M_restore 23 1 24 := Or.inl ⟨1, (by decide +kernel), rfl, rfl⟩
theorem d_M_restore_24 : DlA k_M_restore 24 0 25 := Or.inl ⟨0, (by decide +kernel), rfl, rfl⟩
theorem d_M_restore_25 : DG k_M_restore 25 5 9 28 := ⟨25, (by decide +kernel), f_M_25, rfl⟩
theorem d_M_restore_28 : DlI k_M_restore 28 1 29 := Or.inl ⟨1, (by decide +kernel), rfl, rfl⟩
theorem d_M_restore_29 : Dk k_M_restore 29 .iaload 1 30 := ⟨(by decide +kernel), rfl⟩
theorem d_M_restore_30 : Dk k_M_restore 30 .iastore 1 31 := ⟨(by decide +kernel), rfl⟩
theorem d_M_restore_31 : Dinc k_M_restore 31 1 (1) 34 := ⟨(by decide +kernel), rfl, by decide⟩
theorem d_M_restore_34 : Db k_M_restore 34 .goto 37 12 := ⟨-22, (by decide +kernel), rfl, by decide⟩
theorem d_M_restore_37 : Dc k_M_restore 37 (0) 38 := Or.inl ⟨(by decide +kernel), rfl⟩
theorem d_M_restore_38 : DsI k_M_restore 38 1 39 := ⟨Or.inl ⟨1, (by decide +kernel), rfl, rfl⟩, by decide⟩
theorem d_M_restore_39 : DlI k_M_restore 39 1 40 := Or.inl ⟨1, (by decide +kernel), rfl, rfl⟩
theorem d_M_restore_40 : Dc k_M_restore 40 (2412) 43 := Or.inr (Or.inr (Or.inl ⟨(by decide +kernel), by decide, rfl⟩))
theorem d_M_restore_43 : Db k_M_restore 43 (.if_icmp .ge) 46 64 := ⟨21, (by decide +kernel), rfl, by decide⟩
theorem d_M_restore_46 : DlA k_M_restore 46 0 47 := Or.inl ⟨0, (by decide +kernel), rfl, rfl⟩
theorem d_M_restore_47 : DG k_M_restore 47 5 7 50 := ⟨22, (by decide +kernel), f_M_22, rfl⟩
theorem d_M_restore_50 : DlI k_M_restore 50 1 51 := Or.inl ⟨1, (by decide +kernel), rfl, rfl⟩
theorem d_M_restore_51 : DlA k_M_restore 51 0 52 := Or.inl ⟨0, (by decide +kernel), rfl, rfl⟩
theorem d_M_restore_52 : DG k_M_restore 52 5 10 55 := ⟨28, (by decide +kernel), f_M_28, rfl⟩
theorem d_M_restore_55 : DlI k_M_restore 55 1 56 := Or.inl ⟨1, (by decide +kernel), rfl, rfl⟩
theorem d_M_restore_56 : Dk k_M_restore 56 .iaload 1 57 := ⟨(by decide +kernel), rfl⟩
theorem d_M_restore_57 : Dk k_M_restore 57 .iastore 1 58 := ⟨(by decide +kernel), rfl⟩
theorem d_M_restore_58 : Dinc k_M_restore 58 1 (1) 61 := ⟨(by decide +kernel), rfl, by decide⟩
theorem d_M_restore_61 : Db k_M_restore 61 .goto 64 39 := ⟨-22, (by decide +kernel), rfl, by decide⟩
theorem d_M_restore_64 : DlA k_M_restore 64 0 65 := Or.inl ⟨0, (by decide +kernel), rfl, rfl⟩
theorem d_M_restore_65 : DlA k_M_restore 65 0 66 := Or.inl ⟨0, (by decide +kernel), rfl, rfl⟩
theorem d_M_restore_66 : DG k_M_restore 66 5 11 69 := ⟨31, (by decide +kernel), f_M_31, rfl⟩
theorem d_M_restore_69 : DP k_M_restore 69 5 8 72 .int := ⟨155, (by decide +kernel), p_M_155, rfl, RX6, TX6, 16, rfl, rfl⟩
theorem d_M_restore_72 : Dc k_M_restore 72 (1) 73 := Or.inl ⟨(by decide +kernel), rfl⟩
theorem d_M_restore_73 : DrI k_M_restore 73 := ⟨(by decide +kernel), rfl⟩
theorem d_M_isSheet_0 : DlI k_M_isSheet 0 0 1 := Or.inl ⟨0, (by decide +kernel), rfl, rfl⟩
theorem d_M_isSheet_1 : Dk k_M_isSheet 1 .i2l 1 2 := ⟨(by decide +kernel), rfl⟩
theorem d_M_isSheet_2 : DcL k_M_isSheet 2 0 3 := Or.inl ⟨0, (by decide +kernel), by decide, rfl⟩
theorem d_M_isSheet_3 : DcL k_M_isSheet 3 (3) 6 := Or.inr ⟨111, (by decide +kernel), tb_at 724 (by decide +kernel) (by decide +kernel), rfl⟩
theorem d_M_isSheet_6 : DCS k_M_isSheet 6 k_M_in 3 9 := ⟨48, (by decide +kernel), rfl, Or.inl (tb_at 654 (by decide +kernel) (by decide +kernel)), m_M_in, is_M_in, by decide +kernel, by decide⟩
theorem d_M_isSheet_9 : DrZ k_M_isSheet 9 := ⟨(by decide +kernel), rfl⟩
theorem d_M_cut_0 : DlI k_M_cut 0 2 1 := Or.inl ⟨2, (by decide +kernel), rfl, rfl⟩
theorem d_M_cut_1 : Db k_M_cut 1 (.ifCond .ne) 4 11 := ⟨10, (by decide +kernel), rfl, by decide⟩
theorem d_M_cut_4 : DlL k_M_cut 4 0 5 := Or.inl ⟨0, (by decide +kernel), rfl, rfl⟩
theorem d_M_cut_5 : Dk k_M_cut 5 .l2i 1 6 := ⟨(by decide +kernel), rfl⟩
theorem d_M_cut_6 : Dk k_M_cut 6 .i2b 1 7 := ⟨(by decide +kernel), rfl⟩
theorem d_M_cut_7 : Dk k_M_cut 7 .i2l 1 8 := ⟨(by decide +kernel), rfl⟩
theorem d_M_cut_8 : Db k_M_cut 8 .goto 11 35 := ⟨27, (by decide +kernel), rfl, by decide⟩
theorem d_M_cut_11 : DlI k_M_cut 11 2 12 := Or.inl ⟨2, (by decide +kernel), rfl, rfl⟩
theorem d_M_cut_12 : Dc k_M_cut 12 (1) 13 := Or.inl ⟨(by decide +kernel), rfl⟩
theorem d_M_cut_13 : Db k_M_cut 13 (.if_icmp .ne) 16 23 := ⟨10, (by decide +kernel), rfl, by decide⟩
theorem d_M_cut_16 : DlL k_M_cut 16 0 17 := Or.inl ⟨0, (by decide +kernel), rfl, rfl⟩
theorem d_M_cut_17 : Dk k_M_cut 17 .l2i 1 18 := ⟨(by decide +kernel), rfl⟩
theorem d_M_cut_18 : Dk k_M_cut 18 .i2s 1 19 := ⟨(by decide +kernel), rfl⟩
theorem d_M_cut_19 : Dk k_M_cut 19 .i2l 1 20 := ⟨(by decide +kernel), rfl⟩
theorem d_M_cut_20 : Db k_M_cut 20 .goto 23 35 := ⟨15, (by decide +kernel), rfl, by decide⟩
theorem d_M_cut_23 : DlI k_M_cut 23 2 24 := Or.inl ⟨2, (by decide +kernel), rfl, rfl⟩
theorem d_M_cut_24 : Dc k_M_cut 24 (2) 25 := Or.inl ⟨(by decide +kernel), rfl⟩
theorem d_M_cut_25 : Db k_M_cut 25 (.if_icmp .ne) 28 34 := ⟨9, (by decide +kernel), rfl, by decide⟩
theorem d_M_cut_28 : DlL k_M_cut 28 0 29 := Or.inl ⟨0, (by decide +kernel), rfl, rfl⟩
theorem d_M_cut_29 : Dk k_M_cut 29 .l2i 1 30 := ⟨(by decide +kernel), rfl⟩
theorem d_M_cut_30 : Dk k_M_cut 30 .i2l 1 31 := ⟨(by decide +kernel), rfl⟩
theorem d_M_cut_31 : Db k_M_cut 31 .goto 34 35 := ⟨4, (by decide +kernel), rfl, by decide⟩
theorem d_M_cut_34 : DlL k_M_cut 34 0 35 := Or.inl ⟨0, (by decide +kernel), rfl, rfl⟩
theorem d_M_cut_35 : DrL k_M_cut 35 := ⟨(by decide +kernel), rfl⟩
theorem d_M_sheet_0 : DlI k_M_sheet 0 1 1 := Or.inl ⟨1, (by decide +kernel), rfl, rfl⟩
theorem d_M_sheet_1 : DCS k_M_sheet 1 k_M_isSheet 1 4 := ⟨198, (by decide +kernel), rfl, Or.inl (tb_at 867 (by decide +kernel) (by decide +kernel)), m_M_isSheet, is_M_isSheet, by decide +kernel, by decide⟩
theorem d_M_sheet_4 : Db k_M_sheet 4 (.ifCond .eq) 7 25 := ⟨21, (by decide +kernel), rfl, by decide⟩
theorem d_M_sheet_7 : DlI k_M_sheet 7 2 8 := Or.inl ⟨2, (by decide +kernel), rfl, rfl⟩
theorem d_M_sheet_8 : Dk k_M_sheet 8 .i2l 1 9 := ⟨(by decide +kernel), rfl⟩
theorem d_M_sheet_9 : DcL k_M_sheet 9 0 10 := Or.inl ⟨0, (by decide +kernel), by decide, rfl⟩
theorem d_M_sheet_10 : DcL k_M_sheet 10 (3) 13 := Or.inr ⟨111, (by decide +kernel), tb_at 724 (by decide +kernel) (by decide +kernel), rfl⟩
theorem d_M_sheet_13 : DCS k_M_sheet 13 k_M_in 3 16 := ⟨48, (by decide +kernel), rfl, Or.inl (tb_at 654 (by decide +kernel) (by decide +kernel)), m_M_in, is_M_in, by decide +kernel, by decide⟩
theorem d_M_sheet_16 : Db k_M_sheet 16 (.ifCond .eq) 19 25 := ⟨9, (by decide +kernel), rfl, by decide⟩
theorem d_M_sheet_19 : DlI k_M_sheet 19 3 20 := Or.inl ⟨3, (by decide +kernel), rfl, rfl⟩
theorem d_M_sheet_20 : Dc k_M_sheet 20 (24) 22 := Or.inr (Or.inl ⟨(by decide +kernel), by decide, rfl⟩)
theorem d_M_sheet_22 : Db k_M_sheet 22 (.if_icmp .le) 25 27 := ⟨5, (by decide +kernel), rfl, by decide⟩
theorem d_M_sheet_25 : Dc k_M_sheet 25 (-1) 26 := Or.inl ⟨(by decide +kernel), rfl⟩
theorem d_M_sheet_26 : DrI k_M_sheet 26 := ⟨(by decide +kernel), rfl⟩
theorem d_M_sheet_27 : DlI k_M_sheet 27 3 28 := Or.inl ⟨3, (by decide +kernel), rfl, rfl⟩
theorem d_M_sheet_28 : Db k_M_sheet 28 (.ifCond .ge) 31 34 := ⟨6, (by decide +kernel), rfl, by decide⟩
theorem d_M_sheet_31 : Dc k_M_sheet 31 (-14) 33 := Or.inr (Or.inl ⟨(by decide +kernel), by decide, rfl⟩)
theorem d_M_sheet_33 : DrI k_M_sheet 33 := ⟨(by decide +kernel), rfl⟩
theorem d_M_sheet_34 : DlA k_M_sheet 34 0 35 := Or.inl ⟨0, (by decide +kernel), rfl, rfl⟩
theorem d_M_sheet_35 : DG k_M_sheet 35 5 12 38 := ⟨35, (by decide +kernel), f_M_35, rfl⟩
theorem d_M_sheet_38 : DlI k_M_sheet 38 1 39 := Or.inl ⟨1, (by decide +kernel), rfl, rfl⟩
theorem d_M_sheet_39 : DlI k_M_sheet 39 2 40 := Or.inl ⟨2, (by decide +kernel), rfl, rfl⟩
theorem d_M_sheet_40 : Dk k_M_sheet 40 .iastore 1 41 := ⟨(by decide +kernel), rfl⟩
theorem d_M_sheet_41 : DlA k_M_sheet 41 0 42 := Or.inl ⟨0, (by decide +kernel), rfl, rfl⟩
theorem d_M_sheet_42 : DG k_M_sheet 42 5 13 45 := ⟨38, (by decide +kernel), f_M_38, rfl⟩
theorem d_M_sheet_45 : DlI k_M_sheet 45 1 46 := Or.inl ⟨1, (by decide +kernel), rfl, rfl⟩
theorem d_M_sheet_46 : DlI k_M_sheet 46 3 47 := Or.inl ⟨3, (by decide +kernel), rfl, rfl⟩
theorem d_M_sheet_47 : Dk k_M_sheet 47 .iastore 1 48 := ⟨(by decide +kernel), rfl⟩
theorem d_M_sheet_48 : Dc k_M_sheet 48 (0) 49 := Or.inl ⟨(by decide +kernel), rfl⟩
theorem d_M_sheet_49 : DsI k_M_sheet 49 4 51 := ⟨Or.inr ⟨(by decide +kernel), rfl⟩, by decide⟩
theorem d_M_sheet_51 : DlI k_M_sheet 51 4 53 := Or.inr ⟨(by decide +kernel), rfl⟩
theorem d_M_sheet_53 : Dc k_M_sheet 53 (24) 55 := Or.inr (Or.inl ⟨(by decide +kernel), by decide, rfl⟩)
theorem d_M_sheet_55 : Db k_M_sheet 55 (.if_icmp .ge) 58 77 := ⟨22, (by decide +kernel), rfl, by decide⟩
theorem d_M_sheet_58 : DlA k_M_sheet 58 0 59 := Or.inl ⟨0, (by decide +kernel), rfl, rfl⟩
theorem d_M_sheet_59 : DG k_M_sheet 59 5 14 62 := ⟨41, (by decide +kernel), f_M_41, rfl⟩
theorem d_M_sheet_62 : Dc k_M_sheet 62 (24) 64 := Or.inr (Or.inl ⟨(by decide +kernel), by decide, rfl⟩)
theorem d_M_sheet_64 : DlI k_M_sheet 64 1 65 := Or.inl ⟨1, (by decide +kernel), rfl, rfl⟩
theorem d_M_sheet_65 : Dk k_M_sheet 65 .imul 1 66 := ⟨(by decide +kernel), rfl⟩
theorem d_M_sheet_66 : DlI k_M_sheet 66 4 68 := Or.inr ⟨(by decide +kernel), rfl⟩
theorem d_M_sheet_68 : Dk k_M_sheet 68 .iadd 1 69 := ⟨(by decide +kernel), rfl⟩
theorem d_M_sheet_69 : DcL k_M_sheet 69 0 70 := Or.inl ⟨0, (by decide +kernel), by decide, rfl⟩
theorem d_M_sheet_70 : Dk k_M_sheet 70 .lastore 1 71 := ⟨(by decide +kernel), rfl⟩
theorem d_M_sheet_71 : Dinc k_M_sheet 71 4 (1) 74 := ⟨(by decide +kernel), rfl, by decide⟩
theorem d_M_sheet_74 : Db k_M_sheet 74 .goto 77 51 := ⟨-23, (by decide +kernel), rfl, by decide⟩
theorem d_M_sheet_77 : DlI k_M_sheet 77 3 78 := Or.inl ⟨3, (by decide +kernel), rfl, rfl⟩
theorem d_M_sheet_78 : DrI k_M_sheet 78 := ⟨(by decide +kernel), rfl⟩
theorem d_M_drop_0 : DlI k_M_drop 0 1 1 := Or.inl ⟨1, (by decide +kernel), rfl, rfl⟩
theorem d_M_drop_1 : DCS k_M_drop 1 k_M_isSheet 1 4 := ⟨198, (by decide +kernel), rfl, Or.inl (tb_at 867 (by decide +kernel) (by decide +kernel)), m_M_isSheet, is_M_isSheet, by decide +kernel, by decide⟩
theorem d_M_drop_4 : Db k_M_drop 4 (.ifCond .ne) 7 9 := ⟨5, (by decide +kernel), rfl, by decide⟩
theorem d_M_drop_7 : Dc k_M_drop 7 (-1) 8 := Or.inl ⟨(by decide +kernel), rfl⟩
theorem d_M_drop_8 : DrI k_M_drop 8 := ⟨(by decide +kernel), rfl⟩
theorem d_M_drop_9 : DlA k_M_drop 9 0 10 := Or.inl ⟨0, (by decide +kernel), rfl, rfl⟩
theorem d_M_drop_10 : DG k_M_drop 10 5 12 13 := ⟨35, (by decide +kernel), f_M_35, rfl⟩
theorem d_M_drop_13 : DlI k_M_drop 13 1 14 := Or.inl ⟨1, (by decide +kernel), rfl, rfl⟩
theorem d_M_drop_14 : Dk k_M_drop 14 .iaload 1 15 := ⟨(by decide +kernel), rfl⟩
theorem d_M_drop_15 : Db k_M_drop 15 (.ifCond .ge) 18 21 := ⟨6, (by decide +kernel), rfl, by decide⟩
theorem d_M_drop_18 : Dc k_M_drop 18 (-11) 20 := Or.inr (Or.inl ⟨(by decide +kernel), by decide, rfl⟩)
theorem d_M_drop_20 : DrI k_M_drop 20 := ⟨(by decide +kernel), rfl⟩
theorem d_M_drop_21 : DlA k_M_drop 21 0 22 := Or.inl ⟨0, (by decide +kernel), rfl, rfl⟩
theorem d_M_drop_22 : DG k_M_drop 22 5 12 25 := ⟨35, (by decide +kernel), f_M_35, rfl⟩
theorem d_M_drop_25 : DlI k_M_drop 25 1 26 := Or.inl ⟨1, (by decide +kernel), rfl, rfl⟩
theorem d_M_drop_26 : Dc k_M_drop 26 (-1) 27 := Or.inl ⟨(by decide +kernel), rfl⟩
theorem d_M_drop_27 : Dk k_M_drop 27 .iastore 1 28 := ⟨(by decide +kernel), rfl⟩
theorem d_M_drop_28 : DlA k_M_drop 28 0 29 := Or.inl ⟨0, (by decide +kernel), rfl, rfl⟩
theorem d_M_drop_29 : DG k_M_drop 29 5 13 32 := ⟨38, (by decide +kernel), f_M_38, rfl⟩
theorem d_M_drop_32 : DlI k_M_drop 32 1 33 := Or.inl ⟨1, (by decide +kernel), rfl, rfl⟩
theorem d_M_drop_33 : Dk k_M_drop 33 .iaload 1 34 := ⟨(by decide +kernel), rfl⟩
theorem d_M_drop_34 : DrI k_M_drop 34 := ⟨(by decide +kernel), rfl⟩
theorem d_M_why_0 : DlA k_M_why 0 0 1 := Or.inl ⟨0, (by decide +kernel), rfl, rfl⟩
theorem d_M_why_1 : DG k_M_why 1 5 12 4 := ⟨35, (by decide +kernel), f_M_35, rfl⟩
theorem d_M_why_4 : DlI k_M_why 4 1 5 := Or.inl ⟨1, (by decide +kernel), rfl, rfl⟩
theorem d_M_why_5 : Dk k_M_why 5 .iaload 1 6 := ⟨(by decide +kernel), rfl⟩
theorem d_M_why_6 : Db k_M_why 6 (.ifCond .ge) 9 12 := ⟨6, (by decide +kernel), rfl, by decide⟩
theorem d_M_why_9 : Dc k_M_why 9 (-11) 11 := Or.inr (Or.inl ⟨(by decide +kernel), by decide, rfl⟩)
theorem d_M_why_11 : DrI k_M_why 11 := ⟨(by decide +kernel), rfl⟩
theorem d_M_why_12 : DlA k_M_why 12 0 13 := Or.inl ⟨0, (by decide +kernel), rfl, rfl⟩
theorem d_M_why_13 : DG k_M_why 13 5 12 16 := ⟨35, (by decide +kernel), f_M_35, rfl⟩
theorem d_M_why_16 : DlI k_M_why 16 1 17 := Or.inl ⟨1, (by decide +kernel), rfl, rfl⟩
theorem d_M_why_17 : Dk k_M_why 17 .iaload 1 18 := ⟨(by decide +kernel), rfl⟩
theorem d_M_why_18 : DlI k_M_why 18 2 19 := Or.inl ⟨2, (by decide +kernel), rfl, rfl⟩
theorem d_M_why_19 : Db k_M_why 19 (.if_icmp .eq) 22 25 := ⟨6, (by decide +kernel), rfl, by decide⟩
theorem d_M_why_22 : Dc k_M_why 22 (-12) 24 := Or.inr (Or.inl ⟨(by decide +kernel), by decide, rfl⟩)
theorem d_M_why_24 : DrI k_M_why 24 := ⟨(by decide +kernel), rfl⟩
theorem d_M_why_25 : DlI k_M_why 25 3 26 := Or.inl ⟨3, (by decide +kernel), rfl, rfl⟩
theorem d_M_why_26 : Db k_M_why 26 (.ifCond .lt) 29 42 := ⟨16, (by decide +kernel), rfl, by decide⟩
theorem d_M_why_29 : DlI k_M_why 29 4 31 := Or.inr ⟨(by decide +kernel), rfl⟩
theorem d_M_why_31 : DlA k_M_why 31 0 32 := Or.inl ⟨0, (by decide +kernel), rfl, rfl⟩
theorem d_M_why_32 : DG k_M_why 32 5 13 35 := ⟨38, (by decide +kernel), f_M_38, rfl⟩
theorem d_M_why_35 : DlI k_M_why 35 1 36 := Or.inl ⟨1, (by decide +kernel), rfl, rfl⟩
theorem d_M_why_36 : Dk k_M_why 36 .iaload 1 37 := ⟨(by decide +kernel), rfl⟩
theorem d_M_why_37 : DlI k_M_why 37 3 38 := Or.inl ⟨3, (by decide +kernel), rfl, rfl⟩
theorem d_M_why_38 : Dk k_M_why 38 .isub 1 39 := ⟨(by decide +kernel), rfl⟩
theorem d_M_why_39 : Db k_M_why 39 (.if_icmp .le) 42 47 := ⟨8, (by decide +kernel), rfl, by decide⟩
theorem d_M_why_42 : Dc k_M_why 42 (-13) 44 := Or.inr (Or.inl ⟨(by decide +kernel), by decide, rfl⟩)
theorem d_M_why_44 : Db k_M_why 44 .goto 47 48 := ⟨4, (by decide +kernel), rfl, by decide⟩
theorem d_M_why_47 : Dc k_M_why 47 (0) 48 := Or.inl ⟨(by decide +kernel), rfl⟩
theorem d_M_why_48 : DrI k_M_why 48 := ⟨(by decide +kernel), rfl⟩
theorem d_M_item_0 : DlI k_M_item 0 1 1 := Or.inl ⟨1, (by decide +kernel), rfl, rfl⟩
theorem d_M_item_1 : DCS k_M_item 1 k_M_isSheet 1 4 := ⟨198, (by decide +kernel), rfl, Or.inl (tb_at 867 (by decide +kernel) (by decide +kernel)), m_M_isSheet, is_M_isSheet, by decide +kernel, by decide⟩
theorem d_M_item_4 : Db k_M_item 4 (.ifCond .eq) 7 19 := ⟨15, (by decide +kernel), rfl, by decide⟩
theorem d_M_item_7 : DlI k_M_item 7 2 8 := Or.inl ⟨2, (by decide +kernel), rfl, rfl⟩
theorem d_M_item_8 : Dk k_M_item 8 .i2l 1 9 := ⟨(by decide +kernel), rfl⟩
theorem d_M_item_9 : DcL k_M_item 9 0 10 := Or.inl ⟨0, (by decide +kernel), by decide, rfl⟩
theorem d_M_item_10 : DcL k_M_item 10 (3) 13 := Or.inr ⟨111, (by decide +kernel), tb_at 724 (by decide +kernel) (by decide +kernel), rfl⟩
theorem d_M_item_13 : DCS k_M_item 13 k_M_in 3 16 := ⟨48, (by decide +kernel), rfl, Or.inl (tb_at 654 (by decide +kernel) (by decide +kernel)), m_M_in, is_M_in, by decide +kernel, by decide⟩
theorem d_M_item_16 : Db k_M_item 16 (.ifCond .ne) 19 21 := ⟨5, (by decide +kernel), rfl, by decide⟩
theorem d_M_item_19 : Dc k_M_item 19 (-1) 20 := Or.inl ⟨(by decide +kernel), rfl⟩
theorem d_M_item_20 : DrI k_M_item 20 := ⟨(by decide +kernel), rfl⟩
theorem d_M_item_21 : DlA k_M_item 21 0 22 := Or.inl ⟨0, (by decide +kernel), rfl, rfl⟩
theorem d_M_item_22 : DlI k_M_item 22 1 23 := Or.inl ⟨1, (by decide +kernel), rfl, rfl⟩
theorem d_M_item_23 : DlI k_M_item 23 2 24 := Or.inl ⟨2, (by decide +kernel), rfl, rfl⟩
theorem d_M_item_24 : DlI k_M_item 24 3 25 := Or.inl ⟨3, (by decide +kernel), rfl, rfl⟩
theorem d_M_item_25 : Dc k_M_item 25 (1) 26 := Or.inl ⟨(by decide +kernel), rfl⟩
theorem d_M_item_26 : DCV k_M_item 26 k_M_why 5 4 29 := ⟨201, (by decide +kernel), rfl, tb_at 878 (by decide +kernel) (by decide +kernel), m_M_why, iv_M_why.1, iv_M_why.2, ⟨(RX6, TX6, 16), rfl, rfl⟩, by decide +kernel, by decide⟩
theorem d_M_item_29 : DsI k_M_item 29 6 31 := ⟨Or.inr ⟨(by decide +kernel), rfl⟩, by decide⟩
theorem d_M_item_31 : DlI k_M_item 31 6 33 := Or.inr ⟨(by decide +kernel), rfl⟩
theorem d_M_item_33 : Db k_M_item 33 (.ifCond .ge) 36 39 := ⟨6, (by decide +kernel), rfl, by decide⟩
theorem d_M_item_36 : DlI k_M_item 36 6 38 := Or.inr ⟨(by decide +kernel), rfl⟩
theorem d_M_item_38 : DrI k_M_item 38 := ⟨(by decide +kernel), rfl⟩
theorem d_M_item_39 : DlA k_M_item 39 0 40 := Or.inl ⟨0, (by decide +kernel), rfl, rfl⟩
theorem d_M_item_40 : DG k_M_item 40 5 14 43 := ⟨41, (by decide +kernel), f_M_41, rfl⟩
theorem d_M_item_43 : Dc k_M_item 43 (24) 45 := Or.inr (Or.inl ⟨(by decide +kernel), by decide, rfl⟩)
theorem d_M_item_45 : DlI k_M_item 45 1 46 := Or.inl ⟨1, (by decide +kernel), rfl, rfl⟩
theorem d_M_item_46 : Dk k_M_item 46 .imul 1 47 := ⟨(by decide +kernel), rfl⟩
theorem d_M_item_47 : DlI k_M_item 47 3 48 := Or.inl ⟨3, (by decide +kernel), rfl, rfl⟩
theorem d_M_item_48 : Dk k_M_item 48 .iadd 1 49 := ⟨(by decide +kernel), rfl⟩
theorem d_M_item_49 : DlL k_M_item 49 4 51 := Or.inr ⟨(by decide +kernel), rfl⟩
theorem d_M_item_51 : DlI k_M_item 51 2 52 := Or.inl ⟨2, (by decide +kernel), rfl, rfl⟩
theorem d_M_item_52 : DCS k_M_item 52 k_M_cut 2 55 := ⟨205, (by decide +kernel), rfl, Or.inl (tb_at 882 (by decide +kernel) (by decide +kernel)), m_M_cut, is_M_cut, by decide +kernel, by decide⟩
theorem d_M_item_55 : Dk k_M_item 55 .lastore 1 56 := ⟨(by decide +kernel), rfl⟩
theorem d_M_item_56 : Dc k_M_item 56 (1) 57 := Or.inl ⟨(by decide +kernel), rfl⟩
theorem d_M_item_57 : DrI k_M_item 57 := ⟨(by decide +kernel), rfl⟩
theorem d_M_copy_0 : DlI k_M_copy 0 1 1 := Or.inl ⟨1, (by decide +kernel), rfl, rfl⟩
theorem d_M_copy_1 : DCS k_M_copy 1 k_M_isSheet 1 4 := ⟨198, (by decide +kernel), rfl, Or.inl (tb_at 867 (by decide +kernel) (by decide +kernel)), m_M_isSheet, is_M_isSheet, by decide +kernel, by decide⟩
theorem d_M_copy_4 : Db k_M_copy 4 (.ifCond .eq) 7 14 := ⟨10, (by decide +kernel), rfl, by decide⟩
theorem d_M_copy_7 : DlI k_M_copy 7 3 8 := Or.inl ⟨3, (by decide +kernel), rfl, rfl⟩
theorem d_M_copy_8 : DCS k_M_copy 8 k_M_isSheet 1 11 := ⟨198, (by decide +kernel), rfl, Or.inl (tb_at 867 (by decide +kernel) (by decide +kernel)), m_M_isSheet, is_M_isSheet, by decide +kernel, by decide⟩
theorem d_M_copy_11 : Db k_M_copy 11 (.ifCond .ne) 14 16 := ⟨5, (by decide +kernel), rfl, by decide⟩
theorem d_M_copy_14 : Dc k_M_copy 14 (-1) 15 := Or.inl ⟨(by decide +kernel), rfl⟩
theorem d_M_copy_15 : DrI k_M_copy 15 := ⟨(by decide +kernel), rfl⟩
theorem d_M_copy_16 : DlA k_M_copy 16 0 17 := Or.inl ⟨0, (by decide +kernel), rfl, rfl⟩
theorem d_M_copy_17 : DG k_M_copy 17 5 12 20 := ⟨35, (by decide +kernel), f_M_35, rfl⟩
theorem d_M_copy_20 : DlI k_M_copy 20 1 21 := Or.inl ⟨1, (by decide +kernel), rfl, rfl⟩
theorem d_M_copy_21 : Dk k_M_copy 21 .iaload 1 22 := ⟨(by decide +kernel), rfl⟩
theorem d_M_copy_22 : Db k_M_copy 22 (.ifCond .lt) 25 34 := ⟨12, (by decide +kernel), rfl, by decide⟩
theorem d_M_copy_25 : DlA k_M_copy 25 0 26 := Or.inl ⟨0, (by decide +kernel), rfl, rfl⟩
theorem d_M_copy_26 : DG k_M_copy 26 5 12 29 := ⟨35, (by decide +kernel), f_M_35, rfl⟩
theorem d_M_copy_29 : DlI k_M_copy 29 3 30 := Or.inl ⟨3, (by decide +kernel), rfl, rfl⟩
theorem d_M_copy_30 : Dk k_M_copy 30 .iaload 1 31 := ⟨(by decide +kernel), rfl⟩
theorem d_M_copy_31 : Db k_M_copy 31 (.ifCond .ge) 34 37 := ⟨6, (by decide +kernel), rfl, by decide⟩
theorem d_M_copy_34 : Dc k_M_copy 34 (-11) 36 := Or.inr (Or.inl ⟨(by decide +kernel), by decide, rfl⟩)
theorem d_M_copy_36 : DrI k_M_copy 36 := ⟨(by decide +kernel), rfl⟩
theorem d_M_copy_37 : DlA k_M_copy 37 0 38 := Or.inl ⟨0, (by decide +kernel), rfl, rfl⟩
theorem d_M_copy_38 : DG k_M_copy 38 5 12 41 := ⟨35, (by decide +kernel), f_M_35, rfl⟩
theorem d_M_copy_41 : DlI k_M_copy 41 1 42 := Or.inl ⟨1, (by decide +kernel), rfl, rfl⟩
theorem d_M_copy_42 : Dk k_M_copy 42 .iaload 1 43 := ⟨(by decide +kernel), rfl⟩
theorem d_M_copy_43 : DlA k_M_copy 43 0 44 := Or.inl ⟨0, (by decide +kernel), rfl, rfl⟩
theorem d_M_copy_44 : DG k_M_copy 44 5 12 47 := ⟨35, (by decide +kernel), f_M_35, rfl⟩
theorem d_M_copy_47 : DlI k_M_copy 47 3 48 := Or.inl ⟨3, (by decide +kernel), rfl, rfl⟩
theorem d_M_copy_48 : Dk k_M_copy 48 .iaload 1 49 := ⟨(by decide +kernel), rfl⟩
theorem d_M_copy_49 : Db k_M_copy 49 (.if_icmp .eq) 52 55 := ⟨6, (by decide +kernel), rfl, by decide⟩
theorem d_M_copy_52 : Dc k_M_copy 52 (-12) 54 := Or.inr (Or.inl ⟨(by decide +kernel), by decide, rfl⟩)
theorem d_M_copy_54 : DrI k_M_copy 54 := ⟨(by decide +kernel), rfl⟩
theorem d_M_copy_55 : DlI k_M_copy 55 5 57 := Or.inr ⟨(by decide +kernel), rfl⟩
theorem d_M_copy_57 : Db k_M_copy 57 (.ifCond .lt) 60 104 := ⟨47, (by decide +kernel), rfl, by decide⟩
theorem d_M_copy_60 : DlI k_M_copy 60 2 61 := Or.inl ⟨2, (by decide +kernel), rfl, rfl⟩
theorem d_M_copy_61 : Db k_M_copy 61 (.ifCond .lt) 64 104 := ⟨43, (by decide +kernel), rfl, by decide⟩
theorem d_M_copy_64 : DlI k_M_copy 64 4 66 := Or.inr ⟨(by decide +kernel), rfl⟩
theorem d_M_copy_66 : Db k_M_copy 66 (.ifCond .lt) 69 104 := ⟨38, (by decide +kernel), rfl, by decide⟩
theorem d_M_copy_69 : DlI k_M_copy 69 2 70 := Or.inl ⟨2, (by decide +kernel), rfl, rfl⟩
theorem d_M_copy_70 : Dk k_M_copy 70 .i2l 1 71 := ⟨(by decide +kernel), rfl⟩
theorem d_M_copy_71 : DlI k_M_copy 71 5 73 := Or.inr ⟨(by decide +kernel), rfl⟩
theorem d_M_copy_73 : Dk k_M_copy 73 .i2l 1 74 := ⟨(by decide +kernel), rfl⟩
theorem d_M_copy_74 : Dk k_M_copy 74 .ladd 1 75 := ⟨(by decide +kernel), rfl⟩
theorem d_M_copy_75 : DlA k_M_copy 75 0 76 := Or.inl ⟨0, (by decide +kernel), rfl, rfl⟩
theorem d_M_copy_76 : DG k_M_copy 76 5 13 79 := ⟨38, (by decide +kernel), f_M_38, rfl⟩
theorem d_M_copy_79 : DlI k_M_copy 79 1 80 := Or.inl ⟨1, (by decide +kernel), rfl, rfl⟩
theorem d_M_copy_80 : Dk k_M_copy 80 .iaload 1 81 := ⟨(by decide +kernel), rfl⟩
theorem d_M_copy_81 : Dk k_M_copy 81 .i2l 1 82 := ⟨(by decide +kernel), rfl⟩
theorem d_M_copy_82 : Dk k_M_copy 82 .lcmp 1 83 := ⟨(by decide +kernel), rfl⟩
theorem d_M_copy_83 : Db k_M_copy 83 (.ifCond .gt) 86 104 := ⟨21, (by decide +kernel), rfl, by decide⟩
theorem d_M_copy_86 : DlI k_M_copy 86 4 88 := Or.inr ⟨(by decide +kernel), rfl⟩
theorem d_M_copy_88 : Dk k_M_copy 88 .i2l 1 89 := ⟨(by decide +kernel), rfl⟩
theorem d_M_copy_89 : DlI k_M_copy 89 5 91 := Or.inr ⟨(by decide +kernel), rfl⟩
theorem d_M_copy_91 : Dk k_M_copy 91 .i2l 1 92 := ⟨(by decide +kernel), rfl⟩
theorem d_M_copy_92 : Dk k_M_copy 92 .ladd 1 93 := ⟨(by decide +kernel), rfl⟩
theorem d_M_copy_93 : DlA k_M_copy 93 0 94 := Or.inl ⟨0, (by decide +kernel), rfl, rfl⟩
theorem d_M_copy_94 : DG k_M_copy 94 5 13 97 := ⟨38, (by decide +kernel), f_M_38, rfl⟩
theorem d_M_copy_97 : DlI k_M_copy 97 3 98 := Or.inl ⟨3, (by decide +kernel), rfl, rfl⟩
theorem d_M_copy_98 : Dk k_M_copy 98 .iaload 1 99 := ⟨(by decide +kernel), rfl⟩
theorem d_M_copy_99 : Dk k_M_copy 99 .i2l 1 100 := ⟨(by decide +kernel), rfl⟩
theorem d_M_copy_100 : Dk k_M_copy 100 .lcmp 1 101 := ⟨(by decide +kernel), rfl⟩
theorem d_M_copy_101 : Db k_M_copy 101 (.ifCond .le) 104 107 := ⟨6, (by decide +kernel), rfl, by decide⟩
theorem d_M_copy_104 : Dc k_M_copy 104 (-13) 106 := Or.inr (Or.inl ⟨(by decide +kernel), by decide, rfl⟩)
theorem d_M_copy_106 : DrI k_M_copy 106 := ⟨(by decide +kernel), rfl⟩
theorem d_M_copy_107 : Dc k_M_copy 107 (0) 108 := Or.inl ⟨(by decide +kernel), rfl⟩
theorem d_M_copy_108 : DsI k_M_copy 108 6 110 := ⟨Or.inr ⟨(by decide +kernel), rfl⟩, by decide⟩
theorem d_M_copy_110 : DlI k_M_copy 110 6 112 := Or.inr ⟨(by decide +kernel), rfl⟩
theorem d_M_copy_112 : DlI k_M_copy 112 5 114 := Or.inr ⟨(by decide +kernel), rfl⟩
theorem d_M_copy_114 : Db k_M_copy 114 (.if_icmp .ge) 117 144 := ⟨30, (by decide +kernel), rfl, by decide⟩
theorem d_M_copy_117 : DlA k_M_copy 117 0 118 := Or.inl ⟨0, (by decide +kernel), rfl, rfl⟩
theorem d_M_copy_118 : DG k_M_copy 118 5 15 121 := ⟨45, (by decide +kernel), f_M_45, rfl⟩
theorem d_M_copy_121 : DlI k_M_copy 121 6 123 := Or.inr ⟨(by decide +kernel), rfl⟩
theorem d_M_copy_123 : DlA k_M_copy 123 0 124 := Or.inl ⟨0, (by decide +kernel), rfl, rfl⟩
theorem d_M_copy_124 : DG k_M_copy 124 5 14 127 := ⟨41, (by decide +kernel), f_M_41, rfl⟩
theorem d_M_copy_127 : Dc k_M_copy 127 (24) 129 := Or.inr (Or.inl ⟨(by decide +kernel), by decide, rfl⟩)
theorem d_M_copy_129 : DlI k_M_copy 129 1 130 := Or.inl ⟨1, (by decide +kernel), rfl, rfl⟩
theorem d_M_copy_130 : Dk k_M_copy 130 .imul 1 131 := ⟨(by decide +kernel), rfl⟩
theorem d_M_copy_131 : DlI k_M_copy 131 2 132 := Or.inl ⟨2, (by decide +kernel), rfl, rfl⟩
theorem d_M_copy_132 : Dk k_M_copy 132 .iadd 1 133 := ⟨(by decide +kernel), rfl⟩
theorem d_M_copy_133 : DlI k_M_copy 133 6 135 := Or.inr ⟨(by decide +kernel), rfl⟩
theorem d_M_copy_135 : Dk k_M_copy 135 .iadd 1 136 := ⟨(by decide +kernel), rfl⟩
theorem d_M_copy_136 : Dk k_M_copy 136 .laload 1 137 := ⟨(by decide +kernel), rfl⟩
theorem d_M_copy_137 : Dk k_M_copy 137 .lastore 1 138 := ⟨(by decide +kernel), rfl⟩
theorem d_M_copy_138 : Dinc k_M_copy 138 6 (1) 141 := ⟨(by decide +kernel), rfl, by decide⟩
theorem d_M_copy_141 : Db k_M_copy 141 .goto 144 110 := ⟨-31, (by decide +kernel), rfl, by decide⟩
theorem d_M_copy_144 : Dc k_M_copy 144 (0) 145 := Or.inl ⟨(by decide +kernel), rfl⟩
theorem d_M_copy_145 : DsI k_M_copy 145 6 147 := ⟨Or.inr ⟨(by decide +kernel), rfl⟩, by decide⟩
theorem d_M_copy_147 : DlI k_M_copy 147 6 149 := Or.inr ⟨(by decide +kernel), rfl⟩
theorem d_M_copy_149 : DlI k_M_copy 149 5 151 := Or.inr ⟨(by decide +kernel), rfl⟩
theorem d_M_copy_151 : Db k_M_copy 151 (.if_icmp .ge) 154 182 := ⟨31, (by decide +kernel), rfl, by decide⟩
theorem d_M_copy_154 : DlA k_M_copy 154 0 155 := Or.inl ⟨0, (by decide +kernel), rfl, rfl⟩
theorem d_M_copy_155 : DG k_M_copy 155 5 14 158 := ⟨41, (by decide +kernel), f_M_41, rfl⟩
theorem d_M_copy_158 : Dc k_M_copy 158 (24) 160 := Or.inr (Or.inl ⟨(by decide +kernel), by decide, rfl⟩)
theorem d_M_copy_160 : DlI k_M_copy 160 3 161 := Or.inl ⟨3, (by decide +kernel), rfl, rfl⟩
theorem d_M_copy_161 : Dk k_M_copy 161 .imul 1 162 := ⟨(by decide +kernel), rfl⟩
theorem d_M_copy_162 : DlI k_M_copy 162 4 164 := Or.inr ⟨(by decide +kernel), rfl⟩
theorem d_M_copy_164 : Dk k_M_copy 164 .iadd 1 165 := ⟨(by decide +kernel), rfl⟩
theorem d_M_copy_165 : DlI k_M_copy 165 6 167 := Or.inr ⟨(by decide +kernel), rfl⟩
theorem d_M_copy_167 : Dk k_M_copy 167 .iadd 1 168 := ⟨(by decide +kernel), rfl⟩
theorem d_M_copy_168 : DlA k_M_copy 168 0 169 := Or.inl ⟨0, (by decide +kernel), rfl, rfl⟩
theorem d_M_copy_169 : DG k_M_copy 169 5 15 172 := ⟨45, (by decide +kernel), f_M_45, rfl⟩
theorem d_M_copy_172 : DlI k_M_copy 172 6 174 := Or.inr ⟨(by decide +kernel), rfl⟩
theorem d_M_copy_174 : Dk k_M_copy 174 .laload 1 175 := ⟨(by decide +kernel), rfl⟩
theorem d_M_copy_175 : Dk k_M_copy 175 .lastore 1 176 := ⟨(by decide +kernel), rfl⟩
theorem d_M_copy_176 : Dinc k_M_copy 176 6 (1) 179 := ⟨(by decide +kernel), rfl, by decide⟩
theorem d_M_copy_179 : Db k_M_copy 179 .goto 182 147 := ⟨-32, (by decide +kernel), rfl, by decide⟩
theorem d_M_copy_182 : DlI k_M_copy 182 5 184 := Or.inr ⟨(by decide +kernel), rfl⟩
theorem d_M_copy_184 : DrI k_M_copy 184 := ⟨(by decide +kernel), rfl⟩
theorem d_M_isSo_0 : Dc k_M_isSo 0 (0) 1 := Or.inl ⟨(by decide +kernel), rfl⟩
theorem d_M_isSo_1 : DsI k_M_isSo 1 4 3 := ⟨Or.inr ⟨(by decide +kernel), rfl⟩, by decide⟩
theorem d_M_isSo_3 : Dc k_M_isSo 3 (1) 4 := Or.inl ⟨(by decide +kernel), rfl⟩
theorem d_M_isSo_4 : DsI k_M_isSo 4 5 6 := ⟨Or.inr ⟨(by decide +kernel), rfl⟩, by decide⟩
theorem d_M_isSo_6 : Dc k_M_isSo 6 (0) 7 := Or.inl ⟨(by decide +kernel), rfl⟩
theorem d_M_isSo_7 : DsI k_M_isSo 7 6 9 := ⟨Or.inr ⟨(by decide +kernel), rfl⟩, by decide⟩
theorem d_M_isSo_9 : DlI k_M_isSo 9 6 11 := Or.inr ⟨(by decide +kernel), rfl⟩
theorem d_M_isSo_11 : DlI k_M_isSo 11 3 12 := Or.inl ⟨3, (by decide +kernel), rfl, rfl⟩
theorem d_M_isSo_12 : Db k_M_isSo 12 (.if_icmp .ge) 15 206 := ⟨194, (by decide +kernel), rfl, by decide⟩
theorem d_M_isSo_15 : DlI k_M_isSo 15 5 17 := Or.inr ⟨(by decide +kernel), rfl⟩
theorem d_M_isSo_17 : Db k_M_isSo 17 (.ifCond .eq) 20 206 := ⟨189, (by decide +kernel), rfl, by decide⟩
theorem d_M_isSo_20 : Dc k_M_isSo 20 (0) 21 := Or.inl ⟨(by decide +kernel), rfl⟩
theorem d_M_isSo_21 : DsI k_M_isSo 21 7 23 := ⟨Or.inr ⟨(by decide +kernel), rfl⟩, by decide⟩
theorem d_M_isSo_23 : Dc k_M_isSo 23 (0) 24 := Or.inl ⟨(by decide +kernel), rfl⟩
theorem d_M_isSo_24 : DsI k_M_isSo 24 8 26 := ⟨Or.inr ⟨(by decide +kernel), rfl⟩, by decide⟩
theorem d_M_isSo_26 : DlI k_M_isSo 26 8 28 := Or.inr ⟨(by decide +kernel), rfl⟩
theorem d_M_isSo_28 : Dk k_M_isSo 28 .i2l 1 29 := ⟨(by decide +kernel), rfl⟩
theorem d_M_isSo_29 : DlA k_M_isSo 29 0 30 := Or.inl ⟨0, (by decide +kernel), rfl, rfl⟩
theorem d_M_isSo_30 : DG k_M_isSo 30 5 14 33 := ⟨41, (by decide +kernel), f_M_41, rfl⟩
theorem d_M_isSo_33 : DlI k_M_isSo 33 2 34 := Or.inl ⟨2, (by decide +kernel), rfl, rfl⟩
theorem d_M_isSo_34 : Dc k_M_isSo 34 (2) 35 := Or.inl ⟨(by decide +kernel), rfl⟩
theorem d_M_isSo_35 : DlI k_M_isSo 35 6 37 := Or.inr ⟨(by decide +kernel), rfl⟩
theorem d_M_isSo_37 : Dk k_M_isSo 37 .imul 1 38 := ⟨(by decide +kernel), rfl⟩
theorem d_M_isSo_38 : Dk k_M_isSo 38 .iadd 1 39 := ⟨(by decide +kernel), rfl⟩
theorem d_M_isSo_39 : Dk k_M_isSo 39 .laload 1 40 := ⟨(by decide +kernel), rfl⟩
theorem d_M_isSo_40 : Dk k_M_isSo 40 .lcmp 1 41 := ⟨(by decide +kernel), rfl⟩
theorem d_M_isSo_41 : Db k_M_isSo 41 (.ifCond .gt) 44 168 := ⟨127, (by decide +kernel), rfl, by decide⟩
theorem d_M_isSo_44 : DlI k_M_isSo 44 5 46 := Or.inr ⟨(by decide +kernel), rfl⟩
theorem d_M_isSo_46 : Db k_M_isSo 46 (.ifCond .eq) 49 168 := ⟨122, (by decide +kernel), rfl, by decide⟩
theorem d_M_isSo_49 : DlI k_M_isSo 49 8 51 := Or.inr ⟨(by decide +kernel), rfl⟩
theorem d_M_isSo_51 : Dk k_M_isSo 51 .i2l 1 52 := ⟨(by decide +kernel), rfl⟩
theorem d_M_isSo_52 : DlA k_M_isSo 52 0 53 := Or.inl ⟨0, (by decide +kernel), rfl, rfl⟩
theorem d_M_isSo_53 : DG k_M_isSo 53 5 14 56 := ⟨41, (by decide +kernel), f_M_41, rfl⟩
theorem d_M_isSo_56 : DlI k_M_isSo 56 2 57 := Or.inl ⟨2, (by decide +kernel), rfl, rfl⟩
theorem d_M_isSo_57 : Dc k_M_isSo 57 (2) 58 := Or.inl ⟨(by decide +kernel), rfl⟩
theorem d_M_isSo_58 : DlI k_M_isSo 58 6 60 := Or.inr ⟨(by decide +kernel), rfl⟩
theorem d_M_isSo_60 : Dk k_M_isSo 60 .imul 1 61 := ⟨(by decide +kernel), rfl⟩
theorem d_M_isSo_61 : Dk k_M_isSo 61 .iadd 1 62 := ⟨(by decide +kernel), rfl⟩
theorem d_M_isSo_62 : Dk k_M_isSo 62 .laload 1 63 := ⟨(by decide +kernel), rfl⟩
theorem d_M_isSo_63 : Dk k_M_isSo 63 .lcmp 1 64 := ⟨(by decide +kernel), rfl⟩
theorem d_M_isSo_64 : Db k_M_isSo 64 (.ifCond .ne) 67 71 := ⟨7, (by decide +kernel), rfl, by decide⟩
theorem d_M_isSo_67 : Dc k_M_isSo 67 (1) 68 := Or.inl ⟨(by decide +kernel), rfl⟩
theorem d_M_isSo_68 : Db k_M_isSo 68 .goto 71 72 := ⟨4, (by decide +kernel), rfl, by decide⟩
theorem d_M_isSo_71 : Dc k_M_isSo 71 (0) 72 := Or.inl ⟨(by decide +kernel), rfl⟩
theorem d_M_isSo_72 : DsI k_M_isSo 72 9 74 := ⟨Or.inr ⟨(by decide +kernel), rfl⟩, by decide⟩
theorem d_M_isSo_74 : DlI k_M_isSo 74 9 76 := Or.inr ⟨(by decide +kernel), rfl⟩
theorem d_M_isSo_76 : Db k_M_isSo 76 (.ifCond .ne) 79 86 := ⟨10, (by decide +kernel), rfl, by decide⟩
theorem d_M_isSo_79 : DlI k_M_isSo 79 4 81 := Or.inr ⟨(by decide +kernel), rfl⟩
theorem d_M_isSo_81 : Dc k_M_isSo 81 (12) 83 := Or.inr (Or.inl ⟨(by decide +kernel), by decide, rfl⟩)
theorem d_M_isSo_83 : Db k_M_isSo 83 (.if_icmp .ge) 86 90 := ⟨7, (by decide +kernel), rfl, by decide⟩
theorem d_M_isSo_86 : Dc k_M_isSo 86 (1) 87 := Or.inl ⟨(by decide +kernel), rfl⟩
theorem d_M_isSo_87 : Db k_M_isSo 87 .goto 90 91 := ⟨4, (by decide +kernel), rfl, by decide⟩
theorem d_M_isSo_90 : Dc k_M_isSo 90 (0) 91 := Or.inl ⟨(by decide +kernel), rfl⟩
theorem d_M_isSo_91 : DsI k_M_isSo 91 5 93 := ⟨Or.inr ⟨(by decide +kernel), rfl⟩, by decide⟩
theorem d_M_isSo_93 : DlI k_M_isSo 93 4 95 := Or.inr ⟨(by decide +kernel), rfl⟩
theorem d_M_isSo_95 : DlI k_M_isSo 95 9 97 := Or.inr ⟨(by decide +kernel), rfl⟩
theorem d_M_isSo_97 : Db k_M_isSo 97 (.ifCond .eq) 100 104 := ⟨7, (by decide +kernel), rfl, by decide⟩
theorem d_M_isSo_100 : Dc k_M_isSo 100 (0) 101 := Or.inl ⟨(by decide +kernel), rfl⟩
theorem d_M_isSo_101 : Db k_M_isSo 101 .goto 104 105 := ⟨4, (by decide +kernel), rfl, by decide⟩
theorem d_M_isSo_104 : Dc k_M_isSo 104 (1) 105 := Or.inl ⟨(by decide +kernel), rfl⟩
theorem d_M_isSo_105 : Dk k_M_isSo 105 .iadd 1 106 := ⟨(by decide +kernel), rfl⟩
theorem d_M_isSo_106 : DsI k_M_isSo 106 4 108 := ⟨Or.inr ⟨(by decide +kernel), rfl⟩, by decide⟩
theorem d_M_isSo_108 : DlI k_M_isSo 108 5 110 := Or.inr ⟨(by decide +kernel), rfl⟩
theorem d_M_isSo_110 : Db k_M_isSo 110 (.ifCond .eq) 113 162 := ⟨52, (by decide +kernel), rfl, by decide⟩
theorem d_M_isSo_113 : DlA k_M_isSo 113 0 114 := Or.inl ⟨0, (by decide +kernel), rfl, rfl⟩
theorem d_M_isSo_114 : DlI k_M_isSo 114 1 115 := Or.inl ⟨1, (by decide +kernel), rfl, rfl⟩
theorem d_M_isSo_115 : DlI k_M_isSo 115 9 117 := Or.inr ⟨(by decide +kernel), rfl⟩
theorem d_M_isSo_117 : DlI k_M_isSo 117 4 119 := Or.inr ⟨(by decide +kernel), rfl⟩
theorem d_M_isSo_119 : DCV k_M_isSo 119 k_M_begins 5 3 122 := ⟨90, (by decide +kernel), rfl, tb_at 685 (by decide +kernel) (by decide +kernel), m_M_begins, iv_M_begins.1, iv_M_begins.2, ⟨(RX6, TX6, 16), rfl, rfl⟩, by decide +kernel, by decide⟩
theorem d_M_isSo_122 : Db k_M_isSo 122 (.ifCond .eq) 125 162 := ⟨40, (by decide +kernel), rfl, by decide⟩
theorem d_M_isSo_125 : DlA k_M_isSo 125 0 126 := Or.inl ⟨0, (by decide +kernel), rfl, rfl⟩
theorem d_M_isSo_126 : DlI k_M_isSo 126 1 127 := Or.inl ⟨1, (by decide +kernel), rfl, rfl⟩
theorem d_M_isSo_127 : DlI k_M_isSo 127 4 129 := Or.inr ⟨(by decide +kernel), rfl⟩
theorem d_M_isSo_129 : DlA k_M_isSo 129 0 130 := Or.inl ⟨0, (by decide +kernel), rfl, rfl⟩
theorem d_M_isSo_130 : DG k_M_isSo 130 5 0 133 := ⟨7, (by decide +kernel), f_M_7, rfl⟩
theorem d_M_isSo_133 : Dc k_M_isSo 133 (3) 134 := Or.inl ⟨(by decide +kernel), rfl⟩
theorem d_M_isSo_134 : Dk k_M_isSo 134 .iaload 1 135 := ⟨(by decide +kernel), rfl⟩
theorem d_M_isSo_135 : Dk k_M_isSo 135 .iadd 1 136 := ⟨(by decide +kernel), rfl⟩
theorem d_M_isSo_136 : DCV k_M_isSo 136 k_M_share 5 2 139 := ⟨79, (by decide +kernel), rfl, tb_at 701 (by decide +kernel) (by decide +kernel), m_M_share, iv_M_share.1, iv_M_share.2, ⟨(RX6, TX6, 16), rfl, rfl⟩, by decide +kernel, by decide⟩
theorem d_M_isSo_139 : DsI k_M_isSo 139 10 141 := ⟨Or.inr ⟨(by decide +kernel), rfl⟩, by decide⟩
theorem d_M_isSo_141 : DlI k_M_isSo 141 7 143 := Or.inr ⟨(by decide +kernel), rfl⟩
theorem d_M_isSo_143 : DlI k_M_isSo 143 10 145 := Or.inr ⟨(by decide +kernel), rfl⟩
theorem d_M_isSo_145 : Dk k_M_isSo 145 .iadd 1 146 := ⟨(by decide +kernel), rfl⟩
theorem d_M_isSo_146 : DsI k_M_isSo 146 7 148 := ⟨Or.inr ⟨(by decide +kernel), rfl⟩, by decide⟩
theorem d_M_isSo_148 : DlI k_M_isSo 148 4 150 := Or.inr ⟨(by decide +kernel), rfl⟩
theorem d_M_isSo_150 : DlA k_M_isSo 150 0 151 := Or.inl ⟨0, (by decide +kernel), rfl, rfl⟩
theorem d_M_isSo_151 : DG k_M_isSo 151 5 0 154 := ⟨7, (by decide +kernel), f_M_7, rfl⟩
theorem d_M_isSo_154 : Dc k_M_isSo 154 (3) 155 := Or.inl ⟨(by decide +kernel), rfl⟩
theorem d_M_isSo_155 : Dk k_M_isSo 155 .iaload 1 156 := ⟨(by decide +kernel), rfl⟩
theorem d_M_isSo_156 : DlI k_M_isSo 156 10 158 := Or.inr ⟨(by decide +kernel), rfl⟩
theorem d_M_isSo_158 : Dk k_M_isSo 158 .isub 1 159 := ⟨(by decide +kernel), rfl⟩
theorem d_M_isSo_159 : Dk k_M_isSo 159 .iadd 1 160 := ⟨(by decide +kernel), rfl⟩
theorem d_M_isSo_160 : DsI k_M_isSo 160 4 162 := ⟨Or.inr ⟨(by decide +kernel), rfl⟩, by decide⟩
theorem d_M_isSo_162 : Dinc k_M_isSo 162 8 (1) 165 := ⟨(by decide +kernel), rfl, by decide⟩
theorem d_M_isSo_165 : Db k_M_isSo 165 .goto 168 26 := ⟨-139, (by decide +kernel), rfl, by decide⟩
theorem d_M_isSo_168 : DlI k_M_isSo 168 5 170 := Or.inr ⟨(by decide +kernel), rfl⟩
theorem d_M_isSo_170 : Db k_M_isSo 170 (.ifCond .eq) 173 197 := ⟨27, (by decide +kernel), rfl, by decide⟩
theorem d_M_isSo_173 : DlI k_M_isSo 173 7 175 := Or.inr ⟨(by decide +kernel), rfl⟩
theorem d_M_isSo_175 : Dk k_M_isSo 175 .i2l 1 176 := ⟨(by decide +kernel), rfl⟩
theorem d_M_isSo_176 : DlA k_M_isSo 176 0 177 := Or.inl ⟨0, (by decide +kernel), rfl, rfl⟩
theorem d_M_isSo_177 : DG k_M_isSo 177 5 14 180 := ⟨41, (by decide +kernel), f_M_41, rfl⟩
theorem d_M_isSo_180 : DlI k_M_isSo 180 2 181 := Or.inl ⟨2, (by decide +kernel), rfl, rfl⟩
theorem d_M_isSo_181 : Dc k_M_isSo 181 (2) 182 := Or.inl ⟨(by decide +kernel), rfl⟩
theorem d_M_isSo_182 : DlI k_M_isSo 182 6 184 := Or.inr ⟨(by decide +kernel), rfl⟩
theorem d_M_isSo_184 : Dk k_M_isSo 184 .imul 1 185 := ⟨(by decide +kernel), rfl⟩
theorem d_M_isSo_185 : Dk k_M_isSo 185 .iadd 1 186 := ⟨(by decide +kernel), rfl⟩
theorem d_M_isSo_186 : Dc k_M_isSo 186 (1) 187 := Or.inl ⟨(by decide +kernel), rfl⟩
theorem d_M_isSo_187 : Dk k_M_isSo 187 .iadd 1 188 := ⟨(by decide +kernel), rfl⟩
theorem d_M_isSo_188 : Dk k_M_isSo 188 .laload 1 189 := ⟨(by decide +kernel), rfl⟩
theorem d_M_isSo_189 : Dk k_M_isSo 189 .lcmp 1 190 := ⟨(by decide +kernel), rfl⟩
theorem d_M_isSo_190 : Db k_M_isSo 190 (.ifCond .ne) 193 197 := ⟨7, (by decide +kernel), rfl, by decide⟩
theorem d_M_isSo_193 : Dc k_M_isSo 193 (1) 194 := Or.inl ⟨(by decide +kernel), rfl⟩
theorem d_M_isSo_194 : Db k_M_isSo 194 .goto 197 198 := ⟨4, (by decide +kernel), rfl, by decide⟩
theorem d_M_isSo_197 : Dc k_M_isSo 197 (0) 198 := Or.inl ⟨(by decide +kernel), rfl⟩
theorem d_M_isSo_198 : DsI k_M_isSo 198 5 200 := ⟨Or.inr ⟨(by decide +kernel), rfl⟩, by decide⟩
theorem d_M_isSo_200 : Dinc k_M_isSo 200 6 (1) 203 := ⟨(by decide +kernel), rfl, by decide⟩
theorem d_M_isSo_203 : Db k_M_isSo 203 .goto 206 9 := ⟨-194, (by decide +kernel), rfl, by decide⟩
theorem d_M_isSo_206 : DlI k_M_isSo 206 5 208 := Or.inr ⟨(by decide +kernel), rfl⟩
theorem d_M_isSo_208 : DrZ k_M_isSo 208 := ⟨(by decide +kernel), rfl⟩
theorem d_M_fits_0 : DlI k_M_fits 0 1 1 := Or.inl ⟨1, (by decide +kernel), rfl, rfl⟩
theorem d_M_fits_1 : DCS k_M_fits 1 k_M_isSheet 1 4 := ⟨198, (by decide +kernel), rfl, Or.inl (tb_at 867 (by decide +kernel) (by decide +kernel)), m_M_isSheet, is_M_isSheet, by decide +kernel, by decide⟩
theorem d_M_fits_4 : Db k_M_fits 4 (.ifCond .eq) 7 32 := ⟨28, (by decide +kernel), rfl, by decide⟩
theorem d_M_fits_7 : DlI k_M_fits 7 2 8 := Or.inl ⟨2, (by decide +kernel), rfl, rfl⟩
theorem d_M_fits_8 : Dk k_M_fits 8 .i2l 1 9 := ⟨(by decide +kernel), rfl⟩
theorem d_M_fits_9 : DcL k_M_fits 9 0 10 := Or.inl ⟨0, (by decide +kernel), by decide, rfl⟩
theorem d_M_fits_10 : DcL k_M_fits 10 (3) 13 := Or.inr ⟨111, (by decide +kernel), tb_at 724 (by decide +kernel) (by decide +kernel), rfl⟩
theorem d_M_fits_13 : DCS k_M_fits 13 k_M_in 3 16 := ⟨48, (by decide +kernel), rfl, Or.inl (tb_at 654 (by decide +kernel) (by decide +kernel)), m_M_in, is_M_in, by decide +kernel, by decide⟩
theorem d_M_fits_16 : Db k_M_fits 16 (.ifCond .eq) 19 32 := ⟨16, (by decide +kernel), rfl, by decide⟩
theorem d_M_fits_19 : DlI k_M_fits 19 4 21 := Or.inr ⟨(by decide +kernel), rfl⟩
theorem d_M_fits_21 : Dk k_M_fits 21 .i2l 1 22 := ⟨(by decide +kernel), rfl⟩
theorem d_M_fits_22 : DcL k_M_fits 22 1 23 := Or.inl ⟨1, (by decide +kernel), by decide, rfl⟩
theorem d_M_fits_23 : DcL k_M_fits 23 (8) 26 := Or.inr ⟨113, (by decide +kernel), tb_at 725 (by decide +kernel) (by decide +kernel), rfl⟩
theorem d_M_fits_26 : DCS k_M_fits 26 k_M_in 3 29 := ⟨48, (by decide +kernel), rfl, Or.inl (tb_at 654 (by decide +kernel) (by decide +kernel)), m_M_in, is_M_in, by decide +kernel, by decide⟩
theorem d_M_fits_29 : Db k_M_fits 29 (.ifCond .ne) 32 34 := ⟨5, (by decide +kernel), rfl, by decide⟩
theorem d_M_fits_32 : Dc k_M_fits 32 (-1) 33 := Or.inl ⟨(by decide +kernel), rfl⟩
theorem d_M_fits_33 : DrI k_M_fits 33 := ⟨(by decide +kernel), rfl⟩
theorem d_M_fits_34 : DlA k_M_fits 34 0 35 := Or.inl ⟨0, (by decide +kernel), rfl, rfl⟩
theorem d_M_fits_35 : DlI k_M_fits 35 1 36 := Or.inl ⟨1, (by decide +kernel), rfl, rfl⟩
theorem d_M_fits_36 : DlI k_M_fits 36 2 37 := Or.inl ⟨2, (by decide +kernel), rfl, rfl⟩
theorem d_M_fits_37 : DlI k_M_fits 37 3 38 := Or.inl ⟨3, (by decide +kernel), rfl, rfl⟩
theorem d_M_fits_38 : Dc k_M_fits 38 (2) 39 := Or.inl ⟨(by decide +kernel), rfl⟩
theorem d_M_fits_39 : DlI k_M_fits 39 4 41 := Or.inr ⟨(by decide +kernel), rfl⟩
theorem d_M_fits_41 : Dk k_M_fits 41 .imul 1 42 := ⟨(by decide +kernel), rfl⟩
theorem d_M_fits_42 : DCV k_M_fits 42 k_M_why 5 4 45 := ⟨201, (by decide +kernel), rfl, tb_at 878 (by decide +kernel) (by decide +kernel), m_M_why, iv_M_why.1, iv_M_why.2, ⟨(RX6, TX6, 16), rfl, rfl⟩, by decide +kernel, by decide⟩
theorem d_M_fits_45 : DsI k_M_fits 45 5 47 := ⟨Or.inr ⟨(by decide +kernel), rfl⟩, by decide⟩
theorem d_M_fits_47 : DlI k_M_fits 47 5 49 := Or.inr ⟨(by decide +kernel), rfl⟩
theorem d_M_fits_49 : Db k_M_fits 49 (.ifCond .ge) 52 55 := ⟨6, (by decide +kernel), rfl, by decide⟩
theorem d_M_fits_52 : DlI k_M_fits 52 5 54 := Or.inr ⟨(by decide +kernel), rfl⟩
theorem d_M_fits_54 : DrI k_M_fits 54 := ⟨(by decide +kernel), rfl⟩
theorem d_M_fits_55 : Dc k_M_fits 55 (24) 57 := Or.inr (Or.inl ⟨(by decide +kernel), by decide, rfl⟩)
theorem d_M_fits_57 : DlI k_M_fits 57 1 58 := Or.inl ⟨1, (by decide +kernel), rfl, rfl⟩
theorem d_M_fits_58 : Dk k_M_fits 58 .imul 1 59 := ⟨(by decide +kernel), rfl⟩
theorem d_M_fits_59 : DlI k_M_fits 59 3 60 := Or.inl ⟨3, (by decide +kernel), rfl, rfl⟩
theorem d_M_fits_60 : Dk k_M_fits 60 .iadd 1 61 := ⟨(by decide +kernel), rfl⟩
theorem d_M_fits_61 : DsI k_M_fits 61 6 63 := ⟨Or.inr ⟨(by decide +kernel), rfl⟩, by decide⟩
theorem d_M_fits_63 : Dc k_M_fits 63 (0) 64 := Or.inl ⟨(by decide +kernel), rfl⟩
theorem d_M_fits_64 : DsI k_M_fits 64 7 66 := ⟨Or.inr ⟨(by decide +kernel), rfl⟩, by decide⟩
theorem d_M_fits_66 : DlI k_M_fits 66 7 68 := Or.inr ⟨(by decide +kernel), rfl⟩
theorem d_M_fits_68 : Dc k_M_fits 68 (2) 69 := Or.inl ⟨(by decide +kernel), rfl⟩
theorem d_M_fits_69 : DlI k_M_fits 69 4 71 := Or.inr ⟨(by decide +kernel), rfl⟩
theorem d_M_fits_71 : Dk k_M_fits 71 .imul 1 72 := ⟨(by decide +kernel), rfl⟩
theorem d_M_fits_72 : Db k_M_fits 72 (.if_icmp .ge) 75 117 := ⟨45, (by decide +kernel), rfl, by decide⟩
theorem d_M_fits_75 : DlA k_M_fits 75 0 76 := Or.inl ⟨0, (by decide +kernel), rfl, rfl⟩
theorem d_M_fits_76 : DG k_M_fits 76 5 14 79 := ⟨41, (by decide +kernel), f_M_41, rfl⟩
theorem d_M_fits_79 : DlI k_M_fits 79 6 81 := Or.inr ⟨(by decide +kernel), rfl⟩
theorem d_M_fits_81 : DlI k_M_fits 81 7 83 := Or.inr ⟨(by decide +kernel), rfl⟩
theorem d_M_fits_83 : Dk k_M_fits 83 .iadd 1 84 := ⟨(by decide +kernel), rfl⟩
theorem d_M_fits_84 : Dk k_M_fits 84 .laload 1 85 := ⟨(by decide +kernel), rfl⟩
theorem d_M_fits_85 : DcL k_M_fits 85 0 86 := Or.inl ⟨0, (by decide +kernel), by decide, rfl⟩
theorem d_M_fits_86 : DlI k_M_fits 86 7 88 := Or.inr ⟨(by decide +kernel), rfl⟩
theorem d_M_fits_88 : Dc k_M_fits 88 (2) 89 := Or.inl ⟨(by decide +kernel), rfl⟩
theorem d_M_fits_89 : Dk k_M_fits 89 .irem 1 90 := ⟨(by decide +kernel), rfl⟩
theorem d_M_fits_90 : Db k_M_fits 90 (.ifCond .ne) 93 99 := ⟨9, (by decide +kernel), rfl, by decide⟩
theorem d_M_fits_93 : DcL k_M_fits 93 (9) 96 := Or.inr ⟨162, (by decide +kernel), tb_at 800 (by decide +kernel) (by decide +kernel), rfl⟩
theorem d_M_fits_96 : Db k_M_fits 96 .goto 99 102 := ⟨6, (by decide +kernel), rfl, by decide⟩
theorem d_M_fits_99 : DcL k_M_fits 99 (40) 102 := Or.inr ⟨196, (by decide +kernel), tb_at 846 (by decide +kernel) (by decide +kernel), rfl⟩
theorem d_M_fits_102 : DCS k_M_fits 102 k_M_in 3 105 := ⟨48, (by decide +kernel), rfl, Or.inl (tb_at 654 (by decide +kernel) (by decide +kernel)), m_M_in, is_M_in, by decide +kernel, by decide⟩
theorem d_M_fits_105 : Db k_M_fits 105 (.ifCond .ne) 108 111 := ⟨6, (by decide +kernel), rfl, by decide⟩
theorem d_M_fits_108 : Dc k_M_fits 108 (-2) 110 := Or.inr (Or.inl ⟨(by decide +kernel), by decide, rfl⟩)
theorem d_M_fits_110 : DrI k_M_fits 110 := ⟨(by decide +kernel), rfl⟩
theorem d_M_fits_111 : Dinc k_M_fits 111 7 (1) 114 := ⟨(by decide +kernel), rfl, by decide⟩
theorem d_M_fits_114 : Db k_M_fits 114 .goto 117 66 := ⟨-48, (by decide +kernel), rfl, by decide⟩
theorem d_M_fits_117 : Dc k_M_fits 117 (0) 118 := Or.inl ⟨(by decide +kernel), rfl⟩
theorem d_M_fits_118 : DsI k_M_fits 118 7 120 := ⟨Or.inr ⟨(by decide +kernel), rfl⟩, by decide⟩
theorem d_M_fits_120 : Dc k_M_fits 120 (0) 121 := Or.inl ⟨(by decide +kernel), rfl⟩
theorem d_M_fits_121 : DsI k_M_fits 121 8 123 := ⟨Or.inr ⟨(by decide +kernel), rfl⟩, by decide⟩
theorem d_M_fits_123 : DlI k_M_fits 123 8 125 := Or.inr ⟨(by decide +kernel), rfl⟩
theorem d_M_fits_125 : Dc k_M_fits 125 (4) 126 := Or.inl ⟨(by decide +kernel), rfl⟩
theorem d_M_fits_126 : Db k_M_fits 126 (.if_icmp .ge) 129 161 := ⟨35, (by decide +kernel), rfl, by decide⟩
theorem d_M_fits_129 : DlI k_M_fits 129 7 131 := Or.inr ⟨(by decide +kernel), rfl⟩
theorem d_M_fits_131 : DlA k_M_fits 131 0 132 := Or.inl ⟨0, (by decide +kernel), rfl, rfl⟩
theorem d_M_fits_132 : DlI k_M_fits 132 8 134 := Or.inr ⟨(by decide +kernel), rfl⟩
theorem d_M_fits_134 : DlI k_M_fits 134 6 136 := Or.inr ⟨(by decide +kernel), rfl⟩
theorem d_M_fits_136 : DlI k_M_fits 136 4 138 := Or.inr ⟨(by decide +kernel), rfl⟩
theorem d_M_fits_138 : DCV k_M_fits 138 k_M_isSo 5 3 141 := ⟨209, (by decide +kernel), rfl, tb_at 893 (by decide +kernel) (by decide +kernel), m_M_isSo, iv_M_isSo.1, iv_M_isSo.2, ⟨(RX6, TX6, 16), rfl, rfl⟩, by decide +kernel, by decide⟩
theorem d_M_fits_141 : Db k_M_fits 141 (.ifCond .eq) 144 151 := ⟨10, (by decide +kernel), rfl, by decide⟩
theorem d_M_fits_144 : Dc k_M_fits 144 (1) 145 := Or.inl ⟨(by decide +kernel), rfl⟩
theorem d_M_fits_145 : DlI k_M_fits 145 8 147 := Or.inr ⟨(by decide +kernel), rfl⟩
theorem d_M_fits_147 : Dk k_M_fits 147 .ishl 1 148 := ⟨(by decide +kernel), rfl⟩
theorem d_M_fits_148 : Db k_M_fits 148 .goto 151 152 := ⟨4, (by decide +kernel), rfl, by decide⟩
theorem d_M_fits_151 : Dc k_M_fits 151 (0) 152 := Or.inl ⟨(by decide +kernel), rfl⟩
theorem d_M_fits_152 : Dk k_M_fits 152 .ior 1 153 := ⟨(by decide +kernel), rfl⟩
theorem d_M_fits_153 : DsI k_M_fits 153 7 155 := ⟨Or.inr ⟨(by decide +kernel), rfl⟩, by decide⟩
theorem d_M_fits_155 : Dinc k_M_fits 155 8 (1) 158 := ⟨(by decide +kernel), rfl, by decide⟩
theorem d_M_fits_158 : Db k_M_fits 158 .goto 161 123 := ⟨-35, (by decide +kernel), rfl, by decide⟩
theorem d_M_fits_161 : DlI k_M_fits 161 7 163 := Or.inr ⟨(by decide +kernel), rfl⟩
theorem d_M_fits_163 : DrI k_M_fits 163 := ⟨(by decide +kernel), rfl⟩
theorem d_M_film_0 : DlA k_M_film 0 0 1 := Or.inl ⟨0, (by decide +kernel), rfl, rfl⟩
theorem d_M_film_1 : DlI k_M_film 1 1 2 := Or.inl ⟨1, (by decide +kernel), rfl, rfl⟩
theorem d_M_film_2 : DCV k_M_film 2 k_M_isRound 5 1 5 := ⟨130, (by decide +kernel), rfl, tb_at 747 (by decide +kernel) (by decide +kernel), m_M_isRound, iv_M_isRound.1, iv_M_isRound.2, ⟨(RX6, TX6, 16), rfl, rfl⟩, by decide +kernel, by decide⟩
theorem d_M_film_5 : Db k_M_film 5 (.ifCond .eq) 8 27 := ⟨22, (by decide +kernel), rfl, by decide⟩
theorem d_M_film_8 : DlI k_M_film 8 2 9 := Or.inl ⟨2, (by decide +kernel), rfl, rfl⟩
theorem d_M_film_9 : DCS k_M_film 9 k_M_isSheet 1 12 := ⟨198, (by decide +kernel), rfl, Or.inl (tb_at 867 (by decide +kernel) (by decide +kernel)), m_M_isSheet, is_M_isSheet, by decide +kernel, by decide⟩
theorem d_M_film_12 : Db k_M_film 12 (.ifCond .eq) 15 27 := ⟨15, (by decide +kernel), rfl, by decide⟩
theorem d_M_film_15 : DlI k_M_film 15 3 16 := Or.inl ⟨3, (by decide +kernel), rfl, rfl⟩
theorem d_M_film_16 : Dk k_M_film 16 .i2l 1 17 := ⟨(by decide +kernel), rfl⟩
theorem d_M_film_17 : DcL k_M_film 17 0 18 := Or.inl ⟨0, (by decide +kernel), by decide, rfl⟩
theorem d_M_film_18 : DcL k_M_film 18 (3) 21 := Or.inr ⟨111, (by decide +kernel), tb_at 724 (by decide +kernel) (by decide +kernel), rfl⟩
theorem d_M_film_21 : DCS k_M_film 21 k_M_in 3 24 := ⟨48, (by decide +kernel), rfl, Or.inl (tb_at 654 (by decide +kernel) (by decide +kernel)), m_M_in, is_M_in, by decide +kernel, by decide⟩
theorem d_M_film_24 : Db k_M_film 24 (.ifCond .ne) 27 29 := ⟨5, (by decide +kernel), rfl, by decide⟩
theorem d_M_film_27 : Dc k_M_film 27 (-1) 28 := Or.inl ⟨(by decide +kernel), rfl⟩
theorem d_M_film_28 : DrI k_M_film 28 := ⟨(by decide +kernel), rfl⟩
theorem d_M_film_29 : DlA k_M_film 29 0 30 := Or.inl ⟨0, (by decide +kernel), rfl, rfl⟩
theorem d_M_film_30 : DlI k_M_film 30 1 31 := Or.inl ⟨1, (by decide +kernel), rfl, rfl⟩
theorem d_M_film_31 : Dc k_M_film 31 (1) 32 := Or.inl ⟨(by decide +kernel), rfl⟩
theorem d_M_film_32 : DCV k_M_film 32 k_M_roundOf 5 2 35 := ⟨135, (by decide +kernel), rfl, tb_at 752 (by decide +kernel) (by decide +kernel), m_M_roundOf, iv_M_roundOf.1, iv_M_roundOf.2, ⟨(RX6, TX6, 16), rfl, rfl⟩, by decide +kernel, by decide⟩
theorem d_M_film_35 : DsI k_M_film 35 5 37 := ⟨Or.inr ⟨(by decide +kernel), rfl⟩, by decide⟩
theorem d_M_film_37 : DlA k_M_film 37 0 38 := Or.inl ⟨0, (by decide +kernel), rfl, rfl⟩
theorem d_M_film_38 : DlI k_M_film 38 2 39 := Or.inl ⟨2, (by decide +kernel), rfl, rfl⟩
theorem d_M_film_39 : DlI k_M_film 39 3 40 := Or.inl ⟨3, (by decide +kernel), rfl, rfl⟩
theorem d_M_film_40 : DlI k_M_film 40 4 42 := Or.inr ⟨(by decide +kernel), rfl⟩
theorem d_M_film_42 : DlI k_M_film 42 5 44 := Or.inr ⟨(by decide +kernel), rfl⟩
theorem d_M_film_44 : DCV k_M_film 44 k_M_why 5 4 47 := ⟨201, (by decide +kernel), rfl, tb_at 878 (by decide +kernel) (by decide +kernel), m_M_why, iv_M_why.1, iv_M_why.2, ⟨(RX6, TX6, 16), rfl, rfl⟩, by decide +kernel, by decide⟩
theorem d_M_film_47 : DsI k_M_film 47 6 49 := ⟨Or.inr ⟨(by decide +kernel), rfl⟩, by decide⟩
theorem d_M_film_49 : DlI k_M_film 49 6 51 := Or.inr ⟨(by decide +kernel), rfl⟩
theorem d_M_film_51 : Db k_M_film 51 (.ifCond .ge) 54 57 := ⟨6, (by decide +kernel), rfl, by decide⟩
theorem d_M_film_54 : DlI k_M_film 54 6 56 := Or.inr ⟨(by decide +kernel), rfl⟩
theorem d_M_film_56 : DrI k_M_film 56 := ⟨(by decide +kernel), rfl⟩
theorem d_M_film_57 : Dc k_M_film 57 (0) 58 := Or.inl ⟨(by decide +kernel), rfl⟩
theorem d_M_film_58 : DsI k_M_film 58 7 60 := ⟨Or.inr ⟨(by decide +kernel), rfl⟩, by decide⟩
theorem d_M_film_60 : DlI k_M_film 60 7 62 := Or.inr ⟨(by decide +kernel), rfl⟩
theorem d_M_film_62 : DlI k_M_film 62 5 64 := Or.inr ⟨(by decide +kernel), rfl⟩
theorem d_M_film_64 : Db k_M_film 64 (.if_icmp .ge) 67 101 := ⟨37, (by decide +kernel), rfl, by decide⟩
theorem d_M_film_67 : DlA k_M_film 67 0 68 := Or.inl ⟨0, (by decide +kernel), rfl, rfl⟩
theorem d_M_film_68 : DG k_M_film 68 5 14 71 := ⟨41, (by decide +kernel), f_M_41, rfl⟩
theorem d_M_film_71 : Dc k_M_film 71 (24) 73 := Or.inr (Or.inl ⟨(by decide +kernel), by decide, rfl⟩)
theorem d_M_film_73 : DlI k_M_film 73 2 74 := Or.inl ⟨2, (by decide +kernel), rfl, rfl⟩
theorem d_M_film_74 : Dk k_M_film 74 .imul 1 75 := ⟨(by decide +kernel), rfl⟩
theorem d_M_film_75 : DlI k_M_film 75 4 77 := Or.inr ⟨(by decide +kernel), rfl⟩
theorem d_M_film_77 : Dk k_M_film 77 .iadd 1 78 := ⟨(by decide +kernel), rfl⟩
theorem d_M_film_78 : DlI k_M_film 78 7 80 := Or.inr ⟨(by decide +kernel), rfl⟩
theorem d_M_film_80 : Dk k_M_film 80 .iadd 1 81 := ⟨(by decide +kernel), rfl⟩
theorem d_M_film_81 : DlA k_M_film 81 0 82 := Or.inl ⟨0, (by decide +kernel), rfl, rfl⟩
theorem d_M_film_82 : DlA k_M_film 82 0 83 := Or.inl ⟨0, (by decide +kernel), rfl, rfl⟩
theorem d_M_film_83 : DlI k_M_film 83 1 84 := Or.inl ⟨1, (by decide +kernel), rfl, rfl⟩
theorem d_M_film_84 : DlI k_M_film 84 7 86 := Or.inr ⟨(by decide +kernel), rfl⟩
theorem d_M_film_86 : DCV k_M_film 86 k_M_letterOut 5 2 89 := ⟨146, (by decide +kernel), rfl, tb_at 768 (by decide +kernel) (by decide +kernel), m_M_letterOut, iv_M_letterOut.1, iv_M_letterOut.2, ⟨(RX6, TX6, 16), rfl, rfl⟩, by decide +kernel, by decide⟩
theorem d_M_film_89 : Dc k_M_film 89 (1) 90 := Or.inl ⟨(by decide +kernel), rfl⟩
theorem d_M_film_90 : DCV k_M_film 90 k_M_of 5 2 93 := ⟨52, (by decide +kernel), rfl, tb_at 669 (by decide +kernel) (by decide +kernel), m_M_of, iv_M_of.1, iv_M_of.2, ⟨(RX6, TX6, 16), rfl, rfl⟩, by decide +kernel, by decide⟩
theorem d_M_film_93 : Dk k_M_film 93 .i2l 1 94 := ⟨(by decide +kernel), rfl⟩
theorem d_M_film_94 : Dk k_M_film 94 .lastore 1 95 := ⟨(by decide +kernel), rfl⟩
theorem d_M_film_95 : Dinc k_M_film 95 7 (1) 98 := ⟨(by decide +kernel), rfl, by decide⟩
theorem d_M_film_98 : Db k_M_film 98 .goto 101 60 := ⟨-38, (by decide +kernel), rfl, by decide⟩
theorem d_M_film_101 : DlI k_M_film 101 5 103 := Or.inr ⟨(by decide +kernel), rfl⟩
theorem d_M_film_103 : DrI k_M_film 103 := ⟨(by decide +kernel), rfl⟩
end
section
theorem d_W_share_0 : Dc k_W_share 0 (1) 1 := Or.inl ⟨(by decide +kernel), rfl⟩
theorem d_W_share_1 : DlA k_W_share 1 0 2 := Or.inl ⟨0, (by decide +kernel), rfl, rfl⟩
theorem d_W_share_2 : DlI k_W_share 2 1 3 := Or.inl ⟨1, (by decide +kernel), rfl, rfl⟩
theorem d_W_share_3 : Dc k_W_share 3 (3) 4 := Or.inl ⟨(by decide +kernel), rfl⟩
theorem d_W_share_4 : DCV k_W_share 4 k_B_fact 0 2 7 := ⟨9, (by decide +kernel), rfl, tb_at 369 (by decide +kernel) (by decide +kernel), m_B_fact, iv_B_fact.1, iv_B_fact.2, ⟨(RX0, TX0, 13), rfl, rfl⟩, by decide +kernel, by decide⟩
theorem d_W_share_7 : DCS k_W_share 7 k_J_max 2 10 := ⟨15, (by decide +kernel), rfl, Or.inl (tb_at 370 (by decide +kernel) (by decide +kernel)), m_J_max, is_J_max, by decide +kernel, by decide⟩
theorem d_W_share_10 : Dk k_W_share 10 .i2l 1 11 := ⟨(by decide +kernel), rfl⟩
theorem d_W_share_11 : DrL k_W_share 11 := ⟨(by decide +kernel), rfl⟩
theorem d_W_kept_0 : DlA k_W_kept 0 0 1 := Or.inl ⟨0, (by decide +kernel), rfl, rfl⟩
theorem d_W_kept_1 : DlI k_W_kept 1 1 2 := Or.inl ⟨1, (by decide +kernel), rfl, rfl⟩
theorem d_W_kept_2 : Dc k_W_kept 2 (3) 3 := Or.inl ⟨(by decide +kernel), rfl⟩
theorem d_W_kept_3 : DCV k_W_kept 3 k_B_fact 0 2 6 := ⟨9, (by decide +kernel), rfl, tb_at 369 (by decide +kernel) (by decide +kernel), m_B_fact, iv_B_fact.1, iv_B_fact.2, ⟨(RX0, TX0, 13), rfl, rfl⟩, by decide +kernel, by decide⟩
theorem d_W_kept_6 : DlA k_W_kept 6 0 7 := Or.inl ⟨0, (by decide +kernel), rfl, rfl⟩
theorem d_W_kept_7 : DlI k_W_kept 7 1 8 := Or.inl ⟨1, (by decide +kernel), rfl, rfl⟩
theorem d_W_kept_8 : Dc k_W_kept 8 (4) 9 := Or.inl ⟨(by decide +kernel), rfl⟩
theorem d_W_kept_9 : DCV k_W_kept 9 k_B_fact 0 2 12 := ⟨9, (by decide +kernel), rfl, tb_at 369 (by decide +kernel) (by decide +kernel), m_B_fact, iv_B_fact.1, iv_B_fact.2, ⟨(RX0, TX0, 13), rfl, rfl⟩, by decide +kernel, by decide⟩
theorem d_W_kept_12 : Dk k_W_kept 12 .isub 1 13 := ⟨(by decide +kernel), rfl⟩
theorem d_W_kept_13 : Dk k_W_kept 13 .i2l 1 14 := ⟨(by decide +kernel), rfl⟩
theorem d_W_kept_14 : DrL k_W_kept 14 := ⟨(by decide +kernel), rfl⟩
theorem d_W_whole_0 : DcL k_W_whole 0 1 1 := Or.inl ⟨1, (by decide +kernel), by decide, rfl⟩
theorem d_W_whole_1 : DsL k_W_whole 1 3 2 := ⟨Or.inl ⟨3, (by decide +kernel), rfl, rfl⟩, by decide⟩
theorem d_W_whole_2 : DlI k_W_whole 2 1 3 := Or.inl ⟨1, (by decide +kernel), rfl, rfl⟩
theorem d_W_whole_3 : DsI k_W_whole 3 5 5 := ⟨Or.inr ⟨(by decide +kernel), rfl⟩, by decide⟩
theorem d_W_whole_5 : DlI k_W_whole 5 5 7 := Or.inr ⟨(by decide +kernel), rfl⟩
theorem d_W_whole_7 : DlI k_W_whole 7 2 8 := Or.inl ⟨2, (by decide +kernel), rfl, rfl⟩
theorem d_W_whole_8 : Db k_W_whole 8 (.if_icmp .ge) 11 26 := ⟨18, (by decide +kernel), rfl, by decide⟩
theorem d_W_whole_11 : DlL k_W_whole 11 3 12 := Or.inl ⟨3, (by decide +kernel), rfl, rfl⟩
theorem d_W_whole_12 : DlA k_W_whole 12 0 13 := Or.inl ⟨0, (by decide +kernel), rfl, rfl⟩
theorem d_W_whole_13 : DlI k_W_whole 13 5 15 := Or.inr ⟨(by decide +kernel), rfl⟩
theorem d_W_whole_15 : DCS k_W_whole 15 k_W_share 2 18 := ⟨20, (by decide +kernel), rfl, Or.inl (tb_at 366 (by decide +kernel) (by decide +kernel)), m_W_share, is_W_share, by decide +kernel, by decide⟩
theorem d_W_whole_18 : Dk k_W_whole 18 .lmul 1 19 := ⟨(by decide +kernel), rfl⟩
theorem d_W_whole_19 : DsL k_W_whole 19 3 20 := ⟨Or.inl ⟨3, (by decide +kernel), rfl, rfl⟩, by decide⟩
theorem d_W_whole_20 : Dinc k_W_whole 20 5 (1) 23 := ⟨(by decide +kernel), rfl, by decide⟩
theorem d_W_whole_23 : Db k_W_whole 23 .goto 26 5 := ⟨-18, (by decide +kernel), rfl, by decide⟩
theorem d_W_whole_26 : DlL k_W_whole 26 3 27 := Or.inl ⟨3, (by decide +kernel), rfl, rfl⟩
theorem d_W_whole_27 : DrL k_W_whole 27 := ⟨(by decide +kernel), rfl⟩
theorem d_W_left_0 : DcL k_W_left 0 1 1 := Or.inl ⟨1, (by decide +kernel), by decide, rfl⟩
theorem d_W_left_1 : DsL k_W_left 1 3 2 := ⟨Or.inl ⟨3, (by decide +kernel), rfl, rfl⟩, by decide⟩
theorem d_W_left_2 : DlI k_W_left 2 1 3 := Or.inl ⟨1, (by decide +kernel), rfl, rfl⟩
theorem d_W_left_3 : DsI k_W_left 3 5 5 := ⟨Or.inr ⟨(by decide +kernel), rfl⟩, by decide⟩
theorem d_W_left_5 : DlI k_W_left 5 5 7 := Or.inr ⟨(by decide +kernel), rfl⟩
theorem d_W_left_7 : DlI k_W_left 7 2 8 := Or.inl ⟨2, (by decide +kernel), rfl, rfl⟩
theorem d_W_left_8 : Db k_W_left 8 (.if_icmp .ge) 11 26 := ⟨18, (by decide +kernel), rfl, by decide⟩
theorem d_W_left_11 : DlL k_W_left 11 3 12 := Or.inl ⟨3, (by decide +kernel), rfl, rfl⟩
theorem d_W_left_12 : DlA k_W_left 12 0 13 := Or.inl ⟨0, (by decide +kernel), rfl, rfl⟩
theorem d_W_left_13 : DlI k_W_left 13 5 15 := Or.inr ⟨(by decide +kernel), rfl⟩
theorem d_W_left_15 : DCS k_W_left 15 k_W_kept 2 18 := ⟨26, (by decide +kernel), rfl, Or.inl (tb_at 376 (by decide +kernel) (by decide +kernel)), m_W_kept, is_W_kept, by decide +kernel, by decide⟩
theorem d_W_left_18 : Dk k_W_left 18 .lmul 1 19 := ⟨(by decide +kernel), rfl⟩
theorem d_W_left_19 : DsL k_W_left 19 3 20 := ⟨Or.inl ⟨3, (by decide +kernel), rfl, rfl⟩, by decide⟩
theorem d_W_left_20 : Dinc k_W_left 20 5 (1) 23 := ⟨(by decide +kernel), rfl, by decide⟩
theorem d_W_left_23 : Db k_W_left 23 .goto 26 5 := ⟨-18, (by decide +kernel), rfl, by decide⟩
theorem d_W_left_26 : DlL k_W_left 26 3 27 := Or.inl ⟨3, (by decide +kernel), rfl, rfl⟩
theorem d_W_left_27 : DrL k_W_left 27 := ⟨(by decide +kernel), rfl⟩
theorem d_W_weight_0 : DlA k_W_weight 0 0 1 := Or.inl ⟨0, (by decide +kernel), rfl, rfl⟩
theorem d_W_weight_1 : DlI k_W_weight 1 1 2 := Or.inl ⟨1, (by decide +kernel), rfl, rfl⟩
theorem d_W_weight_2 : DCV k_W_weight 2 k_B_firstOf 0 1 5 := ⟨29, (by decide +kernel), rfl, tb_at 361 (by decide +kernel) (by decide +kernel), m_B_firstOf, iv_B_firstOf.1, iv_B_firstOf.2, ⟨(RX0, TX0, 13), rfl, rfl⟩, by decide +kernel, by decide⟩
theorem d_W_weight_5 : DsI k_W_weight 5 3 6 := ⟨Or.inl ⟨3, (by decide +kernel), rfl, rfl⟩, by decide⟩
theorem d_W_weight_6 : DlA k_W_weight 6 0 7 := Or.inl ⟨0, (by decide +kernel), rfl, rfl⟩
theorem d_W_weight_7 : DlI k_W_weight 7 1 8 := Or.inl ⟨1, (by decide +kernel), rfl, rfl⟩
theorem d_W_weight_8 : DCV k_W_weight 8 k_B_senderOf 0 1 11 := ⟨33, (by decide +kernel), rfl, tb_at 362 (by decide +kernel) (by decide +kernel), m_B_senderOf, iv_B_senderOf.1, iv_B_senderOf.2, ⟨(RX0, TX0, 13), rfl, rfl⟩, by decide +kernel, by decide⟩
theorem d_W_weight_11 : Dc k_W_weight 11 (9) 13 := Or.inr (Or.inl ⟨(by decide +kernel), by decide, rfl⟩)
theorem d_W_weight_13 : Db k_W_weight 13 (.if_icmp .eq) 16 21 := ⟨8, (by decide +kernel), rfl, by decide⟩
theorem d_W_weight_16 : DlI k_W_weight 16 3 17 := Or.inl ⟨3, (by decide +kernel), rfl, rfl⟩
theorem d_W_weight_17 : DlI k_W_weight 17 2 18 := Or.inl ⟨2, (by decide +kernel), rfl, rfl⟩
theorem d_W_weight_18 : Db k_W_weight 18 (.if_icmp .le) 21 23 := ⟨5, (by decide +kernel), rfl, by decide⟩
theorem d_W_weight_21 : DcL k_W_weight 21 0 22 := Or.inl ⟨0, (by decide +kernel), by decide, rfl⟩
theorem d_W_weight_22 : DrL k_W_weight 22 := ⟨(by decide +kernel), rfl⟩
theorem d_W_weight_23 : DlA k_W_weight 23 0 24 := Or.inl ⟨0, (by decide +kernel), rfl, rfl⟩
theorem d_W_weight_24 : Dc k_W_weight 24 (0) 25 := Or.inl ⟨(by decide +kernel), rfl⟩
theorem d_W_weight_25 : DlI k_W_weight 25 3 26 := Or.inl ⟨3, (by decide +kernel), rfl, rfl⟩
theorem d_W_weight_26 : DCS k_W_weight 26 k_W_whole 3 29 := ⟨36, (by decide +kernel), rfl, Or.inl (tb_at 363 (by decide +kernel) (by decide +kernel)), m_W_whole, is_W_whole, by decide +kernel, by decide⟩
theorem d_W_weight_29 : DlA k_W_weight 29 0 30 := Or.inl ⟨0, (by decide +kernel), rfl, rfl⟩
theorem d_W_weight_30 : DlI k_W_weight 30 3 31 := Or.inl ⟨3, (by decide +kernel), rfl, rfl⟩
theorem d_W_weight_31 : DlI k_W_weight 31 2 32 := Or.inl ⟨2, (by decide +kernel), rfl, rfl⟩
theorem d_W_weight_32 : DCS k_W_weight 32 k_W_left 3 35 := ⟨40, (by decide +kernel), rfl, Or.inl (tb_at 373 (by decide +kernel) (by decide +kernel)), m_W_left, is_W_left, by decide +kernel, by decide⟩
theorem d_W_weight_35 : Dk k_W_weight 35 .lmul 1 36 := ⟨(by decide +kernel), rfl⟩
theorem d_W_weight_36 : DrL k_W_weight 36 := ⟨(by decide +kernel), rfl⟩
theorem d_W_senderWeight_0 : DlA k_W_senderWeight 0 0 1 := Or.inl ⟨0, (by decide +kernel), rfl, rfl⟩
theorem d_W_senderWeight_1 : DlI k_W_senderWeight 1 1 2 := Or.inl ⟨1, (by decide +kernel), rfl, rfl⟩
theorem d_W_senderWeight_2 : Dc k_W_senderWeight 2 (0) 3 := Or.inl ⟨(by decide +kernel), rfl⟩
theorem d_W_senderWeight_3 : DCS k_W_senderWeight 3 k_W_fresh 3 6 := ⟨43, (by decide +kernel), rfl, Or.inl (tb_at 411 (by decide +kernel) (by decide +kernel)), m_W_fresh, is_W_fresh, by decide +kernel, by decide⟩
theorem d_W_senderWeight_6 : Dk k_W_senderWeight 6 .i2l 1 7 := ⟨(by decide +kernel), rfl⟩
theorem d_W_senderWeight_7 : DsL k_W_senderWeight 7 3 8 := ⟨Or.inl ⟨3, (by decide +kernel), rfl, rfl⟩, by decide⟩
theorem d_W_senderWeight_8 : DcL k_W_senderWeight 8 1 9 := Or.inl ⟨1, (by decide +kernel), by decide, rfl⟩
theorem d_W_senderWeight_9 : DsL k_W_senderWeight 9 5 11 := ⟨Or.inr ⟨(by decide +kernel), rfl⟩, by decide⟩
theorem d_W_senderWeight_11 : Dc k_W_senderWeight 11 (0) 12 := Or.inl ⟨(by decide +kernel), rfl⟩
theorem d_W_senderWeight_12 : DsI k_W_senderWeight 12 7 14 := ⟨Or.inr ⟨(by decide +kernel), rfl⟩, by decide⟩
theorem d_W_senderWeight_14 : DlI k_W_senderWeight 14 7 16 := Or.inr ⟨(by decide +kernel), rfl⟩
theorem d_W_senderWeight_16 : DlI k_W_senderWeight 16 2 17 := Or.inl ⟨2, (by decide +kernel), rfl, rfl⟩
theorem d_W_senderWeight_17 : Db k_W_senderWeight 17 (.if_icmp .ge) 20 60 := ⟨43, (by decide +kernel), rfl, by decide⟩
theorem d_W_senderWeight_20 : DlL k_W_senderWeight 20 5 22 := Or.inr ⟨(by decide +kernel), rfl⟩
theorem d_W_senderWeight_22 : DlA k_W_senderWeight 22 0 23 := Or.inl ⟨0, (by decide +kernel), rfl, rfl⟩
theorem d_W_senderWeight_23 : DlI k_W_senderWeight 23 7 25 := Or.inr ⟨(by decide +kernel), rfl⟩
theorem d_W_senderWeight_25 : DCS k_W_senderWeight 25 k_W_share 2 28 := ⟨20, (by decide +kernel), rfl, Or.inl (tb_at 366 (by decide +kernel) (by decide +kernel)), m_W_share, is_W_share, by decide +kernel, by decide⟩
theorem d_W_senderWeight_28 : Dk k_W_senderWeight 28 .lmul 1 29 := ⟨(by decide +kernel), rfl⟩
theorem d_W_senderWeight_29 : DsL k_W_senderWeight 29 5 31 := ⟨Or.inr ⟨(by decide +kernel), rfl⟩, by decide⟩
theorem d_W_senderWeight_31 : DlL k_W_senderWeight 31 3 32 := Or.inl ⟨3, (by decide +kernel), rfl, rfl⟩
theorem d_W_senderWeight_32 : DlA k_W_senderWeight 32 0 33 := Or.inl ⟨0, (by decide +kernel), rfl, rfl⟩
theorem d_W_senderWeight_33 : DlI k_W_senderWeight 33 7 35 := Or.inr ⟨(by decide +kernel), rfl⟩
theorem d_W_senderWeight_35 : DCS k_W_senderWeight 35 k_W_kept 2 38 := ⟨26, (by decide +kernel), rfl, Or.inl (tb_at 376 (by decide +kernel) (by decide +kernel)), m_W_kept, is_W_kept, by decide +kernel, by decide⟩
theorem d_W_senderWeight_38 : Dk k_W_senderWeight 38 .lmul 1 39 := ⟨(by decide +kernel), rfl⟩
theorem d_W_senderWeight_39 : DlL k_W_senderWeight 39 5 41 := Or.inr ⟨(by decide +kernel), rfl⟩
theorem d_W_senderWeight_41 : DlA k_W_senderWeight 41 0 42 := Or.inl ⟨0, (by decide +kernel), rfl, rfl⟩
theorem d_W_senderWeight_42 : DlI k_W_senderWeight 42 1 43 := Or.inl ⟨1, (by decide +kernel), rfl, rfl⟩
theorem d_W_senderWeight_43 : DlI k_W_senderWeight 43 7 45 := Or.inr ⟨(by decide +kernel), rfl⟩
theorem d_W_senderWeight_45 : Dc k_W_senderWeight 45 (1) 46 := Or.inl ⟨(by decide +kernel), rfl⟩
theorem d_W_senderWeight_46 : Dk k_W_senderWeight 46 .iadd 1 47 := ⟨(by decide +kernel), rfl⟩
theorem d_W_senderWeight_47 : DCS k_W_senderWeight 47 k_W_fresh 3 50 := ⟨43, (by decide +kernel), rfl, Or.inl (tb_at 411 (by decide +kernel) (by decide +kernel)), m_W_fresh, is_W_fresh, by decide +kernel, by decide⟩
theorem d_W_senderWeight_50 : Dk k_W_senderWeight 50 .i2l 1 51 := ⟨(by decide +kernel), rfl⟩
theorem d_W_senderWeight_51 : Dk k_W_senderWeight 51 .lmul 1 52 := ⟨(by decide +kernel), rfl⟩
theorem d_W_senderWeight_52 : Dk k_W_senderWeight 52 .ladd 1 53 := ⟨(by decide +kernel), rfl⟩
theorem d_W_senderWeight_53 : DsL k_W_senderWeight 53 3 54 := ⟨Or.inl ⟨3, (by decide +kernel), rfl, rfl⟩, by decide⟩
theorem d_W_senderWeight_54 : Dinc k_W_senderWeight 54 7 (1) 57 := ⟨(by decide +kernel), rfl, by decide⟩
theorem d_W_senderWeight_57 : Db k_W_senderWeight 57 .goto 60 14 := ⟨-43, (by decide +kernel), rfl, by decide⟩
theorem d_W_senderWeight_60 : DlL k_W_senderWeight 60 3 61 := Or.inl ⟨3, (by decide +kernel), rfl, rfl⟩
theorem d_W_senderWeight_61 : DrL k_W_senderWeight 61 := ⟨(by decide +kernel), rfl⟩
theorem d_W_expectedWeight_0 : DcL k_W_expectedWeight 0 0 1 := Or.inl ⟨0, (by decide +kernel), by decide, rfl⟩
theorem d_W_expectedWeight_1 : DsL k_W_expectedWeight 1 3 2 := ⟨Or.inl ⟨3, (by decide +kernel), rfl, rfl⟩, by decide⟩
theorem d_W_expectedWeight_2 : DlA k_W_expectedWeight 2 0 3 := Or.inl ⟨0, (by decide +kernel), rfl, rfl⟩
theorem d_W_expectedWeight_3 : DlI k_W_expectedWeight 3 1 4 := Or.inl ⟨1, (by decide +kernel), rfl, rfl⟩
theorem d_W_expectedWeight_4 : Dc k_W_expectedWeight 4 (0) 5 := Or.inl ⟨(by decide +kernel), rfl⟩
theorem d_W_expectedWeight_5 : DCS k_W_expectedWeight 5 k_W_fresh 3 8 := ⟨43, (by decide +kernel), rfl, Or.inl (tb_at 411 (by decide +kernel) (by decide +kernel)), m_W_fresh, is_W_fresh, by decide +kernel, by decide⟩
theorem d_W_expectedWeight_8 : Dk k_W_expectedWeight 8 .i2l 1 9 := ⟨(by decide +kernel), rfl⟩
theorem d_W_expectedWeight_9 : DsL k_W_expectedWeight 9 5 11 := ⟨Or.inr ⟨(by decide +kernel), rfl⟩, by decide⟩
theorem d_W_expectedWeight_11 : DcL k_W_expectedWeight 11 1 12 := Or.inl ⟨1, (by decide +kernel), by decide, rfl⟩
theorem d_W_expectedWeight_12 : DsL k_W_expectedWeight 12 7 14 := ⟨Or.inr ⟨(by decide +kernel), rfl⟩, by decide⟩
theorem d_W_expectedWeight_14 : Dc k_W_expectedWeight 14 (0) 15 := Or.inl ⟨(by decide +kernel), rfl⟩
theorem d_W_expectedWeight_15 : DsI k_W_expectedWeight 15 9 17 := ⟨Or.inr ⟨(by decide +kernel), rfl⟩, by decide⟩
theorem d_W_expectedWeight_17 : DlI k_W_expectedWeight 17 9 19 := Or.inr ⟨(by decide +kernel), rfl⟩
theorem d_W_expectedWeight_19 : DlA k_W_expectedWeight 19 0 20 := Or.inl ⟨0, (by decide +kernel), rfl, rfl⟩
theorem d_W_expectedWeight_20 : DG k_W_expectedWeight 20 0 10 23 := ⟨47, (by decide +kernel), f_W_47, rfl⟩
theorem d_W_expectedWeight_23 : Db k_W_expectedWeight 23 (.if_icmp .ge) 26 115 := ⟨92, (by decide +kernel), rfl, by decide⟩
theorem d_W_expectedWeight_26 : DlL k_W_expectedWeight 26 7 28 := Or.inr ⟨(by decide +kernel), rfl⟩
theorem d_W_expectedWeight_28 : DlA k_W_expectedWeight 28 0 29 := Or.inl ⟨0, (by decide +kernel), rfl, rfl⟩
theorem d_W_expectedWeight_29 : DlI k_W_expectedWeight 29 9 31 := Or.inr ⟨(by decide +kernel), rfl⟩
theorem d_W_expectedWeight_31 : DCS k_W_expectedWeight 31 k_W_share 2 34 := ⟨20, (by decide +kernel), rfl, Or.inl (tb_at 366 (by decide +kernel) (by decide +kernel)), m_W_share, is_W_share, by decide +kernel, by decide⟩
theorem d_W_expectedWeight_34 : Dk k_W_expectedWeight 34 .lmul 1 35 := ⟨(by decide +kernel), rfl⟩
theorem d_W_expectedWeight_35 : DsL k_W_expectedWeight 35 7 37 := ⟨Or.inr ⟨(by decide +kernel), rfl⟩, by decide⟩
theorem d_W_expectedWeight_37 : DlI k_W_expectedWeight 37 1 38 := Or.inl ⟨1, (by decide +kernel), rfl, rfl⟩
theorem d_W_expectedWeight_38 : Dc k_W_expectedWeight 38 (9) 40 := Or.inr (Or.inl ⟨(by decide +kernel), by decide, rfl⟩)
theorem d_W_expectedWeight_40 : Db k_W_expectedWeight 40 (.if_icmp .ne) 43 58 := ⟨18, (by decide +kernel), rfl, by decide⟩
theorem d_W_expectedWeight_43 : DlL k_W_expectedWeight 43 7 45 := Or.inr ⟨(by decide +kernel), rfl⟩
theorem d_W_expectedWeight_45 : DlA k_W_expectedWeight 45 0 46 := Or.inl ⟨0, (by decide +kernel), rfl, rfl⟩
theorem d_W_expectedWeight_46 : DlI k_W_expectedWeight 46 9 48 := Or.inr ⟨(by decide +kernel), rfl⟩
theorem d_W_expectedWeight_48 : DlI k_W_expectedWeight 48 2 49 := Or.inl ⟨2, (by decide +kernel), rfl, rfl⟩
theorem d_W_expectedWeight_49 : Dc k_W_expectedWeight 49 (1) 50 := Or.inl ⟨(by decide +kernel), rfl⟩
theorem d_W_expectedWeight_50 : DCS k_W_expectedWeight 50 k_W_outsTo 4 53 := ⟨51, (by decide +kernel), rfl, Or.inl (tb_at 427 (by decide +kernel) (by decide +kernel)), m_W_outsTo, is_W_outsTo, by decide +kernel, by decide⟩
theorem d_W_expectedWeight_53 : Dk k_W_expectedWeight 53 .i2l 1 54 := ⟨(by decide +kernel), rfl⟩
theorem d_W_expectedWeight_54 : Dk k_W_expectedWeight 54 .lmul 1 55 := ⟨(by decide +kernel), rfl⟩
theorem d_W_expectedWeight_55 : Db k_W_expectedWeight 55 .goto 58 70 := ⟨15, (by decide +kernel), rfl, by decide⟩
theorem d_W_expectedWeight_58 : DlL k_W_expectedWeight 58 5 60 := Or.inr ⟨(by decide +kernel), rfl⟩
theorem d_W_expectedWeight_60 : DlA k_W_expectedWeight 60 0 61 := Or.inl ⟨0, (by decide +kernel), rfl, rfl⟩
theorem d_W_expectedWeight_61 : DlI k_W_expectedWeight 61 9 63 := Or.inr ⟨(by decide +kernel), rfl⟩
theorem d_W_expectedWeight_63 : DlI k_W_expectedWeight 63 2 64 := Or.inl ⟨2, (by decide +kernel), rfl, rfl⟩
theorem d_W_expectedWeight_64 : Dc k_W_expectedWeight 64 (0) 65 := Or.inl ⟨(by decide +kernel), rfl⟩
theorem d_W_expectedWeight_65 : DCS k_W_expectedWeight 65 k_W_outsTo 4 68 := ⟨51, (by decide +kernel), rfl, Or.inl (tb_at 427 (by decide +kernel) (by decide +kernel)), m_W_outsTo, is_W_outsTo, by decide +kernel, by decide⟩
theorem d_W_expectedWeight_68 : Dk k_W_expectedWeight 68 .i2l 1 69 := ⟨(by decide +kernel), rfl⟩
theorem d_W_expectedWeight_69 : Dk k_W_expectedWeight 69 .lmul 1 70 := ⟨(by decide +kernel), rfl⟩
theorem d_W_expectedWeight_70 : DsL k_W_expectedWeight 70 10 72 := ⟨Or.inr ⟨(by decide +kernel), rfl⟩, by decide⟩
theorem d_W_expectedWeight_72 : DlL k_W_expectedWeight 72 3 73 := Or.inl ⟨3, (by decide +kernel), rfl, rfl⟩
theorem d_W_expectedWeight_73 : DlA k_W_expectedWeight 73 0 74 := Or.inl ⟨0, (by decide +kernel), rfl, rfl⟩
theorem d_W_expectedWeight_74 : DlI k_W_expectedWeight 74 9 76 := Or.inr ⟨(by decide +kernel), rfl⟩
theorem d_W_expectedWeight_76 : DCS k_W_expectedWeight 76 k_W_share 2 79 := ⟨20, (by decide +kernel), rfl, Or.inl (tb_at 366 (by decide +kernel) (by decide +kernel)), m_W_share, is_W_share, by decide +kernel, by decide⟩
theorem d_W_expectedWeight_79 : Dk k_W_expectedWeight 79 .lmul 1 80 := ⟨(by decide +kernel), rfl⟩
theorem d_W_expectedWeight_80 : DlL k_W_expectedWeight 80 10 82 := Or.inr ⟨(by decide +kernel), rfl⟩
theorem d_W_expectedWeight_82 : Dk k_W_expectedWeight 82 .ladd 1 83 := ⟨(by decide +kernel), rfl⟩
theorem d_W_expectedWeight_83 : DsL k_W_expectedWeight 83 3 84 := ⟨Or.inl ⟨3, (by decide +kernel), rfl, rfl⟩, by decide⟩
theorem d_W_expectedWeight_84 : DlL k_W_expectedWeight 84 5 86 := Or.inr ⟨(by decide +kernel), rfl⟩
theorem d_W_expectedWeight_86 : DlA k_W_expectedWeight 86 0 87 := Or.inl ⟨0, (by decide +kernel), rfl, rfl⟩
theorem d_W_expectedWeight_87 : DlI k_W_expectedWeight 87 9 89 := Or.inr ⟨(by decide +kernel), rfl⟩
theorem d_W_expectedWeight_89 : DCS k_W_expectedWeight 89 k_W_kept 2 92 := ⟨26, (by decide +kernel), rfl, Or.inl (tb_at 376 (by decide +kernel) (by decide +kernel)), m_W_kept, is_W_kept, by decide +kernel, by decide⟩
theorem d_W_expectedWeight_92 : Dk k_W_expectedWeight 92 .lmul 1 93 := ⟨(by decide +kernel), rfl⟩
theorem d_W_expectedWeight_93 : DlL k_W_expectedWeight 93 7 95 := Or.inr ⟨(by decide +kernel), rfl⟩
theorem d_W_expectedWeight_95 : DlA k_W_expectedWeight 95 0 96 := Or.inl ⟨0, (by decide +kernel), rfl, rfl⟩
theorem d_W_expectedWeight_96 : DlI k_W_expectedWeight 96 1 97 := Or.inl ⟨1, (by decide +kernel), rfl, rfl⟩
theorem d_W_expectedWeight_97 : DlI k_W_expectedWeight 97 9 99 := Or.inr ⟨(by decide +kernel), rfl⟩
theorem d_W_expectedWeight_99 : Dc k_W_expectedWeight 99 (1) 100 := Or.inl ⟨(by decide +kernel), rfl⟩
theorem d_W_expectedWeight_100 : Dk k_W_expectedWeight 100 .iadd 1 101 := ⟨(by decide +kernel), rfl⟩
theorem d_W_expectedWeight_101 : DCS k_W_expectedWeight 101 k_W_fresh 3 104 := ⟨43, (by decide +kernel), rfl, Or.inl (tb_at 411 (by decide +kernel) (by decide +kernel)), m_W_fresh, is_W_fresh, by decide +kernel, by decide⟩
theorem d_W_expectedWeight_104 : Dk k_W_expectedWeight 104 .i2l 1 105 := ⟨(by decide +kernel), rfl⟩
theorem d_W_expectedWeight_105 : Dk k_W_expectedWeight 105 .lmul 1 106 := ⟨(by decide +kernel), rfl⟩
theorem d_W_expectedWeight_106 : Dk k_W_expectedWeight 106 .ladd 1 107 := ⟨(by decide +kernel), rfl⟩
theorem d_W_expectedWeight_107 : DsL k_W_expectedWeight 107 5 109 := ⟨Or.inr ⟨(by decide +kernel), rfl⟩, by decide⟩
theorem d_W_expectedWeight_109 : Dinc k_W_expectedWeight 109 9 (1) 112 := ⟨(by decide +kernel), rfl, by decide⟩
theorem d_W_expectedWeight_112 : Db k_W_expectedWeight 112 .goto 115 17 := ⟨-95, (by decide +kernel), rfl, by decide⟩
theorem d_W_expectedWeight_115 : DlL k_W_expectedWeight 115 3 116 := Or.inl ⟨3, (by decide +kernel), rfl, rfl⟩
theorem d_W_expectedWeight_116 : DrL k_W_expectedWeight 116 := ⟨(by decide +kernel), rfl⟩
theorem d_W_fresh_0 : Dc k_W_fresh 0 (0) 1 := Or.inl ⟨(by decide +kernel), rfl⟩
theorem d_W_fresh_1 : DsI k_W_fresh 1 3 2 := ⟨Or.inl ⟨3, (by decide +kernel), rfl, rfl⟩, by decide⟩
theorem d_W_fresh_2 : Dc k_W_fresh 2 (0) 3 := Or.inl ⟨(by decide +kernel), rfl⟩
theorem d_W_fresh_3 : DsI k_W_fresh 3 4 5 := ⟨Or.inr ⟨(by decide +kernel), rfl⟩, by decide⟩
theorem d_W_fresh_5 : DlI k_W_fresh 5 4 7 := Or.inr ⟨(by decide +kernel), rfl⟩
theorem d_W_fresh_7 : DlA k_W_fresh 7 0 8 := Or.inl ⟨0, (by decide +kernel), rfl, rfl⟩
theorem d_W_fresh_8 : DG k_W_fresh 8 0 2 11 := ⟨55, (by decide +kernel), f_W_55, rfl⟩
theorem d_W_fresh_11 : Db k_W_fresh 11 (.if_icmp .ge) 14 49 := ⟨38, (by decide +kernel), rfl, by decide⟩
theorem d_W_fresh_14 : DlI k_W_fresh 14 1 15 := Or.inl ⟨1, (by decide +kernel), rfl, rfl⟩
theorem d_W_fresh_15 : Dc k_W_fresh 15 (9) 17 := Or.inr (Or.inl ⟨(by decide +kernel), by decide, rfl⟩)
theorem d_W_fresh_17 : Db k_W_fresh 17 (.if_icmp .eq) 20 49 := ⟨32, (by decide +kernel), rfl, by decide⟩
theorem d_W_fresh_20 : DlA k_W_fresh 20 0 21 := Or.inl ⟨0, (by decide +kernel), rfl, rfl⟩
theorem d_W_fresh_21 : DlI k_W_fresh 21 4 23 := Or.inr ⟨(by decide +kernel), rfl⟩
theorem d_W_fresh_23 : DCV k_W_fresh 23 k_B_senderOf 0 1 26 := ⟨33, (by decide +kernel), rfl, tb_at 362 (by decide +kernel) (by decide +kernel), m_B_senderOf, iv_B_senderOf.1, iv_B_senderOf.2, ⟨(RX0, TX0, 13), rfl, rfl⟩, by decide +kernel, by decide⟩
theorem d_W_fresh_26 : DlI k_W_fresh 26 1 27 := Or.inl ⟨1, (by decide +kernel), rfl, rfl⟩
theorem d_W_fresh_27 : Db k_W_fresh 27 (.if_icmp .ne) 30 43 := ⟨16, (by decide +kernel), rfl, by decide⟩
theorem d_W_fresh_30 : DlA k_W_fresh 30 0 31 := Or.inl ⟨0, (by decide +kernel), rfl, rfl⟩
theorem d_W_fresh_31 : DlI k_W_fresh 31 4 33 := Or.inr ⟨(by decide +kernel), rfl⟩
theorem d_W_fresh_33 : DCV k_W_fresh 33 k_B_firstOf 0 1 36 := ⟨29, (by decide +kernel), rfl, tb_at 361 (by decide +kernel) (by decide +kernel), m_B_firstOf, iv_B_firstOf.1, iv_B_firstOf.2, ⟨(RX0, TX0, 13), rfl, rfl⟩, by decide +kernel, by decide⟩
theorem d_W_fresh_36 : DlI k_W_fresh 36 2 37 := Or.inl ⟨2, (by decide +kernel), rfl, rfl⟩
theorem d_W_fresh_37 : Db k_W_fresh 37 (.if_icmp .ne) 40 43 := ⟨6, (by decide +kernel), rfl, by decide⟩
theorem d_W_fresh_40 : Dinc k_W_fresh 40 3 (1) 43 := ⟨(by decide +kernel), rfl, by decide⟩
theorem d_W_fresh_43 : Dinc k_W_fresh 43 4 (1) 46 := ⟨(by decide +kernel), rfl, by decide⟩
theorem d_W_fresh_46 : Db k_W_fresh 46 .goto 49 5 := ⟨-41, (by decide +kernel), rfl, by decide⟩
theorem d_W_fresh_49 : DlI k_W_fresh 49 3 50 := Or.inl ⟨3, (by decide +kernel), rfl, rfl⟩
theorem d_W_fresh_50 : DrI k_W_fresh 50 := ⟨(by decide +kernel), rfl⟩
theorem d_W_outsTo_0 : Dc k_W_outsTo 0 (0) 1 := Or.inl ⟨(by decide +kernel), rfl⟩
theorem d_W_outsTo_1 : DsI k_W_outsTo 1 4 3 := ⟨Or.inr ⟨(by decide +kernel), rfl⟩, by decide⟩
theorem d_W_outsTo_3 : Dc k_W_outsTo 3 (0) 4 := Or.inl ⟨(by decide +kernel), rfl⟩
theorem d_W_outsTo_4 : DsI k_W_outsTo 4 5 6 := ⟨Or.inr ⟨(by decide +kernel), rfl⟩, by decide⟩
theorem d_W_outsTo_6 : DlI k_W_outsTo 6 5 8 := Or.inr ⟨(by decide +kernel), rfl⟩
theorem d_W_outsTo_8 : DlA k_W_outsTo 8 0 9 := Or.inl ⟨0, (by decide +kernel), rfl, rfl⟩
theorem d_W_outsTo_9 : DlI k_W_outsTo 9 1 10 := Or.inl ⟨1, (by decide +kernel), rfl, rfl⟩
theorem d_W_outsTo_10 : Dc k_W_outsTo 10 (1) 11 := Or.inl ⟨(by decide +kernel), rfl⟩
theorem d_W_outsTo_11 : DCV k_W_outsTo 11 k_B_fact 0 2 14 := ⟨9, (by decide +kernel), rfl, tb_at 369 (by decide +kernel) (by decide +kernel), m_B_fact, iv_B_fact.1, iv_B_fact.2, ⟨(RX0, TX0, 13), rfl, rfl⟩, by decide +kernel, by decide⟩
theorem d_W_outsTo_14 : Db k_W_outsTo 14 (.if_icmp .ge) 17 65 := ⟨51, (by decide +kernel), rfl, by decide⟩
theorem d_W_outsTo_17 : DlA k_W_outsTo 17 0 18 := Or.inl ⟨0, (by decide +kernel), rfl, rfl⟩
theorem d_W_outsTo_18 : DlI k_W_outsTo 18 1 19 := Or.inl ⟨1, (by decide +kernel), rfl, rfl⟩
theorem d_W_outsTo_19 : DlI k_W_outsTo 19 5 21 := Or.inr ⟨(by decide +kernel), rfl⟩
theorem d_W_outsTo_21 : DCV k_W_outsTo 21 k_B_outLetter 0 2 24 := ⟨58, (by decide +kernel), rfl, tb_at 382 (by decide +kernel) (by decide +kernel), m_B_outLetter, iv_B_outLetter.1, iv_B_outLetter.2, ⟨(RX0, TX0, 13), rfl, rfl⟩, by decide +kernel, by decide⟩
theorem d_W_outsTo_24 : DsI k_W_outsTo 24 6 26 := ⟨Or.inr ⟨(by decide +kernel), rfl⟩, by decide⟩
theorem d_W_outsTo_26 : DlA k_W_outsTo 26 0 27 := Or.inl ⟨0, (by decide +kernel), rfl, rfl⟩
theorem d_W_outsTo_27 : DlI k_W_outsTo 27 6 29 := Or.inr ⟨(by decide +kernel), rfl⟩
theorem d_W_outsTo_29 : DCV k_W_outsTo 29 k_B_receiverOf 0 1 32 := ⟨61, (by decide +kernel), rfl, tb_at 430 (by decide +kernel) (by decide +kernel), m_B_receiverOf, iv_B_receiverOf.1, iv_B_receiverOf.2, ⟨(RX0, TX0, 13), rfl, rfl⟩, by decide +kernel, by decide⟩
theorem d_W_outsTo_32 : DlI k_W_outsTo 32 2 33 := Or.inl ⟨2, (by decide +kernel), rfl, rfl⟩
theorem d_W_outsTo_33 : Db k_W_outsTo 33 (.if_icmp .ne) 36 59 := ⟨26, (by decide +kernel), rfl, by decide⟩
theorem d_W_outsTo_36 : DlA k_W_outsTo 36 0 37 := Or.inl ⟨0, (by decide +kernel), rfl, rfl⟩
theorem d_W_outsTo_37 : DlI k_W_outsTo 37 6 39 := Or.inr ⟨(by decide +kernel), rfl⟩
theorem d_W_outsTo_39 : DCV k_W_outsTo 39 k_B_senderOf 0 1 42 := ⟨33, (by decide +kernel), rfl, tb_at 362 (by decide +kernel) (by decide +kernel), m_B_senderOf, iv_B_senderOf.1, iv_B_senderOf.2, ⟨(RX0, TX0, 13), rfl, rfl⟩, by decide +kernel, by decide⟩
theorem d_W_outsTo_42 : Dc k_W_outsTo 42 (9) 44 := Or.inr (Or.inl ⟨(by decide +kernel), by decide, rfl⟩)
theorem d_W_outsTo_44 : Db k_W_outsTo 44 (.if_icmp .ne) 47 51 := ⟨7, (by decide +kernel), rfl, by decide⟩
theorem d_W_outsTo_47 : Dc k_W_outsTo 47 (1) 48 := Or.inl ⟨(by decide +kernel), rfl⟩
theorem d_W_outsTo_48 : Db k_W_outsTo 48 .goto 51 52 := ⟨4, (by decide +kernel), rfl, by decide⟩
theorem d_W_outsTo_51 : Dc k_W_outsTo 51 (0) 52 := Or.inl ⟨(by decide +kernel), rfl⟩
theorem d_W_outsTo_52 : DlI k_W_outsTo 52 3 53 := Or.inl ⟨3, (by decide +kernel), rfl, rfl⟩
theorem d_W_outsTo_53 : Db k_W_outsTo 53 (.if_icmp .ne) 56 59 := ⟨6, (by decide +kernel), rfl, by decide⟩
theorem d_W_outsTo_56 : Dinc k_W_outsTo 56 4 (1) 59 := ⟨(by decide +kernel), rfl, by decide⟩
theorem d_W_outsTo_59 : Dinc k_W_outsTo 59 5 (1) 62 := ⟨(by decide +kernel), rfl, by decide⟩
theorem d_W_outsTo_62 : Db k_W_outsTo 62 .goto 65 6 := ⟨-56, (by decide +kernel), rfl, by decide⟩
theorem d_W_outsTo_65 : DlI k_W_outsTo 65 4 67 := Or.inr ⟨(by decide +kernel), rfl⟩
theorem d_W_outsTo_67 : DrI k_W_outsTo 67 := ⟨(by decide +kernel), rfl⟩
theorem d_W_possible_0 : DlA k_W_possible 0 0 1 := Or.inl ⟨0, (by decide +kernel), rfl, rfl⟩
theorem d_W_possible_1 : DlI k_W_possible 1 1 2 := Or.inl ⟨1, (by decide +kernel), rfl, rfl⟩
theorem d_W_possible_2 : DlI k_W_possible 2 2 3 := Or.inl ⟨2, (by decide +kernel), rfl, rfl⟩
theorem d_W_possible_3 : DCV k_W_possible 3 k_B_isOwnOut 0 2 6 := ⟨64, (by decide +kernel), rfl, tb_at 352 (by decide +kernel) (by decide +kernel), m_B_isOwnOut, iv_B_isOwnOut.1, iv_B_isOwnOut.2, ⟨(RX0, TX0, 13), rfl, rfl⟩, by decide +kernel, by decide⟩
theorem d_W_possible_6 : Db k_W_possible 6 (.ifCond .eq) 9 11 := ⟨5, (by decide +kernel), rfl, by decide⟩
theorem d_W_possible_9 : Dc k_W_possible 9 (1) 10 := Or.inl ⟨(by decide +kernel), rfl⟩
theorem d_W_possible_10 : DrI k_W_possible 10 := ⟨(by decide +kernel), rfl⟩
theorem d_W_possible_11 : Dc k_W_possible 11 (0) 12 := Or.inl ⟨(by decide +kernel), rfl⟩
theorem d_W_possible_12 : DsI k_W_possible 12 3 13 := ⟨Or.inl ⟨3, (by decide +kernel), rfl, rfl⟩, by decide⟩
theorem d_W_possible_13 : Dc k_W_possible 13 (0) 14 := Or.inl ⟨(by decide +kernel), rfl⟩
theorem d_W_possible_14 : DsI k_W_possible 14 4 16 := ⟨Or.inr ⟨(by decide +kernel), rfl⟩, by decide⟩
theorem d_W_possible_16 : DlI k_W_possible 16 4 18 := Or.inr ⟨(by decide +kernel), rfl⟩
theorem d_W_possible_18 : DlA k_W_possible 18 0 19 := Or.inl ⟨0, (by decide +kernel), rfl, rfl⟩
theorem d_W_possible_19 : DG k_W_possible 19 0 2 22 := ⟨55, (by decide +kernel), f_W_55, rfl⟩
theorem d_W_possible_22 : Db k_W_possible 22 (.if_icmp .ge) 25 46 := ⟨24, (by decide +kernel), rfl, by decide⟩
theorem d_W_possible_25 : DlA k_W_possible 25 0 26 := Or.inl ⟨0, (by decide +kernel), rfl, rfl⟩
theorem d_W_possible_26 : DlI k_W_possible 26 4 28 := Or.inr ⟨(by decide +kernel), rfl⟩
theorem d_W_possible_28 : DlI k_W_possible 28 1 29 := Or.inl ⟨1, (by decide +kernel), rfl, rfl⟩
theorem d_W_possible_29 : DCS k_W_possible 29 k_W_weight 3 32 := ⟨68, (by decide +kernel), rfl, Or.inl (tb_at 358 (by decide +kernel) (by decide +kernel)), m_W_weight, is_W_weight, by decide +kernel, by decide⟩
theorem d_W_possible_32 : DcL k_W_possible 32 0 33 := Or.inl ⟨0, (by decide +kernel), by decide, rfl⟩
theorem d_W_possible_33 : Dk k_W_possible 33 .lcmp 1 34 := ⟨(by decide +kernel), rfl⟩
theorem d_W_possible_34 : Db k_W_possible 34 (.ifCond .le) 37 40 := ⟨6, (by decide +kernel), rfl, by decide⟩
theorem d_W_possible_37 : Dinc k_W_possible 37 3 (1) 40 := ⟨(by decide +kernel), rfl, by decide⟩
theorem d_W_possible_40 : Dinc k_W_possible 40 4 (1) 43 := ⟨(by decide +kernel), rfl, by decide⟩
theorem d_W_possible_43 : Db k_W_possible 43 .goto 46 16 := ⟨-27, (by decide +kernel), rfl, by decide⟩
theorem d_W_possible_46 : DlI k_W_possible 46 3 47 := Or.inl ⟨3, (by decide +kernel), rfl, rfl⟩
theorem d_W_possible_47 : DrI k_W_possible 47 := ⟨(by decide +kernel), rfl⟩
theorem d_W_likeliest_0 : DlA k_W_likeliest 0 0 1 := Or.inl ⟨0, (by decide +kernel), rfl, rfl⟩
theorem d_W_likeliest_1 : DlI k_W_likeliest 1 1 2 := Or.inl ⟨1, (by decide +kernel), rfl, rfl⟩
theorem d_W_likeliest_2 : DlI k_W_likeliest 2 2 3 := Or.inl ⟨2, (by decide +kernel), rfl, rfl⟩
theorem d_W_likeliest_3 : DCV k_W_likeliest 3 k_B_outLetter 0 2 6 := ⟨58, (by decide +kernel), rfl, tb_at 382 (by decide +kernel) (by decide +kernel), m_B_outLetter, iv_B_outLetter.1, iv_B_outLetter.2, ⟨(RX0, TX0, 13), rfl, rfl⟩, by decide +kernel, by decide⟩
theorem d_W_likeliest_6 : DsI k_W_likeliest 6 3 7 := ⟨Or.inl ⟨3, (by decide +kernel), rfl, rfl⟩, by decide⟩
theorem d_W_likeliest_7 : DlA k_W_likeliest 7 0 8 := Or.inl ⟨0, (by decide +kernel), rfl, rfl⟩
theorem d_W_likeliest_8 : DlI k_W_likeliest 8 1 9 := Or.inl ⟨1, (by decide +kernel), rfl, rfl⟩
theorem d_W_likeliest_9 : DlI k_W_likeliest 9 2 10 := Or.inl ⟨2, (by decide +kernel), rfl, rfl⟩
theorem d_W_likeliest_10 : DCV k_W_likeliest 10 k_B_isOwnOut 0 2 13 := ⟨64, (by decide +kernel), rfl, tb_at 352 (by decide +kernel) (by decide +kernel), m_B_isOwnOut, iv_B_isOwnOut.1, iv_B_isOwnOut.2, ⟨(RX0, TX0, 13), rfl, rfl⟩, by decide +kernel, by decide⟩
theorem d_W_likeliest_13 : Db k_W_likeliest 13 (.ifCond .eq) 16 18 := ⟨5, (by decide +kernel), rfl, by decide⟩
theorem d_W_likeliest_16 : DlI k_W_likeliest 16 3 17 := Or.inl ⟨3, (by decide +kernel), rfl, rfl⟩
theorem d_W_likeliest_17 : DrI k_W_likeliest 17 := ⟨(by decide +kernel), rfl⟩
theorem d_W_likeliest_18 : DcL k_W_likeliest 18 0 19 := Or.inl ⟨0, (by decide +kernel), by decide, rfl⟩
theorem d_W_likeliest_19 : DsL k_W_likeliest 19 4 21 := ⟨Or.inr ⟨(by decide +kernel), rfl⟩, by decide⟩
theorem d_W_likeliest_21 : Dc k_W_likeliest 21 (0) 22 := Or.inl ⟨(by decide +kernel), rfl⟩
theorem d_W_likeliest_22 : DsI k_W_likeliest 22 6 24 := ⟨Or.inr ⟨(by decide +kernel), rfl⟩, by decide⟩
theorem d_W_likeliest_24 : DlI k_W_likeliest 24 6 26 := Or.inr ⟨(by decide +kernel), rfl⟩
theorem d_W_likeliest_26 : DlA k_W_likeliest 26 0 27 := Or.inl ⟨0, (by decide +kernel), rfl, rfl⟩
theorem d_W_likeliest_27 : DG k_W_likeliest 27 0 2 30 := ⟨55, (by decide +kernel), f_W_55, rfl⟩
theorem d_W_likeliest_30 : Db k_W_likeliest 30 (.if_icmp .ge) 33 63 := ⟨33, (by decide +kernel), rfl, by decide⟩
theorem d_W_likeliest_33 : DlA k_W_likeliest 33 0 34 := Or.inl ⟨0, (by decide +kernel), rfl, rfl⟩
theorem d_W_likeliest_34 : DlI k_W_likeliest 34 6 36 := Or.inr ⟨(by decide +kernel), rfl⟩
theorem d_W_likeliest_36 : DlI k_W_likeliest 36 1 37 := Or.inl ⟨1, (by decide +kernel), rfl, rfl⟩
theorem d_W_likeliest_37 : DCS k_W_likeliest 37 k_W_weight 3 40 := ⟨68, (by decide +kernel), rfl, Or.inl (tb_at 358 (by decide +kernel) (by decide +kernel)), m_W_weight, is_W_weight, by decide +kernel, by decide⟩
theorem d_W_likeliest_40 : DsL k_W_likeliest 40 7 42 := ⟨Or.inr ⟨(by decide +kernel), rfl⟩, by decide⟩
theorem d_W_likeliest_42 : DlL k_W_likeliest 42 7 44 := Or.inr ⟨(by decide +kernel), rfl⟩
theorem d_W_likeliest_44 : DlL k_W_likeliest 44 4 46 := Or.inr ⟨(by decide +kernel), rfl⟩
theorem d_W_likeliest_46 : Dk k_W_likeliest 46 .lcmp 1 47 := ⟨(by decide +kernel), rfl⟩
theorem d_W_likeliest_47 : Db k_W_likeliest 47 (.ifCond .le) 50 57 := ⟨10, (by decide +kernel), rfl, by decide⟩
theorem d_W_likeliest_50 : DlL k_W_likeliest 50 7 52 := Or.inr ⟨(by decide +kernel), rfl⟩
theorem d_W_likeliest_52 : DsL k_W_likeliest 52 4 54 := ⟨Or.inr ⟨(by decide +kernel), rfl⟩, by decide⟩
theorem d_W_likeliest_54 : DlI k_W_likeliest 54 6 56 := Or.inr ⟨(by decide +kernel), rfl⟩
theorem d_W_likeliest_56 : DsI k_W_likeliest 56 3 57 := ⟨Or.inl ⟨3, (by decide +kernel), rfl, rfl⟩, by decide⟩
theorem d_W_likeliest_57 : Dinc k_W_likeliest 57 6 (1) 60 := ⟨(by decide +kernel), rfl, by decide⟩
theorem d_W_likeliest_60 : Db k_W_likeliest 60 .goto 63 24 := ⟨-36, (by decide +kernel), rfl, by decide⟩
theorem d_W_likeliest_63 : DlI k_W_likeliest 63 3 64 := Or.inl ⟨3, (by decide +kernel), rfl, rfl⟩
theorem d_W_likeliest_64 : DrI k_W_likeliest 64 := ⟨(by decide +kernel), rfl⟩
end
section
theorem d_X_init_0 : DlA k_X_init 0 0 1 := Or.inl ⟨0, (by decide +kernel), rfl, rfl⟩
theorem d_X_init_4 : DlA k_X_init 4 0 5 := Or.inl ⟨0, (by decide +kernel), rfl, rfl⟩
theorem d_X_init_8 : Dk k_X_init 8 .dup 1 9 := ⟨(by decide +kernel), rfl⟩
theorem d_X_init_15 : DlA k_X_init 15 0 16 := Or.inl ⟨0, (by decide +kernel), rfl, rfl⟩
theorem d_X_init_19 : Dk k_X_init 19 .dup 1 20 := ⟨(by decide +kernel), rfl⟩
theorem d_X_init_26 : DlA k_X_init 26 0 27 := Or.inl ⟨0, (by decide +kernel), rfl, rfl⟩
theorem d_X_init_30 : Dk k_X_init 30 .dup 1 31 := ⟨(by decide +kernel), rfl⟩
theorem d_X_init_37 : DlA k_X_init 37 0 38 := Or.inl ⟨0, (by decide +kernel), rfl, rfl⟩
theorem d_X_init_41 : Dk k_X_init 41 .dup 1 42 := ⟨(by decide +kernel), rfl⟩
theorem d_X_init_48 : DlA k_X_init 48 0 49 := Or.inl ⟨0, (by decide +kernel), rfl, rfl⟩
theorem d_X_init_49 : Dc k_X_init 49 (0) 50 := Or.inl ⟨(by decide +kernel), rfl⟩
theorem d_X_init_50 : DP k_X_init 50 4 4 53 .boolean := ⟨29, (by decide +kernel), p_X_29, rfl, RX5, TX5, 7, rfl, rfl⟩
theorem d_X_init_53 : DlA k_X_init 53 0 54 := Or.inl ⟨0, (by decide +kernel), rfl, rfl⟩
theorem d_X_init_57 : Dk k_X_init 57 .dup 1 58 := ⟨(by decide +kernel), rfl⟩
theorem d_X_init_64 : DlA k_X_init 64 0 65 := Or.inl ⟨0, (by decide +kernel), rfl, rfl⟩
theorem d_X_init_65 : Dc k_X_init 65 (4) 66 := Or.inl ⟨(by decide +kernel), rfl⟩
theorem d_X_init_72 : Dc k_X_init 72 (0) 73 := Or.inl ⟨(by decide +kernel), rfl⟩
theorem d_X_init_73 : DsI k_X_init 73 1 74 := ⟨Or.inl ⟨1, (by decide +kernel), rfl, rfl⟩, by decide⟩
theorem d_X_init_74 : DlI k_X_init 74 1 75 := Or.inl ⟨1, (by decide +kernel), rfl, rfl⟩
theorem d_X_init_75 : Dc k_X_init 75 (4) 76 := Or.inl ⟨(by decide +kernel), rfl⟩
theorem d_X_init_76 : Db k_X_init 76 (.if_icmp .ge) 79 98 := ⟨22, (by decide +kernel), rfl, by decide⟩
theorem d_X_init_79 : DlA k_X_init 79 0 80 := Or.inl ⟨0, (by decide +kernel), rfl, rfl⟩
theorem d_X_init_80 : DG k_X_init 80 4 6 83 := ⟨42, (by decide +kernel), f_X_42, rfl⟩
theorem d_X_init_83 : DlI k_X_init 83 1 84 := Or.inl ⟨1, (by decide +kernel), rfl, rfl⟩
theorem d_X_init_87 : Dk k_X_init 87 .dup 1 88 := ⟨(by decide +kernel), rfl⟩
theorem d_X_init_92 : Dinc k_X_init 92 1 (1) 95 := ⟨(by decide +kernel), rfl, by decide⟩
theorem d_X_init_95 : Db k_X_init 95 .goto 98 74 := ⟨-21, (by decide +kernel), rfl, by decide⟩
theorem d_X_init_98 : DrV k_X_init 98 := ⟨(by decide +kernel), rfl⟩
theorem d_X_come_0 : DlI k_X_come 0 1 1 := Or.inl ⟨1, (by decide +kernel), rfl, rfl⟩
theorem d_X_come_1 : Dc k_X_come 1 (0) 2 := Or.inl ⟨(by decide +kernel), rfl⟩
theorem d_X_come_2 : Dc k_X_come 2 (7) 4 := Or.inr (Or.inl ⟨(by decide +kernel), by decide, rfl⟩)
theorem d_X_come_4 : DCS k_X_come 4 k_X_within 3 7 := ⟨47, (by decide +kernel), rfl, Or.inl (tb_at 220 (by decide +kernel) (by decide +kernel)), m_X_within, is_X_within, by decide +kernel, by decide⟩
theorem d_X_come_7 : Db k_X_come 7 (.ifCond .ne) 10 16 := ⟨9, (by decide +kernel), rfl, by decide⟩
theorem d_X_come_10 : DlI k_X_come 10 1 11 := Or.inl ⟨1, (by decide +kernel), rfl, rfl⟩
theorem d_X_come_11 : Dc k_X_come 11 (9) 13 := Or.inr (Or.inl ⟨(by decide +kernel), by decide, rfl⟩)
theorem d_X_come_13 : Db k_X_come 13 (.if_icmp .ne) 16 26 := ⟨13, (by decide +kernel), rfl, by decide⟩
theorem d_X_come_16 : DlI k_X_come 16 2 17 := Or.inl ⟨2, (by decide +kernel), rfl, rfl⟩
theorem d_X_come_17 : Dc k_X_come 17 (0) 18 := Or.inl ⟨(by decide +kernel), rfl⟩
theorem d_X_come_18 : Dc k_X_come 18 (7) 20 := Or.inr (Or.inl ⟨(by decide +kernel), by decide, rfl⟩)
theorem d_X_come_20 : DCS k_X_come 20 k_X_within 3 23 := ⟨47, (by decide +kernel), rfl, Or.inl (tb_at 220 (by decide +kernel) (by decide +kernel)), m_X_within, is_X_within, by decide +kernel, by decide⟩
theorem d_X_come_23 : Db k_X_come 23 (.ifCond .ne) 26 28 := ⟨5, (by decide +kernel), rfl, by decide⟩
theorem d_X_come_26 : Dc k_X_come 26 (-1) 27 := Or.inl ⟨(by decide +kernel), rfl⟩
theorem d_X_come_27 : DrI k_X_come 27 := ⟨(by decide +kernel), rfl⟩
theorem d_X_come_28 : DlA k_X_come 28 0 29 := Or.inl ⟨0, (by decide +kernel), rfl, rfl⟩
theorem d_X_come_29 : DG k_X_come 29 4 0 32 := ⟨12, (by decide +kernel), f_X_12, rfl⟩
theorem d_X_come_32 : DCV k_X_come 32 k_B_takesLetter 0 0 35 := ⟨51, (by decide +kernel), rfl, tb_at 223 (by decide +kernel) (by decide +kernel), m_B_takesLetter, iv_B_takesLetter.1, iv_B_takesLetter.2, ⟨(RX0, TX0, 13), rfl, rfl⟩, by decide +kernel, by decide⟩
theorem d_X_come_35 : Db k_X_come 35 (.ifCond .ne) 38 41 := ⟨6, (by decide +kernel), rfl, by decide⟩
theorem d_X_come_38 : Dc k_X_come 38 (-3) 40 := Or.inr (Or.inl ⟨(by decide +kernel), by decide, rfl⟩)
theorem d_X_come_40 : DrI k_X_come 40 := ⟨(by decide +kernel), rfl⟩
theorem d_X_come_41 : DlA k_X_come 41 0 42 := Or.inl ⟨0, (by decide +kernel), rfl, rfl⟩
theorem d_X_come_42 : DG k_X_come 42 4 1 45 := ⟨19, (by decide +kernel), f_X_19, rfl⟩
theorem d_X_come_45 : DlA k_X_come 45 0 46 := Or.inl ⟨0, (by decide +kernel), rfl, rfl⟩
theorem d_X_come_46 : DG k_X_come 46 4 0 49 := ⟨12, (by decide +kernel), f_X_12, rfl⟩
theorem d_X_come_49 : DCV k_X_come 49 k_P_remember 1 1 52 := ⟨55, (by decide +kernel), rfl, tb_at 231 (by decide +kernel) (by decide +kernel), m_P_remember, iv_P_remember.1, iv_P_remember.2, ⟨(RX1, TX1, 3), rfl, rfl⟩, by decide +kernel, by decide⟩
theorem d_X_come_52 : DlA k_X_come 52 0 53 := Or.inl ⟨0, (by decide +kernel), rfl, rfl⟩
theorem d_X_come_53 : DG k_X_come 53 4 0 56 := ⟨12, (by decide +kernel), f_X_12, rfl⟩
theorem d_X_come_56 : DlI k_X_come 56 1 57 := Or.inl ⟨1, (by decide +kernel), rfl, rfl⟩
theorem d_X_come_57 : DlI k_X_come 57 2 58 := Or.inl ⟨2, (by decide +kernel), rfl, rfl⟩
theorem d_X_come_58 : DCV k_X_come 58 k_B_takeLetter 0 2 61 := ⟨59, (by decide +kernel), rfl, tb_at 242 (by decide +kernel) (by decide +kernel), m_B_takeLetter, iv_B_takeLetter.1, iv_B_takeLetter.2, ⟨(RX0, TX0, 13), rfl, rfl⟩, by decide +kernel, by decide⟩
theorem d_X_come_61 : DrI k_X_come 61 := ⟨(by decide +kernel), rfl⟩
theorem d_X_tick_0 : DlA k_X_tick 0 0 1 := Or.inl ⟨0, (by decide +kernel), rfl, rfl⟩
theorem d_X_tick_1 : DG k_X_tick 1 4 0 4 := ⟨12, (by decide +kernel), f_X_12, rfl⟩
theorem d_X_tick_4 : DCV k_X_tick 4 k_B_isFull 0 0 7 := ⟨63, (by decide +kernel), rfl, tb_at 279 (by decide +kernel) (by decide +kernel), m_B_isFull, iv_B_isFull.1, iv_B_isFull.2, ⟨(RX0, TX0, 13), rfl, rfl⟩, by decide +kernel, by decide⟩
theorem d_X_tick_7 : Db k_X_tick 7 (.ifCond .eq) 10 13 := ⟨6, (by decide +kernel), rfl, by decide⟩
theorem d_X_tick_10 : Dc k_X_tick 10 (-3) 12 := Or.inr (Or.inl ⟨(by decide +kernel), by decide, rfl⟩)
theorem d_X_tick_12 : DrI k_X_tick 12 := ⟨(by decide +kernel), rfl⟩
theorem d_X_tick_13 : DlA k_X_tick 13 0 14 := Or.inl ⟨0, (by decide +kernel), rfl, rfl⟩
theorem d_X_tick_14 : DG k_X_tick 14 4 1 17 := ⟨19, (by decide +kernel), f_X_19, rfl⟩
theorem d_X_tick_17 : DlA k_X_tick 17 0 18 := Or.inl ⟨0, (by decide +kernel), rfl, rfl⟩
theorem d_X_tick_18 : DG k_X_tick 18 4 0 21 := ⟨12, (by decide +kernel), f_X_12, rfl⟩
theorem d_X_tick_21 : DCV k_X_tick 21 k_P_remember 1 1 24 := ⟨55, (by decide +kernel), rfl, tb_at 231 (by decide +kernel) (by decide +kernel), m_P_remember, iv_P_remember.1, iv_P_remember.2, ⟨(RX1, TX1, 3), rfl, rfl⟩, by decide +kernel, by decide⟩
theorem d_X_tick_24 : DlA k_X_tick 24 0 25 := Or.inl ⟨0, (by decide +kernel), rfl, rfl⟩
theorem d_X_tick_25 : DG k_X_tick 25 4 0 28 := ⟨12, (by decide +kernel), f_X_12, rfl⟩
theorem d_X_tick_28 : DCV k_X_tick 28 k_B_hearTick 0 0 31 := ⟨66, (by decide +kernel), rfl, tb_at 280 (by decide +kernel) (by decide +kernel), m_B_hearTick, iv_B_hearTick.1, iv_B_hearTick.2, ⟨(RX0, TX0, 13), rfl, rfl⟩, by decide +kernel, by decide⟩
theorem d_X_tick_31 : DrI k_X_tick 31 := ⟨(by decide +kernel), rfl⟩
theorem d_X_tell_0 : DlI k_X_tell 0 1 1 := Or.inl ⟨1, (by decide +kernel), rfl, rfl⟩
theorem d_X_tell_1 : Dc k_X_tell 1 (0) 2 := Or.inl ⟨(by decide +kernel), rfl⟩
theorem d_X_tell_2 : Dc k_X_tell 2 (3) 3 := Or.inl ⟨(by decide +kernel), rfl⟩
theorem d_X_tell_3 : DCS k_X_tell 3 k_X_within 3 6 := ⟨47, (by decide +kernel), rfl, Or.inl (tb_at 220 (by decide +kernel) (by decide +kernel)), m_X_within, is_X_within, by decide +kernel, by decide⟩
theorem d_X_tell_6 : Db k_X_tell 6 (.ifCond .eq) 9 26 := ⟨20, (by decide +kernel), rfl, by decide⟩
theorem d_X_tell_9 : DlI k_X_tell 9 2 10 := Or.inl ⟨2, (by decide +kernel), rfl, rfl⟩
theorem d_X_tell_13 : DlI k_X_tell 13 1 14 := Or.inl ⟨1, (by decide +kernel), rfl, rfl⟩
theorem d_X_tell_14 : Dk k_X_tell 14 .iaload 1 15 := ⟨(by decide +kernel), rfl⟩
theorem d_X_tell_18 : DlI k_X_tell 18 1 19 := Or.inl ⟨1, (by decide +kernel), rfl, rfl⟩
theorem d_X_tell_19 : Dk k_X_tell 19 .iaload 1 20 := ⟨(by decide +kernel), rfl⟩
theorem d_X_tell_20 : DCS k_X_tell 20 k_X_within 3 23 := ⟨47, (by decide +kernel), rfl, Or.inl (tb_at 220 (by decide +kernel) (by decide +kernel)), m_X_within, is_X_within, by decide +kernel, by decide⟩
theorem d_X_tell_23 : Db k_X_tell 23 (.ifCond .ne) 26 28 := ⟨5, (by decide +kernel), rfl, by decide⟩
theorem d_X_tell_26 : Dc k_X_tell 26 (-1) 27 := Or.inl ⟨(by decide +kernel), rfl⟩
theorem d_X_tell_27 : DrI k_X_tell 27 := ⟨(by decide +kernel), rfl⟩
theorem d_X_tell_28 : DlA k_X_tell 28 0 29 := Or.inl ⟨0, (by decide +kernel), rfl, rfl⟩
theorem d_X_tell_29 : DG k_X_tell 29 4 0 32 := ⟨12, (by decide +kernel), f_X_12, rfl⟩
theorem d_X_tell_32 : DG k_X_tell 32 0 0 35 := ⟨77, (by decide +kernel), f_X_77, rfl⟩
theorem d_X_tell_35 : DlI k_X_tell 35 1 36 := Or.inl ⟨1, (by decide +kernel), rfl, rfl⟩
theorem d_X_tell_36 : Dk k_X_tell 36 .iaload 1 37 := ⟨(by decide +kernel), rfl⟩
theorem d_X_tell_37 : DsI k_X_tell 37 3 38 := ⟨Or.inl ⟨3, (by decide +kernel), rfl, rfl⟩, by decide⟩
theorem d_X_tell_38 : DlI k_X_tell 38 3 39 := Or.inl ⟨3, (by decide +kernel), rfl, rfl⟩
theorem d_X_tell_39 : DlI k_X_tell 39 2 40 := Or.inl ⟨2, (by decide +kernel), rfl, rfl⟩
theorem d_X_tell_40 : Db k_X_tell 40 (.if_icmp .ne) 43 46 := ⟨6, (by decide +kernel), rfl, by decide⟩
theorem d_X_tell_43 : Dc k_X_tell 43 (-2) 45 := Or.inr (Or.inl ⟨(by decide +kernel), by decide, rfl⟩)
theorem d_X_tell_45 : DrI k_X_tell 45 := ⟨(by decide +kernel), rfl⟩
theorem d_X_tell_46 : DlA k_X_tell 46 0 47 := Or.inl ⟨0, (by decide +kernel), rfl, rfl⟩
theorem d_X_tell_47 : DG k_X_tell 47 4 1 50 := ⟨19, (by decide +kernel), f_X_19, rfl⟩
theorem d_X_tell_50 : DlA k_X_tell 50 0 51 := Or.inl ⟨0, (by decide +kernel), rfl, rfl⟩
theorem d_X_tell_51 : DG k_X_tell 51 4 0 54 := ⟨12, (by decide +kernel), f_X_12, rfl⟩
theorem d_X_tell_54 : DCV k_X_tell 54 k_P_remember 1 1 57 := ⟨55, (by decide +kernel), rfl, tb_at 231 (by decide +kernel) (by decide +kernel), m_P_remember, iv_P_remember.1, iv_P_remember.2, ⟨(RX1, TX1, 3), rfl, rfl⟩, by decide +kernel, by decide⟩
theorem d_X_tell_57 : DlA k_X_tell 57 0 58 := Or.inl ⟨0, (by decide +kernel), rfl, rfl⟩
theorem d_X_tell_58 : DG k_X_tell 58 4 0 61 := ⟨12, (by decide +kernel), f_X_12, rfl⟩
theorem d_X_tell_61 : DG k_X_tell 61 0 0 64 := ⟨77, (by decide +kernel), f_X_77, rfl⟩
theorem d_X_tell_64 : DlI k_X_tell 64 1 65 := Or.inl ⟨1, (by decide +kernel), rfl, rfl⟩
theorem d_X_tell_65 : DlI k_X_tell 65 2 66 := Or.inl ⟨2, (by decide +kernel), rfl, rfl⟩
theorem d_X_tell_66 : Dk k_X_tell 66 .iastore 1 67 := ⟨(by decide +kernel), rfl⟩
theorem d_X_tell_67 : DlI k_X_tell 67 3 68 := Or.inl ⟨3, (by decide +kernel), rfl, rfl⟩
theorem d_X_tell_68 : DrI k_X_tell 68 := ⟨(by decide +kernel), rfl⟩
theorem d_X_begin_0 : DlA k_X_begin 0 0 1 := Or.inl ⟨0, (by decide +kernel), rfl, rfl⟩
theorem d_X_begin_1 : DG k_X_begin 1 4 0 4 := ⟨12, (by decide +kernel), f_X_12, rfl⟩
theorem d_X_begin_4 : DG k_X_begin 4 0 2 7 := ⟨80, (by decide +kernel), f_X_80, rfl⟩
theorem d_X_begin_7 : DsI k_X_begin 7 1 8 := ⟨Or.inl ⟨1, (by decide +kernel), rfl, rfl⟩, by decide⟩
theorem d_X_begin_8 : DlI k_X_begin 8 1 9 := Or.inl ⟨1, (by decide +kernel), rfl, rfl⟩
theorem d_X_begin_9 : Db k_X_begin 9 (.ifCond .ne) 12 15 := ⟨6, (by decide +kernel), rfl, by decide⟩
theorem d_X_begin_12 : Dc k_X_begin 12 (-2) 14 := Or.inr (Or.inl ⟨(by decide +kernel), by decide, rfl⟩)
theorem d_X_begin_14 : DrI k_X_begin 14 := ⟨(by decide +kernel), rfl⟩
theorem d_X_begin_15 : DlA k_X_begin 15 0 16 := Or.inl ⟨0, (by decide +kernel), rfl, rfl⟩
theorem d_X_begin_16 : DG k_X_begin 16 4 1 19 := ⟨19, (by decide +kernel), f_X_19, rfl⟩
theorem d_X_begin_19 : DlA k_X_begin 19 0 20 := Or.inl ⟨0, (by decide +kernel), rfl, rfl⟩
theorem d_X_begin_20 : DG k_X_begin 20 4 0 23 := ⟨12, (by decide +kernel), f_X_12, rfl⟩
theorem d_X_begin_23 : DCV k_X_begin 23 k_P_remember 1 1 26 := ⟨55, (by decide +kernel), rfl, tb_at 231 (by decide +kernel) (by decide +kernel), m_P_remember, iv_P_remember.1, iv_P_remember.2, ⟨(RX1, TX1, 3), rfl, rfl⟩, by decide +kernel, by decide⟩
theorem d_X_begin_26 : DlA k_X_begin 26 0 27 := Or.inl ⟨0, (by decide +kernel), rfl, rfl⟩
theorem d_X_begin_27 : DG k_X_begin 27 4 0 30 := ⟨12, (by decide +kernel), f_X_12, rfl⟩
theorem d_X_begin_30 : DCV k_X_begin 30 k_B_clear 0 0 33 := ⟨84, (by decide +kernel), rfl, tb_at 296 (by decide +kernel) (by decide +kernel), m_B_clear, iv_B_clear.1, iv_B_clear.2, ⟨(RX0, TX0, 13), rfl, rfl⟩, by decide +kernel, by decide⟩
theorem d_X_begin_33 : DlI k_X_begin 33 1 34 := Or.inl ⟨1, (by decide +kernel), rfl, rfl⟩
theorem d_X_begin_34 : DrI k_X_begin 34 := ⟨(by decide +kernel), rfl⟩
theorem d_X_letter_0 : DlA k_X_letter 0 0 1 := Or.inl ⟨0, (by decide +kernel), rfl, rfl⟩
theorem d_X_letter_1 : DG k_X_letter 1 4 0 4 := ⟨12, (by decide +kernel), f_X_12, rfl⟩
theorem d_X_letter_4 : DlI k_X_letter 4 1 5 := Or.inl ⟨1, (by decide +kernel), rfl, rfl⟩
theorem d_X_letter_5 : DCV k_X_letter 5 k_B_hasLetter 0 1 8 := ⟨87, (by decide +kernel), rfl, tb_at 304 (by decide +kernel) (by decide +kernel), m_B_hasLetter, iv_B_hasLetter.1, iv_B_hasLetter.2, ⟨(RX0, TX0, 13), rfl, rfl⟩, by decide +kernel, by decide⟩
theorem d_X_letter_8 : Db k_X_letter 8 (.ifCond .ne) 11 13 := ⟨5, (by decide +kernel), rfl, by decide⟩
theorem d_X_letter_11 : Dc k_X_letter 11 (-1) 12 := Or.inl ⟨(by decide +kernel), rfl⟩
theorem d_X_letter_12 : DrI k_X_letter 12 := ⟨(by decide +kernel), rfl⟩
theorem d_X_letter_13 : DlI k_X_letter 13 2 14 := Or.inl ⟨2, (by decide +kernel), rfl, rfl⟩
theorem d_X_letter_14 : decode k_X_letter.2.2.1 14 = .ok (.tableswitch 81 0 4 #[34, 43, 52, 61, 71], 34) := by decide +kernel
theorem d_X_letter_48 : DlA k_X_letter 48 0 49 := Or.inl ⟨0, (by decide +kernel), rfl, rfl⟩
theorem d_X_letter_49 : DG k_X_letter 49 4 0 52 := ⟨12, (by decide +kernel), f_X_12, rfl⟩
theorem d_X_letter_52 : DlI k_X_letter 52 1 53 := Or.inl ⟨1, (by decide +kernel), rfl, rfl⟩
theorem d_X_letter_53 : DCV k_X_letter 53 k_B_senderOf 0 1 56 := ⟨91, (by decide +kernel), rfl, tb_at 305 (by decide +kernel) (by decide +kernel), m_B_senderOf, iv_B_senderOf.1, iv_B_senderOf.2, ⟨(RX0, TX0, 13), rfl, rfl⟩, by decide +kernel, by decide⟩
theorem d_X_letter_56 : DrI k_X_letter 56 := ⟨(by decide +kernel), rfl⟩
theorem d_X_letter_57 : DlA k_X_letter 57 0 58 := Or.inl ⟨0, (by decide +kernel), rfl, rfl⟩
theorem d_X_letter_58 : DG k_X_letter 58 4 0 61 := ⟨12, (by decide +kernel), f_X_12, rfl⟩
theorem d_X_letter_61 : DlI k_X_letter 61 1 62 := Or.inl ⟨1, (by decide +kernel), rfl, rfl⟩
theorem d_X_letter_62 : DCV k_X_letter 62 k_B_receiverOf 0 1 65 := ⟨95, (by decide +kernel), rfl, tb_at 309 (by decide +kernel) (by decide +kernel), m_B_receiverOf, iv_B_receiverOf.1, iv_B_receiverOf.2, ⟨(RX0, TX0, 13), rfl, rfl⟩, by decide +kernel, by decide⟩
theorem d_X_letter_65 : DrI k_X_letter 65 := ⟨(by decide +kernel), rfl⟩
theorem d_X_letter_66 : DlA k_X_letter 66 0 67 := Or.inl ⟨0, (by decide +kernel), rfl, rfl⟩
theorem d_X_letter_67 : DG k_X_letter 67 4 0 70 := ⟨12, (by decide +kernel), f_X_12, rfl⟩
theorem d_X_letter_70 : DlI k_X_letter 70 1 71 := Or.inl ⟨1, (by decide +kernel), rfl, rfl⟩
theorem d_X_letter_71 : DCV k_X_letter 71 k_B_firstOf 0 1 74 := ⟨98, (by decide +kernel), rfl, tb_at 313 (by decide +kernel) (by decide +kernel), m_B_firstOf, iv_B_firstOf.1, iv_B_firstOf.2, ⟨(RX0, TX0, 13), rfl, rfl⟩, by decide +kernel, by decide⟩
theorem d_X_letter_74 : DrI k_X_letter 74 := ⟨(by decide +kernel), rfl⟩
theorem d_X_letter_75 : DlA k_X_letter 75 0 76 := Or.inl ⟨0, (by decide +kernel), rfl, rfl⟩
theorem d_X_letter_76 : DG k_X_letter 76 4 0 79 := ⟨12, (by decide +kernel), f_X_12, rfl⟩
theorem d_X_letter_79 : DG k_X_letter 79 0 6 82 := ⟨101, (by decide +kernel), f_X_101, rfl⟩
theorem d_X_letter_82 : DlI k_X_letter 82 1 83 := Or.inl ⟨1, (by decide +kernel), rfl, rfl⟩
theorem d_X_letter_83 : Dk k_X_letter 83 .iaload 1 84 := ⟨(by decide +kernel), rfl⟩
theorem d_X_letter_84 : DrI k_X_letter 84 := ⟨(by decide +kernel), rfl⟩
theorem d_X_letter_85 : DlA k_X_letter 85 0 86 := Or.inl ⟨0, (by decide +kernel), rfl, rfl⟩
theorem d_X_letter_86 : DG k_X_letter 86 4 0 89 := ⟨12, (by decide +kernel), f_X_12, rfl⟩
theorem d_X_letter_89 : DG k_X_letter 89 0 7 92 := ⟨104, (by decide +kernel), f_X_104, rfl⟩
theorem d_X_letter_92 : DlI k_X_letter 92 1 93 := Or.inl ⟨1, (by decide +kernel), rfl, rfl⟩
theorem d_X_letter_93 : Dk k_X_letter 93 .iaload 1 94 := ⟨(by decide +kernel), rfl⟩
theorem d_X_letter_94 : DrI k_X_letter 94 := ⟨(by decide +kernel), rfl⟩
theorem d_X_letter_95 : Dc k_X_letter 95 (-1) 96 := Or.inl ⟨(by decide +kernel), rfl⟩
theorem d_X_letter_96 : DrI k_X_letter 96 := ⟨(by decide +kernel), rfl⟩
theorem d_X_inside_0 : DlI k_X_inside 0 1 1 := Or.inl ⟨1, (by decide +kernel), rfl, rfl⟩
theorem d_X_inside_1 : Db k_X_inside 1 (.ifCond .ge) 4 6 := ⟨5, (by decide +kernel), rfl, by decide⟩
theorem d_X_inside_4 : Dc k_X_inside 4 (-1) 5 := Or.inl ⟨(by decide +kernel), rfl⟩
theorem d_X_inside_5 : DrI k_X_inside 5 := ⟨(by decide +kernel), rfl⟩
theorem d_X_inside_6 : DlI k_X_inside 6 1 7 := Or.inl ⟨1, (by decide +kernel), rfl, rfl⟩
theorem d_X_inside_7 : DlA k_X_inside 7 0 8 := Or.inl ⟨0, (by decide +kernel), rfl, rfl⟩
theorem d_X_inside_8 : DG k_X_inside 8 4 0 11 := ⟨12, (by decide +kernel), f_X_12, rfl⟩
theorem d_X_inside_11 : DG k_X_inside 11 0 8 14 := ⟨107, (by decide +kernel), f_X_107, rfl⟩
theorem d_X_inside_14 : Db k_X_inside 14 (.if_icmp .ge) 17 35 := ⟨21, (by decide +kernel), rfl, by decide⟩
theorem d_X_inside_17 : DlI k_X_inside 17 1 18 := Or.inl ⟨1, (by decide +kernel), rfl, rfl⟩
theorem d_X_inside_18 : Dc k_X_inside 18 (15) 20 := Or.inr (Or.inl ⟨(by decide +kernel), by decide, rfl⟩)
theorem d_X_inside_20 : Db k_X_inside 20 (.if_icmp .ge) 23 35 := ⟨15, (by decide +kernel), rfl, by decide⟩
theorem d_X_inside_23 : DlA k_X_inside 23 0 24 := Or.inl ⟨0, (by decide +kernel), rfl, rfl⟩
theorem d_X_inside_24 : DG k_X_inside 24 4 0 27 := ⟨12, (by decide +kernel), f_X_12, rfl⟩
theorem d_X_inside_27 : DG k_X_inside 27 0 9 30 := ⟨110, (by decide +kernel), f_X_110, rfl⟩
theorem d_X_inside_30 : DlI k_X_inside 30 1 31 := Or.inl ⟨1, (by decide +kernel), rfl, rfl⟩
theorem d_X_inside_31 : Dk k_X_inside 31 .iaload 1 32 := ⟨(by decide +kernel), rfl⟩
theorem d_X_inside_32 : Db k_X_inside 32 .goto 35 37 := ⟨5, (by decide +kernel), rfl, by decide⟩
theorem d_X_inside_35 : Dc k_X_inside 35 (-4) 37 := Or.inr (Or.inl ⟨(by decide +kernel), by decide, rfl⟩)
theorem d_X_inside_37 : DrI k_X_inside 37 := ⟨(by decide +kernel), rfl⟩
theorem d_X_round_0 : DlA k_X_round 0 0 1 := Or.inl ⟨0, (by decide +kernel), rfl, rfl⟩
theorem d_X_round_1 : DG k_X_round 1 4 0 4 := ⟨12, (by decide +kernel), f_X_12, rfl⟩
theorem d_X_round_4 : DlI k_X_round 4 1 5 := Or.inl ⟨1, (by decide +kernel), rfl, rfl⟩
theorem d_X_round_5 : DCV k_X_round 5 k_B_hasRound 0 1 8 := ⟨113, (by decide +kernel), rfl, tb_at 325 (by decide +kernel) (by decide +kernel), m_B_hasRound, iv_B_hasRound.1, iv_B_hasRound.2, ⟨(RX0, TX0, 13), rfl, rfl⟩, by decide +kernel, by decide⟩
theorem d_X_round_8 : Db k_X_round 8 (.ifCond .eq) 11 20 := ⟨12, (by decide +kernel), rfl, by decide⟩
theorem d_X_round_11 : DlI k_X_round 11 2 12 := Or.inl ⟨2, (by decide +kernel), rfl, rfl⟩
theorem d_X_round_12 : Dc k_X_round 12 (0) 13 := Or.inl ⟨(by decide +kernel), rfl⟩
theorem d_X_round_13 : Dc k_X_round 13 (5) 14 := Or.inl ⟨(by decide +kernel), rfl⟩
theorem d_X_round_14 : DCS k_X_round 14 k_X_within 3 17 := ⟨47, (by decide +kernel), rfl, Or.inl (tb_at 220 (by decide +kernel) (by decide +kernel)), m_X_within, is_X_within, by decide +kernel, by decide⟩
theorem d_X_round_17 : Db k_X_round 17 (.ifCond .ne) 20 22 := ⟨5, (by decide +kernel), rfl, by decide⟩
theorem d_X_round_20 : Dc k_X_round 20 (-1) 21 := Or.inl ⟨(by decide +kernel), rfl⟩
theorem d_X_round_21 : DrI k_X_round 21 := ⟨(by decide +kernel), rfl⟩
theorem d_X_round_22 : DlA k_X_round 22 0 23 := Or.inl ⟨0, (by decide +kernel), rfl, rfl⟩
theorem d_X_round_23 : DG k_X_round 23 4 0 26 := ⟨12, (by decide +kernel), f_X_12, rfl⟩
theorem d_X_round_26 : DlI k_X_round 26 1 27 := Or.inl ⟨1, (by decide +kernel), rfl, rfl⟩
theorem d_X_round_27 : DlI k_X_round 27 2 28 := Or.inl ⟨2, (by decide +kernel), rfl, rfl⟩
theorem d_X_round_28 : DCV k_X_round 28 k_B_fact 0 2 31 := ⟨116, (by decide +kernel), rfl, tb_at 329 (by decide +kernel) (by decide +kernel), m_B_fact, iv_B_fact.1, iv_B_fact.2, ⟨(RX0, TX0, 13), rfl, rfl⟩, by decide +kernel, by decide⟩
theorem d_X_round_31 : DrI k_X_round 31 := ⟨(by decide +kernel), rfl⟩
theorem d_X_out_0 : DlA k_X_out 0 0 1 := Or.inl ⟨0, (by decide +kernel), rfl, rfl⟩
theorem d_X_out_1 : DG k_X_out 1 4 0 4 := ⟨12, (by decide +kernel), f_X_12, rfl⟩
theorem d_X_out_4 : DlI k_X_out 4 1 5 := Or.inl ⟨1, (by decide +kernel), rfl, rfl⟩
theorem d_X_out_5 : DlI k_X_out 5 2 6 := Or.inl ⟨2, (by decide +kernel), rfl, rfl⟩
theorem d_X_out_6 : DCV k_X_out 6 k_B_hasOut 0 2 9 := ⟨119, (by decide +kernel), rfl, tb_at 339 (by decide +kernel) (by decide +kernel), m_B_hasOut, iv_B_hasOut.1, iv_B_hasOut.2, ⟨(RX0, TX0, 13), rfl, rfl⟩, by decide +kernel, by decide⟩
theorem d_X_out_9 : Db k_X_out 9 (.ifCond .ne) 12 14 := ⟨5, (by decide +kernel), rfl, by decide⟩
theorem d_X_out_12 : Dc k_X_out 12 (-1) 13 := Or.inl ⟨(by decide +kernel), rfl⟩
theorem d_X_out_13 : DrI k_X_out 13 := ⟨(by decide +kernel), rfl⟩
theorem d_X_out_14 : DlI k_X_out 14 3 15 := Or.inl ⟨3, (by decide +kernel), rfl, rfl⟩
theorem d_X_out_15 : decode k_X_out.2.2.1 15 = .ok (.tableswitch 76 0 3 #[29, 39, 56, 66], 29) := by decide +kernel
theorem d_X_out_44 : DlA k_X_out 44 0 45 := Or.inl ⟨0, (by decide +kernel), rfl, rfl⟩
theorem d_X_out_45 : DG k_X_out 45 4 0 48 := ⟨12, (by decide +kernel), f_X_12, rfl⟩
theorem d_X_out_48 : DlI k_X_out 48 1 49 := Or.inl ⟨1, (by decide +kernel), rfl, rfl⟩
theorem d_X_out_49 : DlI k_X_out 49 2 50 := Or.inl ⟨2, (by decide +kernel), rfl, rfl⟩
theorem d_X_out_50 : DCV k_X_out 50 k_B_outLetter 0 2 53 := ⟨123, (by decide +kernel), rfl, tb_at 344 (by decide +kernel) (by decide +kernel), m_B_outLetter, iv_B_outLetter.1, iv_B_outLetter.2, ⟨(RX0, TX0, 13), rfl, rfl⟩, by decide +kernel, by decide⟩
theorem d_X_out_53 : DrI k_X_out 53 := ⟨(by decide +kernel), rfl⟩
theorem d_X_out_54 : DlA k_X_out 54 0 55 := Or.inl ⟨0, (by decide +kernel), rfl, rfl⟩
theorem d_X_out_55 : DG k_X_out 55 4 0 58 := ⟨12, (by decide +kernel), f_X_12, rfl⟩
theorem d_X_out_58 : DlA k_X_out 58 0 59 := Or.inl ⟨0, (by decide +kernel), rfl, rfl⟩
theorem d_X_out_59 : DG k_X_out 59 4 0 62 := ⟨12, (by decide +kernel), f_X_12, rfl⟩
theorem d_X_out_62 : DlI k_X_out 62 1 63 := Or.inl ⟨1, (by decide +kernel), rfl, rfl⟩
theorem d_X_out_63 : DlI k_X_out 63 2 64 := Or.inl ⟨2, (by decide +kernel), rfl, rfl⟩
theorem d_X_out_64 : DCV k_X_out 64 k_B_outLetter 0 2 67 := ⟨123, (by decide +kernel), rfl, tb_at 344 (by decide +kernel) (by decide +kernel), m_B_outLetter, iv_B_outLetter.1, iv_B_outLetter.2, ⟨(RX0, TX0, 13), rfl, rfl⟩, by decide +kernel, by decide⟩
theorem d_X_out_67 : DCV k_X_out 67 k_B_receiverOf 0 1 70 := ⟨95, (by decide +kernel), rfl, tb_at 309 (by decide +kernel) (by decide +kernel), m_B_receiverOf, iv_B_receiverOf.1, iv_B_receiverOf.2, ⟨(RX0, TX0, 13), rfl, rfl⟩, by decide +kernel, by decide⟩
theorem d_X_out_70 : DrI k_X_out 70 := ⟨(by decide +kernel), rfl⟩
theorem d_X_out_71 : DlA k_X_out 71 0 72 := Or.inl ⟨0, (by decide +kernel), rfl, rfl⟩
theorem d_X_out_72 : DG k_X_out 72 4 0 75 := ⟨12, (by decide +kernel), f_X_12, rfl⟩
theorem d_X_out_75 : DlI k_X_out 75 1 76 := Or.inl ⟨1, (by decide +kernel), rfl, rfl⟩
theorem d_X_out_76 : DlI k_X_out 76 2 77 := Or.inl ⟨2, (by decide +kernel), rfl, rfl⟩
theorem d_X_out_77 : DCS k_X_out 77 k_W_possible 3 80 := ⟨126, (by decide +kernel), rfl, Or.inl (tb_at 349 (by decide +kernel) (by decide +kernel)), m_W_possible, is_W_possible, by decide +kernel, by decide⟩
theorem d_X_out_80 : DrI k_X_out 80 := ⟨(by decide +kernel), rfl⟩
theorem d_X_out_81 : DlA k_X_out 81 0 82 := Or.inl ⟨0, (by decide +kernel), rfl, rfl⟩
theorem d_X_out_82 : DG k_X_out 82 4 0 85 := ⟨12, (by decide +kernel), f_X_12, rfl⟩
theorem d_X_out_85 : DlI k_X_out 85 1 86 := Or.inl ⟨1, (by decide +kernel), rfl, rfl⟩
theorem d_X_out_86 : DlI k_X_out 86 2 87 := Or.inl ⟨2, (by decide +kernel), rfl, rfl⟩
theorem d_X_out_87 : DCS k_X_out 87 k_W_likeliest 3 90 := ⟨132, (by decide +kernel), rfl, Or.inl (tb_at 379 (by decide +kernel) (by decide +kernel)), m_W_likeliest, is_W_likeliest, by decide +kernel, by decide⟩
theorem d_X_out_90 : DrI k_X_out 90 := ⟨(by decide +kernel), rfl⟩
theorem d_X_out_91 : Dc k_X_out 91 (-1) 92 := Or.inl ⟨(by decide +kernel), rfl⟩
theorem d_X_out_92 : DrI k_X_out 92 := ⟨(by decide +kernel), rfl⟩
theorem d_X_count_0 : DlI k_X_count 0 1 1 := Or.inl ⟨1, (by decide +kernel), rfl, rfl⟩
theorem d_X_count_1 : Dc k_X_count 1 (0) 2 := Or.inl ⟨(by decide +kernel), rfl⟩
theorem d_X_count_2 : Dc k_X_count 2 (3) 3 := Or.inl ⟨(by decide +kernel), rfl⟩
theorem d_X_count_3 : DCS k_X_count 3 k_X_within 3 6 := ⟨47, (by decide +kernel), rfl, Or.inl (tb_at 220 (by decide +kernel) (by decide +kernel)), m_X_within, is_X_within, by decide +kernel, by decide⟩
theorem d_X_count_6 : Db k_X_count 6 (.ifCond .eq) 9 19 := ⟨13, (by decide +kernel), rfl, by decide⟩
theorem d_X_count_9 : DlA k_X_count 9 0 10 := Or.inl ⟨0, (by decide +kernel), rfl, rfl⟩
theorem d_X_count_10 : DG k_X_count 10 4 0 13 := ⟨12, (by decide +kernel), f_X_12, rfl⟩
theorem d_X_count_13 : DG k_X_count 13 0 0 16 := ⟨77, (by decide +kernel), f_X_77, rfl⟩
theorem d_X_count_16 : DlI k_X_count 16 1 17 := Or.inl ⟨1, (by decide +kernel), rfl, rfl⟩
theorem d_X_count_17 : Dk k_X_count 17 .iaload 1 18 := ⟨(by decide +kernel), rfl⟩
theorem d_X_count_18 : DrI k_X_count 18 := ⟨(by decide +kernel), rfl⟩
theorem d_X_count_19 : DlI k_X_count 19 1 20 := Or.inl ⟨1, (by decide +kernel), rfl, rfl⟩
theorem d_X_count_20 : decode k_X_count.2.2.1 20 = .ok (.tableswitch 64 4 7 #[32, 40, 48, 56], 32) := by decide +kernel
theorem d_X_count_52 : DlA k_X_count 52 0 53 := Or.inl ⟨0, (by decide +kernel), rfl, rfl⟩
theorem d_X_count_53 : DG k_X_count 53 4 0 56 := ⟨12, (by decide +kernel), f_X_12, rfl⟩
theorem d_X_count_56 : DG k_X_count 56 0 8 59 := ⟨107, (by decide +kernel), f_X_107, rfl⟩
theorem d_X_count_59 : DrI k_X_count 59 := ⟨(by decide +kernel), rfl⟩
theorem d_X_count_60 : DlA k_X_count 60 0 61 := Or.inl ⟨0, (by decide +kernel), rfl, rfl⟩
theorem d_X_count_61 : DG k_X_count 61 4 0 64 := ⟨12, (by decide +kernel), f_X_12, rfl⟩
theorem d_X_count_64 : DG k_X_count 64 0 2 67 := ⟨80, (by decide +kernel), f_X_80, rfl⟩
theorem d_X_count_67 : DrI k_X_count 67 := ⟨(by decide +kernel), rfl⟩
theorem d_X_count_68 : DlA k_X_count 68 0 69 := Or.inl ⟨0, (by decide +kernel), rfl, rfl⟩
theorem d_X_count_69 : DG k_X_count 69 4 0 72 := ⟨12, (by decide +kernel), f_X_12, rfl⟩
theorem d_X_count_72 : DG k_X_count 72 0 10 75 := ⟨135, (by decide +kernel), f_X_135, rfl⟩
theorem d_X_count_75 : DrI k_X_count 75 := ⟨(by decide +kernel), rfl⟩
theorem d_X_count_76 : DlA k_X_count 76 0 77 := Or.inl ⟨0, (by decide +kernel), rfl, rfl⟩
theorem d_X_count_77 : DG k_X_count 77 4 1 80 := ⟨19, (by decide +kernel), f_X_19, rfl⟩
theorem d_X_count_80 : DG k_X_count 80 1 2 83 := ⟨138, (by decide +kernel), f_X_138, rfl⟩
theorem d_X_count_83 : DrI k_X_count 83 := ⟨(by decide +kernel), rfl⟩
theorem d_X_count_84 : Dc k_X_count 84 (-1) 85 := Or.inl ⟨(by decide +kernel), rfl⟩
theorem d_X_count_85 : DrI k_X_count 85 := ⟨(by decide +kernel), rfl⟩
theorem d_X_chance_0 : DlA k_X_chance 0 0 1 := Or.inl ⟨0, (by decide +kernel), rfl, rfl⟩
theorem d_X_chance_1 : DG k_X_chance 1 4 0 4 := ⟨12, (by decide +kernel), f_X_12, rfl⟩
theorem d_X_chance_4 : DlI k_X_chance 4 1 5 := Or.inl ⟨1, (by decide +kernel), rfl, rfl⟩
theorem d_X_chance_5 : DlI k_X_chance 5 2 6 := Or.inl ⟨2, (by decide +kernel), rfl, rfl⟩
theorem d_X_chance_6 : DCV k_X_chance 6 k_B_hasOut 0 2 9 := ⟨119, (by decide +kernel), rfl, tb_at 339 (by decide +kernel) (by decide +kernel), m_B_hasOut, iv_B_hasOut.1, iv_B_hasOut.2, ⟨(RX0, TX0, 13), rfl, rfl⟩, by decide +kernel, by decide⟩
theorem d_X_chance_9 : Db k_X_chance 9 (.ifCond .eq) 12 31 := ⟨22, (by decide +kernel), rfl, by decide⟩
theorem d_X_chance_12 : DlA k_X_chance 12 0 13 := Or.inl ⟨0, (by decide +kernel), rfl, rfl⟩
theorem d_X_chance_13 : DG k_X_chance 13 4 0 16 := ⟨12, (by decide +kernel), f_X_12, rfl⟩
theorem d_X_chance_16 : DlI k_X_chance 16 3 17 := Or.inl ⟨3, (by decide +kernel), rfl, rfl⟩
theorem d_X_chance_17 : DCV k_X_chance 17 k_B_hasLetter 0 1 20 := ⟨87, (by decide +kernel), rfl, tb_at 304 (by decide +kernel) (by decide +kernel), m_B_hasLetter, iv_B_hasLetter.1, iv_B_hasLetter.2, ⟨(RX0, TX0, 13), rfl, rfl⟩, by decide +kernel, by decide⟩
theorem d_X_chance_20 : Db k_X_chance 20 (.ifCond .eq) 23 31 := ⟨11, (by decide +kernel), rfl, by decide⟩
theorem d_X_chance_23 : DlI k_X_chance 23 4 25 := Or.inr ⟨(by decide +kernel), rfl⟩
theorem d_X_chance_25 : DCS k_X_chance 25 k_X_isPart 1 28 := ⟨141, (by decide +kernel), rfl, Or.inl (tb_at 391 (by decide +kernel) (by decide +kernel)), m_X_isPart, is_X_isPart, by decide +kernel, by decide⟩
theorem d_X_chance_28 : Db k_X_chance 28 (.ifCond .ne) 31 35 := ⟨7, (by decide +kernel), rfl, by decide⟩
theorem d_X_chance_31 : DcL k_X_chance 31 (-1) 34 := Or.inr ⟨144, (by decide +kernel), tb_at 394 (by decide +kernel) (by decide +kernel), rfl⟩
theorem d_X_chance_34 : DrL k_X_chance 34 := ⟨(by decide +kernel), rfl⟩
theorem d_X_chance_35 : DlA k_X_chance 35 0 36 := Or.inl ⟨0, (by decide +kernel), rfl, rfl⟩
theorem d_X_chance_36 : DG k_X_chance 36 4 0 39 := ⟨12, (by decide +kernel), f_X_12, rfl⟩
theorem d_X_chance_39 : DlI k_X_chance 39 1 40 := Or.inl ⟨1, (by decide +kernel), rfl, rfl⟩
theorem d_X_chance_40 : DlI k_X_chance 40 2 41 := Or.inl ⟨2, (by decide +kernel), rfl, rfl⟩
theorem d_X_chance_41 : DCV k_X_chance 41 k_B_isOwnOut 0 2 44 := ⟨146, (by decide +kernel), rfl, tb_at 395 (by decide +kernel) (by decide +kernel), m_B_isOwnOut, iv_B_isOwnOut.1, iv_B_isOwnOut.2, ⟨(RX0, TX0, 13), rfl, rfl⟩, by decide +kernel, by decide⟩
theorem d_X_chance_44 : Db k_X_chance 44 (.ifCond .eq) 47 72 := ⟨28, (by decide +kernel), rfl, by decide⟩
theorem d_X_chance_47 : DlA k_X_chance 47 0 48 := Or.inl ⟨0, (by decide +kernel), rfl, rfl⟩
theorem d_X_chance_48 : DG k_X_chance 48 4 0 51 := ⟨12, (by decide +kernel), f_X_12, rfl⟩
theorem d_X_chance_51 : DlI k_X_chance 51 1 52 := Or.inl ⟨1, (by decide +kernel), rfl, rfl⟩
theorem d_X_chance_52 : DlI k_X_chance 52 2 53 := Or.inl ⟨2, (by decide +kernel), rfl, rfl⟩
theorem d_X_chance_53 : DCV k_X_chance 53 k_B_outLetter 0 2 56 := ⟨123, (by decide +kernel), rfl, tb_at 344 (by decide +kernel) (by decide +kernel), m_B_outLetter, iv_B_outLetter.1, iv_B_outLetter.2, ⟨(RX0, TX0, 13), rfl, rfl⟩, by decide +kernel, by decide⟩
theorem d_X_chance_56 : DlI k_X_chance 56 3 57 := Or.inl ⟨3, (by decide +kernel), rfl, rfl⟩
theorem d_X_chance_57 : Db k_X_chance 57 (.if_icmp .ne) 60 64 := ⟨7, (by decide +kernel), rfl, by decide⟩
theorem d_X_chance_60 : DcL k_X_chance 60 1 61 := Or.inl ⟨1, (by decide +kernel), by decide, rfl⟩
theorem d_X_chance_61 : Db k_X_chance 61 .goto 64 65 := ⟨4, (by decide +kernel), rfl, by decide⟩
theorem d_X_chance_64 : DcL k_X_chance 64 0 65 := Or.inl ⟨0, (by decide +kernel), by decide, rfl⟩
theorem d_X_chance_65 : DcL k_X_chance 65 1 66 := Or.inl ⟨1, (by decide +kernel), by decide, rfl⟩
theorem d_X_chance_66 : DlI k_X_chance 66 4 68 := Or.inr ⟨(by decide +kernel), rfl⟩
theorem d_X_chance_68 : DCS k_X_chance 68 k_X_lowest 3 71 := ⟨149, (by decide +kernel), rfl, Or.inl (tb_at 396 (by decide +kernel) (by decide +kernel)), m_X_lowest, is_X_lowest, by decide +kernel, by decide⟩
theorem d_X_chance_71 : DrL k_X_chance 71 := ⟨(by decide +kernel), rfl⟩
theorem d_X_chance_72 : DlA k_X_chance 72 0 73 := Or.inl ⟨0, (by decide +kernel), rfl, rfl⟩
theorem d_X_chance_73 : DG k_X_chance 73 4 0 76 := ⟨12, (by decide +kernel), f_X_12, rfl⟩
theorem d_X_chance_76 : DlI k_X_chance 76 3 77 := Or.inl ⟨3, (by decide +kernel), rfl, rfl⟩
theorem d_X_chance_77 : DlI k_X_chance 77 1 78 := Or.inl ⟨1, (by decide +kernel), rfl, rfl⟩
theorem d_X_chance_78 : DCS k_X_chance 78 k_W_weight 3 81 := ⟨153, (by decide +kernel), rfl, Or.inl (tb_at 402 (by decide +kernel) (by decide +kernel)), m_W_weight, is_W_weight, by decide +kernel, by decide⟩
theorem d_X_chance_81 : DlA k_X_chance 81 0 82 := Or.inl ⟨0, (by decide +kernel), rfl, rfl⟩
theorem d_X_chance_82 : DG k_X_chance 82 4 0 85 := ⟨12, (by decide +kernel), f_X_12, rfl⟩
theorem d_X_chance_85 : Dc k_X_chance 85 (0) 86 := Or.inl ⟨(by decide +kernel), rfl⟩
theorem d_X_chance_86 : DlI k_X_chance 86 1 87 := Or.inl ⟨1, (by decide +kernel), rfl, rfl⟩
theorem d_X_chance_87 : Dc k_X_chance 87 (1) 88 := Or.inl ⟨(by decide +kernel), rfl⟩
theorem d_X_chance_88 : Dk k_X_chance 88 .iadd 1 89 := ⟨(by decide +kernel), rfl⟩
theorem d_X_chance_89 : DCS k_X_chance 89 k_W_whole 3 92 := ⟨157, (by decide +kernel), rfl, Or.inl (tb_at 403 (by decide +kernel) (by decide +kernel)), m_W_whole, is_W_whole, by decide +kernel, by decide⟩
theorem d_X_chance_92 : DlI k_X_chance 92 4 94 := Or.inr ⟨(by decide +kernel), rfl⟩
theorem d_X_chance_94 : DCS k_X_chance 94 k_X_lowest 3 97 := ⟨149, (by decide +kernel), rfl, Or.inl (tb_at 396 (by decide +kernel) (by decide +kernel)), m_X_lowest, is_X_lowest, by decide +kernel, by decide⟩
theorem d_X_chance_97 : DrL k_X_chance 97 := ⟨(by decide +kernel), rfl⟩
theorem d_X_sender_0 : DlA k_X_sender 0 0 1 := Or.inl ⟨0, (by decide +kernel), rfl, rfl⟩
theorem d_X_sender_1 : DG k_X_sender 1 4 0 4 := ⟨12, (by decide +kernel), f_X_12, rfl⟩
theorem d_X_sender_4 : DlI k_X_sender 4 1 5 := Or.inl ⟨1, (by decide +kernel), rfl, rfl⟩
theorem d_X_sender_5 : DlI k_X_sender 5 2 6 := Or.inl ⟨2, (by decide +kernel), rfl, rfl⟩
theorem d_X_sender_6 : DCV k_X_sender 6 k_B_hasOut 0 2 9 := ⟨119, (by decide +kernel), rfl, tb_at 339 (by decide +kernel) (by decide +kernel), m_B_hasOut, iv_B_hasOut.1, iv_B_hasOut.2, ⟨(RX0, TX0, 13), rfl, rfl⟩, by decide +kernel, by decide⟩
theorem d_X_sender_9 : Db k_X_sender 9 (.ifCond .eq) 12 30 := ⟨21, (by decide +kernel), rfl, by decide⟩
theorem d_X_sender_12 : DlI k_X_sender 12 3 13 := Or.inl ⟨3, (by decide +kernel), rfl, rfl⟩
theorem d_X_sender_13 : Dc k_X_sender 13 (0) 14 := Or.inl ⟨(by decide +kernel), rfl⟩
theorem d_X_sender_14 : Dc k_X_sender 14 (9) 16 := Or.inr (Or.inl ⟨(by decide +kernel), by decide, rfl⟩)
theorem d_X_sender_16 : DCS k_X_sender 16 k_X_within 3 19 := ⟨47, (by decide +kernel), rfl, Or.inl (tb_at 220 (by decide +kernel) (by decide +kernel)), m_X_within, is_X_within, by decide +kernel, by decide⟩
theorem d_X_sender_19 : Db k_X_sender 19 (.ifCond .eq) 22 30 := ⟨11, (by decide +kernel), rfl, by decide⟩
theorem d_X_sender_22 : DlI k_X_sender 22 4 24 := Or.inr ⟨(by decide +kernel), rfl⟩
theorem d_X_sender_24 : DCS k_X_sender 24 k_X_isPart 1 27 := ⟨141, (by decide +kernel), rfl, Or.inl (tb_at 391 (by decide +kernel) (by decide +kernel)), m_X_isPart, is_X_isPart, by decide +kernel, by decide⟩
theorem d_X_sender_27 : Db k_X_sender 27 (.ifCond .ne) 30 34 := ⟨7, (by decide +kernel), rfl, by decide⟩
theorem d_X_sender_30 : DcL k_X_sender 30 (-1) 33 := Or.inr ⟨144, (by decide +kernel), tb_at 394 (by decide +kernel) (by decide +kernel), rfl⟩
theorem d_X_sender_33 : DrL k_X_sender 33 := ⟨(by decide +kernel), rfl⟩
theorem d_X_sender_34 : DlA k_X_sender 34 0 35 := Or.inl ⟨0, (by decide +kernel), rfl, rfl⟩
theorem d_X_sender_35 : DG k_X_sender 35 4 0 38 := ⟨12, (by decide +kernel), f_X_12, rfl⟩
theorem d_X_sender_38 : DlI k_X_sender 38 1 39 := Or.inl ⟨1, (by decide +kernel), rfl, rfl⟩
theorem d_X_sender_39 : DlI k_X_sender 39 2 40 := Or.inl ⟨2, (by decide +kernel), rfl, rfl⟩
theorem d_X_sender_40 : DCV k_X_sender 40 k_B_isOwnOut 0 2 43 := ⟨146, (by decide +kernel), rfl, tb_at 395 (by decide +kernel) (by decide +kernel), m_B_isOwnOut, iv_B_isOwnOut.1, iv_B_isOwnOut.2, ⟨(RX0, TX0, 13), rfl, rfl⟩, by decide +kernel, by decide⟩
theorem d_X_sender_43 : Db k_X_sender 43 (.ifCond .eq) 46 64 := ⟨21, (by decide +kernel), rfl, by decide⟩
theorem d_X_sender_46 : DlI k_X_sender 46 3 47 := Or.inl ⟨3, (by decide +kernel), rfl, rfl⟩
theorem d_X_sender_47 : Dc k_X_sender 47 (9) 49 := Or.inr (Or.inl ⟨(by decide +kernel), by decide, rfl⟩)
theorem d_X_sender_49 : Db k_X_sender 49 (.if_icmp .ne) 52 56 := ⟨7, (by decide +kernel), rfl, by decide⟩
theorem d_X_sender_52 : DcL k_X_sender 52 1 53 := Or.inl ⟨1, (by decide +kernel), by decide, rfl⟩
theorem d_X_sender_53 : Db k_X_sender 53 .goto 56 57 := ⟨4, (by decide +kernel), rfl, by decide⟩
theorem d_X_sender_56 : DcL k_X_sender 56 0 57 := Or.inl ⟨0, (by decide +kernel), by decide, rfl⟩
theorem d_X_sender_57 : DcL k_X_sender 57 1 58 := Or.inl ⟨1, (by decide +kernel), by decide, rfl⟩
theorem d_X_sender_58 : DlI k_X_sender 58 4 60 := Or.inr ⟨(by decide +kernel), rfl⟩
theorem d_X_sender_60 : DCS k_X_sender 60 k_X_lowest 3 63 := ⟨149, (by decide +kernel), rfl, Or.inl (tb_at 396 (by decide +kernel) (by decide +kernel)), m_X_lowest, is_X_lowest, by decide +kernel, by decide⟩
theorem d_X_sender_63 : DrL k_X_sender 63 := ⟨(by decide +kernel), rfl⟩
theorem d_X_sender_64 : DlA k_X_sender 64 0 65 := Or.inl ⟨0, (by decide +kernel), rfl, rfl⟩
theorem d_X_sender_65 : DG k_X_sender 65 4 0 68 := ⟨12, (by decide +kernel), f_X_12, rfl⟩
theorem d_X_sender_68 : DlI k_X_sender 68 3 69 := Or.inl ⟨3, (by decide +kernel), rfl, rfl⟩
theorem d_X_sender_69 : DlI k_X_sender 69 1 70 := Or.inl ⟨1, (by decide +kernel), rfl, rfl⟩
theorem d_X_sender_70 : DCS k_X_sender 70 k_W_senderWeight 3 73 := ⟨160, (by decide +kernel), rfl, Or.inl (tb_at 408 (by decide +kernel) (by decide +kernel)), m_W_senderWeight, is_W_senderWeight, by decide +kernel, by decide⟩
theorem d_X_sender_73 : DlA k_X_sender 73 0 74 := Or.inl ⟨0, (by decide +kernel), rfl, rfl⟩
theorem d_X_sender_74 : DG k_X_sender 74 4 0 77 := ⟨12, (by decide +kernel), f_X_12, rfl⟩
theorem d_X_sender_77 : Dc k_X_sender 77 (0) 78 := Or.inl ⟨(by decide +kernel), rfl⟩
theorem d_X_sender_78 : DlI k_X_sender 78 1 79 := Or.inl ⟨1, (by decide +kernel), rfl, rfl⟩
theorem d_X_sender_79 : Dc k_X_sender 79 (1) 80 := Or.inl ⟨(by decide +kernel), rfl⟩
theorem d_X_sender_80 : Dk k_X_sender 80 .iadd 1 81 := ⟨(by decide +kernel), rfl⟩
theorem d_X_sender_81 : DCS k_X_sender 81 k_W_whole 3 84 := ⟨157, (by decide +kernel), rfl, Or.inl (tb_at 403 (by decide +kernel) (by decide +kernel)), m_W_whole, is_W_whole, by decide +kernel, by decide⟩
theorem d_X_sender_84 : DlI k_X_sender 84 4 86 := Or.inr ⟨(by decide +kernel), rfl⟩
theorem d_X_sender_86 : DCS k_X_sender 86 k_X_lowest 3 89 := ⟨149, (by decide +kernel), rfl, Or.inl (tb_at 396 (by decide +kernel) (by decide +kernel)), m_X_lowest, is_X_lowest, by decide +kernel, by decide⟩
theorem d_X_sender_89 : DrL k_X_sender 89 := ⟨(by decide +kernel), rfl⟩
theorem d_X_stays_0 : DlA k_X_stays 0 0 1 := Or.inl ⟨0, (by decide +kernel), rfl, rfl⟩
theorem d_X_stays_1 : DG k_X_stays 1 4 0 4 := ⟨12, (by decide +kernel), f_X_12, rfl⟩
theorem d_X_stays_4 : DlI k_X_stays 4 1 5 := Or.inl ⟨1, (by decide +kernel), rfl, rfl⟩
theorem d_X_stays_5 : DCV k_X_stays 5 k_B_hasLetter 0 1 8 := ⟨87, (by decide +kernel), rfl, tb_at 304 (by decide +kernel) (by decide +kernel), m_B_hasLetter, iv_B_hasLetter.1, iv_B_hasLetter.2, ⟨(RX0, TX0, 13), rfl, rfl⟩, by decide +kernel, by decide⟩
theorem d_X_stays_8 : Db k_X_stays 8 (.ifCond .eq) 11 18 := ⟨10, (by decide +kernel), rfl, by decide⟩
theorem d_X_stays_11 : DlI k_X_stays 11 2 12 := Or.inl ⟨2, (by decide +kernel), rfl, rfl⟩
theorem d_X_stays_12 : DCS k_X_stays 12 k_X_isPart 1 15 := ⟨141, (by decide +kernel), rfl, Or.inl (tb_at 391 (by decide +kernel) (by decide +kernel)), m_X_isPart, is_X_isPart, by decide +kernel, by decide⟩
theorem d_X_stays_15 : Db k_X_stays 15 (.ifCond .ne) 18 22 := ⟨7, (by decide +kernel), rfl, by decide⟩
theorem d_X_stays_18 : DcL k_X_stays 18 (-1) 21 := Or.inr ⟨144, (by decide +kernel), tb_at 394 (by decide +kernel) (by decide +kernel), rfl⟩
theorem d_X_stays_21 : DrL k_X_stays 21 := ⟨(by decide +kernel), rfl⟩
theorem d_X_stays_22 : DlA k_X_stays 22 0 23 := Or.inl ⟨0, (by decide +kernel), rfl, rfl⟩
theorem d_X_stays_23 : DG k_X_stays 23 4 0 26 := ⟨12, (by decide +kernel), f_X_12, rfl⟩
theorem d_X_stays_26 : DlI k_X_stays 26 1 27 := Or.inl ⟨1, (by decide +kernel), rfl, rfl⟩
theorem d_X_stays_27 : DCV k_X_stays 27 k_B_senderOf 0 1 30 := ⟨91, (by decide +kernel), rfl, tb_at 305 (by decide +kernel) (by decide +kernel), m_B_senderOf, iv_B_senderOf.1, iv_B_senderOf.2, ⟨(RX0, TX0, 13), rfl, rfl⟩, by decide +kernel, by decide⟩
theorem d_X_stays_30 : Dc k_X_stays 30 (9) 32 := Or.inr (Or.inl ⟨(by decide +kernel), by decide, rfl⟩)
theorem d_X_stays_32 : Db k_X_stays 32 (.if_icmp .ne) 35 39 := ⟨7, (by decide +kernel), rfl, by decide⟩
theorem d_X_stays_35 : DcL k_X_stays 35 (-2) 38 := Or.inr ⟨163, (by decide +kernel), tb_at 418 (by decide +kernel) (by decide +kernel), rfl⟩
theorem d_X_stays_38 : DrL k_X_stays 38 := ⟨(by decide +kernel), rfl⟩
theorem d_X_stays_39 : DlA k_X_stays 39 0 40 := Or.inl ⟨0, (by decide +kernel), rfl, rfl⟩
theorem d_X_stays_40 : DG k_X_stays 40 4 0 43 := ⟨12, (by decide +kernel), f_X_12, rfl⟩
theorem d_X_stays_43 : DlI k_X_stays 43 1 44 := Or.inl ⟨1, (by decide +kernel), rfl, rfl⟩
theorem d_X_stays_44 : DCV k_X_stays 44 k_B_firstOf 0 1 47 := ⟨98, (by decide +kernel), rfl, tb_at 313 (by decide +kernel) (by decide +kernel), m_B_firstOf, iv_B_firstOf.1, iv_B_firstOf.2, ⟨(RX0, TX0, 13), rfl, rfl⟩, by decide +kernel, by decide⟩
theorem d_X_stays_47 : DsI k_X_stays 47 3 48 := ⟨Or.inl ⟨3, (by decide +kernel), rfl, rfl⟩, by decide⟩
theorem d_X_stays_48 : DlA k_X_stays 48 0 49 := Or.inl ⟨0, (by decide +kernel), rfl, rfl⟩
theorem d_X_stays_49 : DG k_X_stays 49 4 0 52 := ⟨12, (by decide +kernel), f_X_12, rfl⟩
theorem d_X_stays_52 : DlI k_X_stays 52 3 53 := Or.inl ⟨3, (by decide +kernel), rfl, rfl⟩
theorem d_X_stays_53 : DlA k_X_stays 53 0 54 := Or.inl ⟨0, (by decide +kernel), rfl, rfl⟩
theorem d_X_stays_54 : DG k_X_stays 54 4 0 57 := ⟨12, (by decide +kernel), f_X_12, rfl⟩
theorem d_X_stays_57 : DG k_X_stays 57 0 10 60 := ⟨135, (by decide +kernel), f_X_135, rfl⟩
theorem d_X_stays_60 : DCS k_X_stays 60 k_W_left 3 63 := ⟨165, (by decide +kernel), rfl, Or.inl (tb_at 419 (by decide +kernel) (by decide +kernel)), m_W_left, is_W_left, by decide +kernel, by decide⟩
theorem d_X_stays_63 : DlA k_X_stays 63 0 64 := Or.inl ⟨0, (by decide +kernel), rfl, rfl⟩
theorem d_X_stays_64 : DG k_X_stays 64 4 0 67 := ⟨12, (by decide +kernel), f_X_12, rfl⟩
theorem d_X_stays_67 : DlI k_X_stays 67 3 68 := Or.inl ⟨3, (by decide +kernel), rfl, rfl⟩
theorem d_X_stays_68 : DlA k_X_stays 68 0 69 := Or.inl ⟨0, (by decide +kernel), rfl, rfl⟩
theorem d_X_stays_69 : DG k_X_stays 69 4 0 72 := ⟨12, (by decide +kernel), f_X_12, rfl⟩
theorem d_X_stays_72 : DG k_X_stays 72 0 10 75 := ⟨135, (by decide +kernel), f_X_135, rfl⟩
theorem d_X_stays_75 : DCS k_X_stays 75 k_W_whole 3 78 := ⟨157, (by decide +kernel), rfl, Or.inl (tb_at 403 (by decide +kernel) (by decide +kernel)), m_W_whole, is_W_whole, by decide +kernel, by decide⟩
theorem d_X_stays_78 : DlI k_X_stays 78 2 79 := Or.inl ⟨2, (by decide +kernel), rfl, rfl⟩
theorem d_X_stays_79 : DCS k_X_stays 79 k_X_lowest 3 82 := ⟨149, (by decide +kernel), rfl, Or.inl (tb_at 396 (by decide +kernel) (by decide +kernel)), m_X_lowest, is_X_lowest, by decide +kernel, by decide⟩
theorem d_X_stays_82 : DrL k_X_stays 82 := ⟨(by decide +kernel), rfl⟩
theorem d_X_expected_0 : DlI k_X_expected 0 1 1 := Or.inl ⟨1, (by decide +kernel), rfl, rfl⟩
theorem d_X_expected_1 : Dc k_X_expected 1 (0) 2 := Or.inl ⟨(by decide +kernel), rfl⟩
theorem d_X_expected_2 : Dc k_X_expected 2 (9) 4 := Or.inr (Or.inl ⟨(by decide +kernel), by decide, rfl⟩)
theorem d_X_expected_4 : DCS k_X_expected 4 k_X_within 3 7 := ⟨47, (by decide +kernel), rfl, Or.inl (tb_at 220 (by decide +kernel) (by decide +kernel)), m_X_within, is_X_within, by decide +kernel, by decide⟩
theorem d_X_expected_7 : Db k_X_expected 7 (.ifCond .eq) 10 27 := ⟨20, (by decide +kernel), rfl, by decide⟩
theorem d_X_expected_10 : DlI k_X_expected 10 2 11 := Or.inl ⟨2, (by decide +kernel), rfl, rfl⟩
theorem d_X_expected_11 : Dc k_X_expected 11 (0) 12 := Or.inl ⟨(by decide +kernel), rfl⟩
theorem d_X_expected_12 : Dc k_X_expected 12 (7) 14 := Or.inr (Or.inl ⟨(by decide +kernel), by decide, rfl⟩)
theorem d_X_expected_14 : DCS k_X_expected 14 k_X_within 3 17 := ⟨47, (by decide +kernel), rfl, Or.inl (tb_at 220 (by decide +kernel) (by decide +kernel)), m_X_within, is_X_within, by decide +kernel, by decide⟩
theorem d_X_expected_17 : Db k_X_expected 17 (.ifCond .eq) 20 27 := ⟨10, (by decide +kernel), rfl, by decide⟩
theorem d_X_expected_20 : DlI k_X_expected 20 3 21 := Or.inl ⟨3, (by decide +kernel), rfl, rfl⟩
theorem d_X_expected_21 : DCS k_X_expected 21 k_X_isPart 1 24 := ⟨141, (by decide +kernel), rfl, Or.inl (tb_at 391 (by decide +kernel) (by decide +kernel)), m_X_isPart, is_X_isPart, by decide +kernel, by decide⟩
theorem d_X_expected_24 : Db k_X_expected 24 (.ifCond .ne) 27 31 := ⟨7, (by decide +kernel), rfl, by decide⟩
theorem d_X_expected_27 : DcL k_X_expected 27 (-1) 30 := Or.inr ⟨144, (by decide +kernel), tb_at 394 (by decide +kernel) (by decide +kernel), rfl⟩
theorem d_X_expected_30 : DrL k_X_expected 30 := ⟨(by decide +kernel), rfl⟩
theorem d_X_expected_31 : DlA k_X_expected 31 0 32 := Or.inl ⟨0, (by decide +kernel), rfl, rfl⟩
theorem d_X_expected_32 : DG k_X_expected 32 4 0 35 := ⟨12, (by decide +kernel), f_X_12, rfl⟩
theorem d_X_expected_35 : DlI k_X_expected 35 1 36 := Or.inl ⟨1, (by decide +kernel), rfl, rfl⟩
theorem d_X_expected_36 : DlI k_X_expected 36 2 37 := Or.inl ⟨2, (by decide +kernel), rfl, rfl⟩
theorem d_X_expected_37 : DCS k_X_expected 37 k_W_expectedWeight 3 40 := ⟨168, (by decide +kernel), rfl, Or.inl (tb_at 424 (by decide +kernel) (by decide +kernel)), m_W_expectedWeight, is_W_expectedWeight, by decide +kernel, by decide⟩
theorem d_X_expected_40 : DlA k_X_expected 40 0 41 := Or.inl ⟨0, (by decide +kernel), rfl, rfl⟩
theorem d_X_expected_41 : DG k_X_expected 41 4 0 44 := ⟨12, (by decide +kernel), f_X_12, rfl⟩
theorem d_X_expected_44 : Dc k_X_expected 44 (0) 45 := Or.inl ⟨(by decide +kernel), rfl⟩
theorem d_X_expected_45 : DlA k_X_expected 45 0 46 := Or.inl ⟨0, (by decide +kernel), rfl, rfl⟩
theorem d_X_expected_46 : DG k_X_expected 46 4 0 49 := ⟨12, (by decide +kernel), f_X_12, rfl⟩
theorem d_X_expected_49 : DG k_X_expected 49 0 10 52 := ⟨135, (by decide +kernel), f_X_135, rfl⟩
theorem d_X_expected_52 : DCS k_X_expected 52 k_W_whole 3 55 := ⟨157, (by decide +kernel), rfl, Or.inl (tb_at 403 (by decide +kernel) (by decide +kernel)), m_W_whole, is_W_whole, by decide +kernel, by decide⟩
theorem d_X_expected_55 : DlI k_X_expected 55 3 56 := Or.inl ⟨3, (by decide +kernel), rfl, rfl⟩
theorem d_X_expected_56 : DCS k_X_expected 56 k_X_lowest 3 59 := ⟨149, (by decide +kernel), rfl, Or.inl (tb_at 396 (by decide +kernel) (by decide +kernel)), m_X_lowest, is_X_lowest, by decide +kernel, by decide⟩
theorem d_X_expected_59 : DrL k_X_expected 59 := ⟨(by decide +kernel), rfl⟩
theorem d_X_blend_0 : DlA k_X_blend 0 0 1 := Or.inl ⟨0, (by decide +kernel), rfl, rfl⟩
theorem d_X_blend_1 : DG k_X_blend 1 4 0 4 := ⟨12, (by decide +kernel), f_X_12, rfl⟩
theorem d_X_blend_4 : DG k_X_blend 4 0 0 7 := ⟨77, (by decide +kernel), f_X_77, rfl⟩
theorem d_X_blend_7 : Dc k_X_blend 7 (0) 8 := Or.inl ⟨(by decide +kernel), rfl⟩
theorem d_X_blend_8 : Dk k_X_blend 8 .iaload 1 9 := ⟨(by decide +kernel), rfl⟩
theorem d_X_blend_9 : Db k_X_blend 9 (.ifCond .ne) 12 24 := ⟨15, (by decide +kernel), rfl, by decide⟩
theorem d_X_blend_12 : DlA k_X_blend 12 0 13 := Or.inl ⟨0, (by decide +kernel), rfl, rfl⟩
theorem d_X_blend_13 : DG k_X_blend 13 4 0 16 := ⟨12, (by decide +kernel), f_X_12, rfl⟩
theorem d_X_blend_16 : DG k_X_blend 16 0 0 19 := ⟨77, (by decide +kernel), f_X_77, rfl⟩
theorem d_X_blend_19 : Dc k_X_blend 19 (3) 20 := Or.inl ⟨(by decide +kernel), rfl⟩
theorem d_X_blend_20 : Dk k_X_blend 20 .iaload 1 21 := ⟨(by decide +kernel), rfl⟩
theorem d_X_blend_21 : Db k_X_blend 21 (.ifCond .le) 24 27 := ⟨6, (by decide +kernel), rfl, by decide⟩
theorem d_X_blend_24 : Dc k_X_blend 24 (-4) 26 := Or.inr (Or.inl ⟨(by decide +kernel), by decide, rfl⟩)
theorem d_X_blend_26 : DrI k_X_blend 26 := ⟨(by decide +kernel), rfl⟩
theorem d_X_blend_27 : DlA k_X_blend 27 0 28 := Or.inl ⟨0, (by decide +kernel), rfl, rfl⟩
theorem d_X_blend_28 : DG k_X_blend 28 4 0 31 := ⟨12, (by decide +kernel), f_X_12, rfl⟩
theorem d_X_blend_31 : DG k_X_blend 31 0 8 34 := ⟨107, (by decide +kernel), f_X_107, rfl⟩
theorem d_X_blend_34 : Db k_X_blend 34 (.ifCond .ne) 37 41 := ⟨7, (by decide +kernel), rfl, by decide⟩
theorem d_X_blend_37 : Dc k_X_blend 37 (0) 38 := Or.inl ⟨(by decide +kernel), rfl⟩
theorem d_X_blend_38 : Db k_X_blend 38 .goto 41 62 := ⟨24, (by decide +kernel), rfl, by decide⟩
theorem d_X_blend_41 : Dc k_X_blend 41 (1) 42 := Or.inl ⟨(by decide +kernel), rfl⟩
theorem d_X_blend_42 : DlA k_X_blend 42 0 43 := Or.inl ⟨0, (by decide +kernel), rfl, rfl⟩
theorem d_X_blend_43 : DG k_X_blend 43 4 0 46 := ⟨12, (by decide +kernel), f_X_12, rfl⟩
theorem d_X_blend_46 : DG k_X_blend 46 0 0 49 := ⟨77, (by decide +kernel), f_X_77, rfl⟩
theorem d_X_blend_49 : Dc k_X_blend 49 (1) 50 := Or.inl ⟨(by decide +kernel), rfl⟩
theorem d_X_blend_50 : Dk k_X_blend 50 .iaload 1 51 := ⟨(by decide +kernel), rfl⟩
theorem d_X_blend_51 : DlA k_X_blend 51 0 52 := Or.inl ⟨0, (by decide +kernel), rfl, rfl⟩
theorem d_X_blend_52 : DG k_X_blend 52 4 0 55 := ⟨12, (by decide +kernel), f_X_12, rfl⟩
theorem d_X_blend_55 : DG k_X_blend 55 0 8 58 := ⟨107, (by decide +kernel), f_X_107, rfl⟩
theorem d_X_blend_58 : Dk k_X_blend 58 .isub 1 59 := ⟨(by decide +kernel), rfl⟩
theorem d_X_blend_59 : DCS k_X_blend 59 k_J_max 2 62 := ⟨171, (by decide +kernel), rfl, Or.inl (tb_at 435 (by decide +kernel) (by decide +kernel)), m_J_max, is_J_max, by decide +kernel, by decide⟩
theorem d_X_blend_62 : DsI k_X_blend 62 1 63 := ⟨Or.inl ⟨1, (by decide +kernel), rfl, rfl⟩, by decide⟩
theorem d_X_blend_63 : DlI k_X_blend 63 1 64 := Or.inl ⟨1, (by decide +kernel), rfl, rfl⟩
theorem d_X_blend_64 : DlA k_X_blend 64 0 65 := Or.inl ⟨0, (by decide +kernel), rfl, rfl⟩
theorem d_X_blend_65 : DG k_X_blend 65 4 0 68 := ⟨12, (by decide +kernel), f_X_12, rfl⟩
theorem d_X_blend_68 : DG k_X_blend 68 0 0 71 := ⟨77, (by decide +kernel), f_X_77, rfl⟩
theorem d_X_blend_71 : Dc k_X_blend 71 (1) 72 := Or.inl ⟨(by decide +kernel), rfl⟩
theorem d_X_blend_72 : Dk k_X_blend 72 .iaload 1 73 := ⟨(by decide +kernel), rfl⟩
theorem d_X_blend_73 : Dk k_X_blend 73 .iadd 1 74 := ⟨(by decide +kernel), rfl⟩
theorem d_X_blend_74 : Dc k_X_blend 74 (1) 75 := Or.inl ⟨(by decide +kernel), rfl⟩
theorem d_X_blend_75 : Dk k_X_blend 75 .isub 1 76 := ⟨(by decide +kernel), rfl⟩
theorem d_X_blend_76 : DrI k_X_blend 76 := ⟨(by decide +kernel), rfl⟩
theorem d_X_type_0 : DlI k_X_type 0 1 1 := Or.inl ⟨1, (by decide +kernel), rfl, rfl⟩
theorem d_X_type_1 : Dc k_X_type 1 (32) 3 := Or.inr (Or.inl ⟨(by decide +kernel), by decide, rfl⟩)
theorem d_X_type_3 : Dc k_X_type 3 (126) 5 := Or.inr (Or.inl ⟨(by decide +kernel), by decide, rfl⟩)
theorem d_X_type_5 : DCS k_X_type 5 k_X_within 3 8 := ⟨47, (by decide +kernel), rfl, Or.inl (tb_at 220 (by decide +kernel) (by decide +kernel)), m_X_within, is_X_within, by decide +kernel, by decide⟩
theorem d_X_type_8 : Db k_X_type 8 (.ifCond .ne) 11 13 := ⟨5, (by decide +kernel), rfl, by decide⟩
theorem d_X_type_11 : Dc k_X_type 11 (-1) 12 := Or.inl ⟨(by decide +kernel), rfl⟩
theorem d_X_type_12 : DrI k_X_type 12 := ⟨(by decide +kernel), rfl⟩
theorem d_X_type_13 : DlA k_X_type 13 0 14 := Or.inl ⟨0, (by decide +kernel), rfl, rfl⟩
theorem d_X_type_14 : DG k_X_type 14 4 5 17 := ⟨36, (by decide +kernel), f_X_36, rfl⟩
theorem d_X_type_17 : DG k_X_type 17 3 1 20 := ⟨176, (by decide +kernel), f_X_176, rfl⟩
theorem d_X_type_20 : Dc k_X_type 20 (90) 22 := Or.inr (Or.inl ⟨(by decide +kernel), by decide, rfl⟩)
theorem d_X_type_22 : Db k_X_type 22 (.if_icmp .lt) 25 28 := ⟨6, (by decide +kernel), rfl, by decide⟩
theorem d_X_type_25 : Dc k_X_type 25 (-3) 27 := Or.inr (Or.inl ⟨(by decide +kernel), by decide, rfl⟩)
theorem d_X_type_27 : DrI k_X_type 27 := ⟨(by decide +kernel), rfl⟩
theorem d_X_type_28 : DlA k_X_type 28 0 29 := Or.inl ⟨0, (by decide +kernel), rfl, rfl⟩
theorem d_X_type_29 : DG k_X_type 29 4 5 32 := ⟨36, (by decide +kernel), f_X_36, rfl⟩
theorem d_X_type_32 : DlI k_X_type 32 1 33 := Or.inl ⟨1, (by decide +kernel), rfl, rfl⟩
theorem d_X_type_33 : DCV k_X_type 33 k_T_add 3 1 36 := ⟨179, (by decide +kernel), rfl, tb_at 440 (by decide +kernel) (by decide +kernel), m_T_add, iv_T_add.1, iv_T_add.2, ⟨(RX3, TX3, 5), rfl, rfl⟩, by decide +kernel, by decide⟩
theorem d_X_type_36 : DlA k_X_type 36 0 37 := Or.inl ⟨0, (by decide +kernel), rfl, rfl⟩
theorem d_X_type_37 : DG k_X_type 37 4 5 40 := ⟨36, (by decide +kernel), f_X_36, rfl⟩
theorem d_X_type_40 : DG k_X_type 40 3 1 43 := ⟨176, (by decide +kernel), f_X_176, rfl⟩
theorem d_X_type_43 : DrI k_X_type 43 := ⟨(by decide +kernel), rfl⟩
theorem d_X_read_0 : DlA k_X_read 0 0 1 := Or.inl ⟨0, (by decide +kernel), rfl, rfl⟩
theorem d_X_read_1 : DG k_X_read 1 4 5 4 := ⟨36, (by decide +kernel), f_X_36, rfl⟩
theorem d_X_read_4 : DCV k_X_read 4 k_T_parse 3 0 7 := ⟨183, (by decide +kernel), rfl, tb_at 448 (by decide +kernel) (by decide +kernel), m_T_parse, iv_T_parse.1, iv_T_parse.2, ⟨(RX3, TX3, 5), rfl, rfl⟩, by decide +kernel, by decide⟩
theorem d_X_read_7 : DsI k_X_read 7 1 8 := ⟨Or.inl ⟨1, (by decide +kernel), rfl, rfl⟩, by decide⟩
theorem d_X_read_8 : DlA k_X_read 8 0 9 := Or.inl ⟨0, (by decide +kernel), rfl, rfl⟩
theorem d_X_read_9 : DG k_X_read 9 4 5 12 := ⟨36, (by decide +kernel), f_X_36, rfl⟩
theorem d_X_read_12 : Dc k_X_read 12 (0) 13 := Or.inl ⟨(by decide +kernel), rfl⟩
theorem d_X_read_13 : DP k_X_read 13 3 1 16 .int := ⟨176, (by decide +kernel), p_X_176, rfl, RX3, TX3, 5, rfl, rfl⟩
theorem d_X_read_16 : DlI k_X_read 16 1 17 := Or.inl ⟨1, (by decide +kernel), rfl, rfl⟩
theorem d_X_read_17 : Db k_X_read 17 (.ifCond .lt) 20 25 := ⟨8, (by decide +kernel), rfl, by decide⟩
theorem d_X_read_20 : Dc k_X_read 20 (-20) 22 := Or.inr (Or.inl ⟨(by decide +kernel), by decide, rfl⟩)
theorem d_X_read_22 : DlI k_X_read 22 1 23 := Or.inl ⟨1, (by decide +kernel), rfl, rfl⟩
theorem d_X_read_23 : Dk k_X_read 23 .isub 1 24 := ⟨(by decide +kernel), rfl⟩
theorem d_X_read_24 : DrI k_X_read 24 := ⟨(by decide +kernel), rfl⟩
theorem d_X_read_25 : DlA k_X_read 25 0 26 := Or.inl ⟨0, (by decide +kernel), rfl, rfl⟩
theorem d_X_read_26 : DG k_X_read 26 4 1 29 := ⟨19, (by decide +kernel), f_X_19, rfl⟩
theorem d_X_read_29 : DlA k_X_read 29 0 30 := Or.inl ⟨0, (by decide +kernel), rfl, rfl⟩
theorem d_X_read_30 : DG k_X_read 30 4 0 33 := ⟨12, (by decide +kernel), f_X_12, rfl⟩
theorem d_X_read_33 : DCV k_X_read 33 k_P_remember 1 1 36 := ⟨55, (by decide +kernel), rfl, tb_at 231 (by decide +kernel) (by decide +kernel), m_P_remember, iv_P_remember.1, iv_P_remember.2, ⟨(RX1, TX1, 3), rfl, rfl⟩, by decide +kernel, by decide⟩
theorem d_X_read_36 : Dc k_X_read 36 (0) 37 := Or.inl ⟨(by decide +kernel), rfl⟩
theorem d_X_read_37 : DsI k_X_read 37 2 38 := ⟨Or.inl ⟨2, (by decide +kernel), rfl, rfl⟩, by decide⟩
theorem d_X_read_38 : DlI k_X_read 38 2 39 := Or.inl ⟨2, (by decide +kernel), rfl, rfl⟩
theorem d_X_read_39 : DlA k_X_read 39 0 40 := Or.inl ⟨0, (by decide +kernel), rfl, rfl⟩
theorem d_X_read_40 : DG k_X_read 40 4 5 43 := ⟨36, (by decide +kernel), f_X_36, rfl⟩
theorem d_X_read_43 : DG k_X_read 43 3 4 46 := ⟨186, (by decide +kernel), f_X_186, rfl⟩
theorem d_X_read_46 : Db k_X_read 46 (.if_icmp .ge) 49 63 := ⟨17, (by decide +kernel), rfl, by decide⟩
theorem d_X_read_49 : DlA k_X_read 49 0 50 := Or.inl ⟨0, (by decide +kernel), rfl, rfl⟩
theorem d_X_read_50 : DlI k_X_read 50 2 51 := Or.inl ⟨2, (by decide +kernel), rfl, rfl⟩
theorem d_X_read_51 : DCV k_X_read 51 k_X_play 4 1 54 := ⟨189, (by decide +kernel), rfl, tb_at 469 (by decide +kernel) (by decide +kernel), m_X_play, iv_X_play.1, iv_X_play.2, ⟨(RX5, TX5, 7), rfl, rfl⟩, by decide +kernel, by decide⟩
theorem d_X_read_54 : Db k_X_read 54 (.ifCond .eq) 57 63 := ⟨9, (by decide +kernel), rfl, by decide⟩
theorem d_X_read_57 : Dinc k_X_read 57 2 (1) 60 := ⟨(by decide +kernel), rfl, by decide⟩
theorem d_X_read_60 : Db k_X_read 60 .goto 63 38 := ⟨-22, (by decide +kernel), rfl, by decide⟩
theorem d_X_read_63 : DlI k_X_read 63 2 64 := Or.inl ⟨2, (by decide +kernel), rfl, rfl⟩
theorem d_X_read_64 : DrI k_X_read 64 := ⟨(by decide +kernel), rfl⟩
theorem d_X_drift_0 : DlI k_X_drift 0 1 1 := Or.inl ⟨1, (by decide +kernel), rfl, rfl⟩
theorem d_X_drift_1 : Dc k_X_drift 1 (1) 2 := Or.inl ⟨(by decide +kernel), rfl⟩
theorem d_X_drift_2 : Dc k_X_drift 2 (40) 4 := Or.inr (Or.inl ⟨(by decide +kernel), by decide, rfl⟩)
theorem d_X_drift_4 : DCS k_X_drift 4 k_X_within 3 7 := ⟨47, (by decide +kernel), rfl, Or.inl (tb_at 220 (by decide +kernel) (by decide +kernel)), m_X_within, is_X_within, by decide +kernel, by decide⟩
theorem d_X_drift_7 : Db k_X_drift 7 (.ifCond .ne) 10 12 := ⟨5, (by decide +kernel), rfl, by decide⟩
theorem d_X_drift_10 : Dc k_X_drift 10 (-1) 11 := Or.inl ⟨(by decide +kernel), rfl⟩
theorem d_X_drift_11 : DrI k_X_drift 11 := ⟨(by decide +kernel), rfl⟩
theorem d_X_drift_12 : Dc k_X_drift 12 (0) 13 := Or.inl ⟨(by decide +kernel), rfl⟩
theorem d_X_drift_13 : DsI k_X_drift 13 2 14 := ⟨Or.inl ⟨2, (by decide +kernel), rfl, rfl⟩, by decide⟩
theorem d_X_drift_14 : DlI k_X_drift 14 2 15 := Or.inl ⟨2, (by decide +kernel), rfl, rfl⟩
theorem d_X_drift_15 : DlI k_X_drift 15 1 16 := Or.inl ⟨1, (by decide +kernel), rfl, rfl⟩
theorem d_X_drift_16 : Db k_X_drift 16 (.if_icmp .ge) 19 40 := ⟨24, (by decide +kernel), rfl, by decide⟩
theorem d_X_drift_19 : DlA k_X_drift 19 0 20 := Or.inl ⟨0, (by decide +kernel), rfl, rfl⟩
theorem d_X_drift_20 : DG k_X_drift 20 4 1 23 := ⟨19, (by decide +kernel), f_X_19, rfl⟩
theorem d_X_drift_23 : DlA k_X_drift 23 0 24 := Or.inl ⟨0, (by decide +kernel), rfl, rfl⟩
theorem d_X_drift_24 : DG k_X_drift 24 4 0 27 := ⟨12, (by decide +kernel), f_X_12, rfl⟩
theorem d_X_drift_27 : DCV k_X_drift 27 k_P_remember 1 1 30 := ⟨55, (by decide +kernel), rfl, tb_at 231 (by decide +kernel) (by decide +kernel), m_P_remember, iv_P_remember.1, iv_P_remember.2, ⟨(RX1, TX1, 3), rfl, rfl⟩, by decide +kernel, by decide⟩
theorem d_X_drift_30 : DlA k_X_drift 30 0 31 := Or.inl ⟨0, (by decide +kernel), rfl, rfl⟩
theorem d_X_drift_31 : DCV k_X_drift 31 k_X_driftOnce 4 0 34 := ⟨192, (by decide +kernel), rfl, tb_at 485 (by decide +kernel) (by decide +kernel), m_X_driftOnce, iv_X_driftOnce.1, iv_X_driftOnce.2, ⟨(RX5, TX5, 7), rfl, rfl⟩, by decide +kernel, by decide⟩
theorem d_X_drift_34 : Dinc k_X_drift 34 2 (1) 37 := ⟨(by decide +kernel), rfl, by decide⟩
theorem d_X_drift_37 : Db k_X_drift 37 .goto 40 14 := ⟨-23, (by decide +kernel), rfl, by decide⟩
theorem d_X_drift_40 : DlA k_X_drift 40 0 41 := Or.inl ⟨0, (by decide +kernel), rfl, rfl⟩
theorem d_X_drift_41 : DG k_X_drift 41 4 0 44 := ⟨12, (by decide +kernel), f_X_12, rfl⟩
theorem d_X_drift_44 : DG k_X_drift 44 0 2 47 := ⟨80, (by decide +kernel), f_X_80, rfl⟩
theorem d_X_drift_47 : DrI k_X_drift 47 := ⟨(by decide +kernel), rfl⟩
theorem d_X_undo_0 : DlA k_X_undo 0 0 1 := Or.inl ⟨0, (by decide +kernel), rfl, rfl⟩
theorem d_X_undo_1 : DG k_X_undo 1 4 1 4 := ⟨19, (by decide +kernel), f_X_19, rfl⟩
theorem d_X_undo_4 : DG k_X_undo 4 1 2 7 := ⟨138, (by decide +kernel), f_X_138, rfl⟩
theorem d_X_undo_7 : Db k_X_undo 7 (.ifCond .ne) 10 13 := ⟨6, (by decide +kernel), rfl, by decide⟩
theorem d_X_undo_10 : Dc k_X_undo 10 (-4) 12 := Or.inr (Or.inl ⟨(by decide +kernel), by decide, rfl⟩)
theorem d_X_undo_12 : DrI k_X_undo 12 := ⟨(by decide +kernel), rfl⟩
theorem d_X_undo_13 : DlA k_X_undo 13 0 14 := Or.inl ⟨0, (by decide +kernel), rfl, rfl⟩
theorem d_X_undo_14 : DG k_X_undo 14 4 1 17 := ⟨19, (by decide +kernel), f_X_19, rfl⟩
theorem d_X_undo_17 : DlA k_X_undo 17 0 18 := Or.inl ⟨0, (by decide +kernel), rfl, rfl⟩
theorem d_X_undo_18 : DG k_X_undo 18 4 0 21 := ⟨12, (by decide +kernel), f_X_12, rfl⟩
theorem d_X_undo_21 : DCV k_X_undo 21 k_P_bringBack 1 1 24 := ⟨195, (by decide +kernel), rfl, tb_at 494 (by decide +kernel) (by decide +kernel), m_P_bringBack, iv_P_bringBack.1, iv_P_bringBack.2, ⟨(RX1, TX1, 3), rfl, rfl⟩, by decide +kernel, by decide⟩
theorem d_X_undo_24 : DlA k_X_undo 24 0 25 := Or.inl ⟨0, (by decide +kernel), rfl, rfl⟩
theorem d_X_undo_25 : DG k_X_undo 25 4 1 28 := ⟨19, (by decide +kernel), f_X_19, rfl⟩
theorem d_X_undo_28 : DG k_X_undo 28 1 2 31 := ⟨138, (by decide +kernel), f_X_138, rfl⟩
theorem d_X_undo_31 : DrI k_X_undo 31 := ⟨(by decide +kernel), rfl⟩
theorem d_X_seed_0 : DlI k_X_seed 0 1 1 := Or.inl ⟨1, (by decide +kernel), rfl, rfl⟩
theorem d_X_seed_1 : Db k_X_seed 1 (.ifCond .ge) 4 6 := ⟨5, (by decide +kernel), rfl, by decide⟩
theorem d_X_seed_4 : Dc k_X_seed 4 (-1) 5 := Or.inl ⟨(by decide +kernel), rfl⟩
theorem d_X_seed_5 : DrI k_X_seed 5 := ⟨(by decide +kernel), rfl⟩
theorem d_X_seed_6 : DlA k_X_seed 6 0 7 := Or.inl ⟨0, (by decide +kernel), rfl, rfl⟩
theorem d_X_seed_7 : DG k_X_seed 7 4 0 10 := ⟨12, (by decide +kernel), f_X_12, rfl⟩
theorem d_X_seed_10 : DG k_X_seed 10 0 1 13 := ⟨198, (by decide +kernel), f_X_198, rfl⟩
theorem d_X_seed_13 : DsI k_X_seed 13 2 14 := ⟨Or.inl ⟨2, (by decide +kernel), rfl, rfl⟩, by decide⟩
theorem d_X_seed_14 : DlA k_X_seed 14 0 15 := Or.inl ⟨0, (by decide +kernel), rfl, rfl⟩
theorem d_X_seed_15 : DG k_X_seed 15 4 0 18 := ⟨12, (by decide +kernel), f_X_12, rfl⟩
theorem d_X_seed_18 : DlI k_X_seed 18 1 19 := Or.inl ⟨1, (by decide +kernel), rfl, rfl⟩
theorem d_X_seed_19 : DP k_X_seed 19 0 1 22 .int := ⟨198, (by decide +kernel), p_X_198, rfl, RX0, TX0, 13, rfl, rfl⟩
theorem d_X_seed_22 : DlI k_X_seed 22 2 23 := Or.inl ⟨2, (by decide +kernel), rfl, rfl⟩
theorem d_X_seed_23 : DrI k_X_seed 23 := ⟨(by decide +kernel), rfl⟩
theorem d_X_image_0 : DlA k_X_image 0 0 1 := Or.inl ⟨0, (by decide +kernel), rfl, rfl⟩
theorem d_X_image_1 : DG k_X_image 1 4 2 4 := ⟨23, (by decide +kernel), f_X_23, rfl⟩
theorem d_X_image_4 : DlA k_X_image 4 0 5 := Or.inl ⟨0, (by decide +kernel), rfl, rfl⟩
theorem d_X_image_5 : DG k_X_image 5 4 0 8 := ⟨12, (by decide +kernel), f_X_12, rfl⟩
theorem d_X_image_8 : DCV k_X_image 8 k_B_become 0 1 11 := ⟨201, (by decide +kernel), rfl, tb_at 506 (by decide +kernel) (by decide +kernel), m_B_become, iv_B_become.1, iv_B_become.2, ⟨(RX0, TX0, 13), rfl, rfl⟩, by decide +kernel, by decide⟩
theorem d_X_image_11 : DlA k_X_image 11 0 12 := Or.inl ⟨0, (by decide +kernel), rfl, rfl⟩
theorem d_X_image_12 : DG k_X_image 12 4 3 15 := ⟨26, (by decide +kernel), f_X_26, rfl⟩
theorem d_X_image_15 : DlA k_X_image 15 0 16 := Or.inl ⟨0, (by decide +kernel), rfl, rfl⟩
theorem d_X_image_16 : DG k_X_image 16 4 1 19 := ⟨19, (by decide +kernel), f_X_19, rfl⟩
theorem d_X_image_19 : DCV k_X_image 19 k_P_become 1 1 22 := ⟨204, (by decide +kernel), rfl, tb_at 507 (by decide +kernel) (by decide +kernel), m_P_become, iv_P_become.1, iv_P_become.2, ⟨(RX1, TX1, 3), rfl, rfl⟩, by decide +kernel, by decide⟩
theorem d_X_image_22 : DlA k_X_image 22 0 23 := Or.inl ⟨0, (by decide +kernel), rfl, rfl⟩
theorem d_X_image_23 : Dc k_X_image 23 (1) 24 := Or.inl ⟨(by decide +kernel), rfl⟩
theorem d_X_image_24 : DP k_X_image 24 4 4 27 .boolean := ⟨29, (by decide +kernel), p_X_29, rfl, RX5, TX5, 7, rfl, rfl⟩
theorem d_X_image_27 : Dc k_X_image 27 (1) 28 := Or.inl ⟨(by decide +kernel), rfl⟩
theorem d_X_image_28 : DrI k_X_image 28 := ⟨(by decide +kernel), rfl⟩
theorem d_X_restore_0 : DlA k_X_restore 0 0 1 := Or.inl ⟨0, (by decide +kernel), rfl, rfl⟩
theorem d_X_restore_1 : DG k_X_restore 1 4 4 4 := ⟨29, (by decide +kernel), f_X_29, rfl⟩
theorem d_X_restore_4 : Db k_X_restore 4 (.ifCond .ne) 7 10 := ⟨6, (by decide +kernel), rfl, by decide⟩
theorem d_X_restore_7 : Dc k_X_restore 7 (-4) 9 := Or.inr (Or.inl ⟨(by decide +kernel), by decide, rfl⟩)
theorem d_X_restore_9 : DrI k_X_restore 9 := ⟨(by decide +kernel), rfl⟩
theorem d_X_restore_10 : DlA k_X_restore 10 0 11 := Or.inl ⟨0, (by decide +kernel), rfl, rfl⟩
theorem d_X_restore_11 : DG k_X_restore 11 4 0 14 := ⟨12, (by decide +kernel), f_X_12, rfl⟩
theorem d_X_restore_14 : DlA k_X_restore 14 0 15 := Or.inl ⟨0, (by decide +kernel), rfl, rfl⟩
theorem d_X_restore_15 : DG k_X_restore 15 4 2 18 := ⟨23, (by decide +kernel), f_X_23, rfl⟩
theorem d_X_restore_18 : DCV k_X_restore 18 k_B_become 0 1 21 := ⟨201, (by decide +kernel), rfl, tb_at 506 (by decide +kernel) (by decide +kernel), m_B_become, iv_B_become.1, iv_B_become.2, ⟨(RX0, TX0, 13), rfl, rfl⟩, by decide +kernel, by decide⟩
theorem d_X_restore_21 : DlA k_X_restore 21 0 22 := Or.inl ⟨0, (by decide +kernel), rfl, rfl⟩
theorem d_X_restore_22 : DG k_X_restore 22 4 1 25 := ⟨19, (by decide +kernel), f_X_19, rfl⟩
theorem d_X_restore_25 : DlA k_X_restore 25 0 26 := Or.inl ⟨0, (by decide +kernel), rfl, rfl⟩
theorem d_X_restore_26 : DG k_X_restore 26 4 3 29 := ⟨26, (by decide +kernel), f_X_26, rfl⟩
theorem d_X_restore_29 : DCV k_X_restore 29 k_P_become 1 1 32 := ⟨204, (by decide +kernel), rfl, tb_at 507 (by decide +kernel) (by decide +kernel), m_P_become, iv_P_become.1, iv_P_become.2, ⟨(RX1, TX1, 3), rfl, rfl⟩, by decide +kernel, by decide⟩
theorem d_X_restore_32 : Dc k_X_restore 32 (1) 33 := Or.inl ⟨(by decide +kernel), rfl⟩
theorem d_X_restore_33 : DrI k_X_restore 33 := ⟨(by decide +kernel), rfl⟩
theorem d_X_fits_0 : DlI k_X_fits 0 1 1 := Or.inl ⟨1, (by decide +kernel), rfl, rfl⟩
theorem d_X_fits_1 : DCS k_X_fits 1 k_X_isSheet 1 4 := ⟨207, (by decide +kernel), rfl, Or.inl (tb_at 519 (by decide +kernel) (by decide +kernel)), m_X_isSheet, is_X_isSheet, by decide +kernel, by decide⟩
theorem d_X_fits_4 : Db k_X_fits 4 (.ifCond .eq) 7 25 := ⟨21, (by decide +kernel), rfl, by decide⟩
theorem d_X_fits_7 : DlI k_X_fits 7 2 8 := Or.inl ⟨2, (by decide +kernel), rfl, rfl⟩
theorem d_X_fits_8 : DCS k_X_fits 8 k_X_isLane 1 11 := ⟨210, (by decide +kernel), rfl, Or.inl (tb_at 522 (by decide +kernel) (by decide +kernel)), m_X_isLane, is_X_isLane, by decide +kernel, by decide⟩
theorem d_X_fits_11 : Db k_X_fits 11 (.ifCond .eq) 14 25 := ⟨14, (by decide +kernel), rfl, by decide⟩
theorem d_X_fits_14 : DlI k_X_fits 14 4 16 := Or.inr ⟨(by decide +kernel), rfl⟩
theorem d_X_fits_16 : Dc k_X_fits 16 (1) 17 := Or.inl ⟨(by decide +kernel), rfl⟩
theorem d_X_fits_17 : Dc k_X_fits 17 (8) 19 := Or.inr (Or.inl ⟨(by decide +kernel), by decide, rfl⟩)
theorem d_X_fits_19 : DCS k_X_fits 19 k_X_within 3 22 := ⟨47, (by decide +kernel), rfl, Or.inl (tb_at 220 (by decide +kernel) (by decide +kernel)), m_X_within, is_X_within, by decide +kernel, by decide⟩
theorem d_X_fits_22 : Db k_X_fits 22 (.ifCond .ne) 25 27 := ⟨5, (by decide +kernel), rfl, by decide⟩
theorem d_X_fits_25 : Dc k_X_fits 25 (-1) 26 := Or.inl ⟨(by decide +kernel), rfl⟩
theorem d_X_fits_26 : DrI k_X_fits 26 := ⟨(by decide +kernel), rfl⟩
theorem d_X_fits_27 : DlA k_X_fits 27 0 28 := Or.inl ⟨0, (by decide +kernel), rfl, rfl⟩
theorem d_X_fits_28 : DG k_X_fits 28 4 6 31 := ⟨42, (by decide +kernel), f_X_42, rfl⟩
theorem d_X_fits_31 : DlI k_X_fits 31 1 32 := Or.inl ⟨1, (by decide +kernel), rfl, rfl⟩
theorem d_X_fits_32 : Dk k_X_fits 32 .aaload 1 33 := ⟨(by decide +kernel), rfl⟩
theorem d_X_fits_33 : DsA k_X_fits 33 5 35 := ⟨Or.inr ⟨(by decide +kernel), rfl⟩, by decide⟩
theorem d_X_fits_35 : DlA k_X_fits 35 5 37 := Or.inr ⟨(by decide +kernel), rfl⟩
theorem d_X_fits_37 : DlI k_X_fits 37 2 38 := Or.inl ⟨2, (by decide +kernel), rfl, rfl⟩
theorem d_X_fits_38 : DlI k_X_fits 38 3 39 := Or.inl ⟨3, (by decide +kernel), rfl, rfl⟩
theorem d_X_fits_39 : Dc k_X_fits 39 (2) 40 := Or.inl ⟨(by decide +kernel), rfl⟩
theorem d_X_fits_40 : DlI k_X_fits 40 4 42 := Or.inr ⟨(by decide +kernel), rfl⟩
theorem d_X_fits_42 : Dk k_X_fits 42 .imul 1 43 := ⟨(by decide +kernel), rfl⟩
theorem d_X_fits_43 : DCV k_X_fits 43 k_H_fault 2 3 46 := ⟨213, (by decide +kernel), rfl, tb_at 525 (by decide +kernel) (by decide +kernel), m_H_fault, iv_H_fault.1, iv_H_fault.2, ⟨(RX2, TX2, 3), rfl, rfl⟩, by decide +kernel, by decide⟩
theorem d_X_fits_46 : DsI k_X_fits 46 6 48 := ⟨Or.inr ⟨(by decide +kernel), rfl⟩, by decide⟩
theorem d_X_fits_48 : DlI k_X_fits 48 6 50 := Or.inr ⟨(by decide +kernel), rfl⟩
theorem d_X_fits_50 : Db k_X_fits 50 (.ifCond .eq) 53 56 := ⟨6, (by decide +kernel), rfl, by decide⟩
theorem d_X_fits_53 : DlI k_X_fits 53 6 55 := Or.inr ⟨(by decide +kernel), rfl⟩
theorem d_X_fits_55 : DrI k_X_fits 55 := ⟨(by decide +kernel), rfl⟩
theorem d_X_fits_56 : DlA k_X_fits 56 5 58 := Or.inr ⟨(by decide +kernel), rfl⟩
theorem d_X_fits_58 : DlI k_X_fits 58 3 59 := Or.inl ⟨3, (by decide +kernel), rfl, rfl⟩
theorem d_X_fits_59 : DlI k_X_fits 59 4 61 := Or.inr ⟨(by decide +kernel), rfl⟩
theorem d_X_fits_61 : DCV k_X_fits 61 k_H_tellsPairs 2 2 64 := ⟨217, (by decide +kernel), rfl, tb_at 537 (by decide +kernel) (by decide +kernel), m_H_tellsPairs, iv_H_tellsPairs.1, iv_H_tellsPairs.2, ⟨(RX2, TX2, 3), rfl, rfl⟩, by decide +kernel, by decide⟩
theorem d_X_fits_64 : Db k_X_fits 64 (.ifCond .ne) 67 70 := ⟨6, (by decide +kernel), rfl, by decide⟩
theorem d_X_fits_67 : Dc k_X_fits 67 (-2) 69 := Or.inr (Or.inl ⟨(by decide +kernel), by decide, rfl⟩)
theorem d_X_fits_69 : DrI k_X_fits 69 := ⟨(by decide +kernel), rfl⟩
theorem d_X_fits_70 : Dc k_X_fits 70 (0) 71 := Or.inl ⟨(by decide +kernel), rfl⟩
theorem d_X_fits_71 : DsI k_X_fits 71 7 73 := ⟨Or.inr ⟨(by decide +kernel), rfl⟩, by decide⟩
theorem d_X_fits_73 : Dc k_X_fits 73 (0) 74 := Or.inl ⟨(by decide +kernel), rfl⟩
theorem d_X_fits_74 : DsI k_X_fits 74 8 76 := ⟨Or.inr ⟨(by decide +kernel), rfl⟩, by decide⟩
theorem d_X_fits_76 : DlI k_X_fits 76 8 78 := Or.inr ⟨(by decide +kernel), rfl⟩
theorem d_X_fits_78 : Dc k_X_fits 78 (4) 79 := Or.inl ⟨(by decide +kernel), rfl⟩
theorem d_X_fits_79 : Db k_X_fits 79 (.if_icmp .ge) 82 111 := ⟨32, (by decide +kernel), rfl, by decide⟩
theorem d_X_fits_82 : DlA k_X_fits 82 0 83 := Or.inl ⟨0, (by decide +kernel), rfl, rfl⟩
theorem d_X_fits_83 : DlA k_X_fits 83 5 85 := Or.inr ⟨(by decide +kernel), rfl⟩
theorem d_X_fits_85 : DlI k_X_fits 85 3 86 := Or.inl ⟨3, (by decide +kernel), rfl, rfl⟩
theorem d_X_fits_86 : DlI k_X_fits 86 4 88 := Or.inr ⟨(by decide +kernel), rfl⟩
theorem d_X_fits_88 : DlI k_X_fits 88 8 90 := Or.inr ⟨(by decide +kernel), rfl⟩
theorem d_X_fits_90 : DCV k_X_fits 90 k_X_fitsPolicy 4 4 93 := ⟨220, (by decide +kernel), rfl, tb_at 547 (by decide +kernel) (by decide +kernel), m_X_fitsPolicy, iv_X_fitsPolicy.1, iv_X_fitsPolicy.2, ⟨(RX5, TX5, 7), rfl, rfl⟩, by decide +kernel, by decide⟩
theorem d_X_fits_93 : Db k_X_fits 93 (.ifCond .eq) 96 105 := ⟨12, (by decide +kernel), rfl, by decide⟩
theorem d_X_fits_96 : DlI k_X_fits 96 7 98 := Or.inr ⟨(by decide +kernel), rfl⟩
theorem d_X_fits_98 : Dc k_X_fits 98 (1) 99 := Or.inl ⟨(by decide +kernel), rfl⟩
theorem d_X_fits_99 : DlI k_X_fits 99 8 101 := Or.inr ⟨(by decide +kernel), rfl⟩
theorem d_X_fits_101 : Dk k_X_fits 101 .ishl 1 102 := ⟨(by decide +kernel), rfl⟩
theorem d_X_fits_102 : Dk k_X_fits 102 .ior 1 103 := ⟨(by decide +kernel), rfl⟩
theorem d_X_fits_103 : DsI k_X_fits 103 7 105 := ⟨Or.inr ⟨(by decide +kernel), rfl⟩, by decide⟩
theorem d_X_fits_105 : Dinc k_X_fits 105 8 (1) 108 := ⟨(by decide +kernel), rfl, by decide⟩
theorem d_X_fits_108 : Db k_X_fits 108 .goto 111 76 := ⟨-32, (by decide +kernel), rfl, by decide⟩
theorem d_X_fits_111 : DlI k_X_fits 111 7 113 := Or.inr ⟨(by decide +kernel), rfl⟩
theorem d_X_fits_113 : DrI k_X_fits 113 := ⟨(by decide +kernel), rfl⟩
theorem d_X_film_0 : DlA k_X_film 0 0 1 := Or.inl ⟨0, (by decide +kernel), rfl, rfl⟩
theorem d_X_film_1 : DG k_X_film 1 4 0 4 := ⟨12, (by decide +kernel), f_X_12, rfl⟩
theorem d_X_film_4 : DlI k_X_film 4 1 5 := Or.inl ⟨1, (by decide +kernel), rfl, rfl⟩
theorem d_X_film_5 : DCV k_X_film 5 k_B_hasRound 0 1 8 := ⟨113, (by decide +kernel), rfl, tb_at 325 (by decide +kernel) (by decide +kernel), m_B_hasRound, iv_B_hasRound.1, iv_B_hasRound.2, ⟨(RX0, TX0, 13), rfl, rfl⟩, by decide +kernel, by decide⟩
theorem d_X_film_8 : Db k_X_film 8 (.ifCond .eq) 11 25 := ⟨17, (by decide +kernel), rfl, by decide⟩
theorem d_X_film_11 : DlI k_X_film 11 2 12 := Or.inl ⟨2, (by decide +kernel), rfl, rfl⟩
theorem d_X_film_12 : DCS k_X_film 12 k_X_isSheet 1 15 := ⟨207, (by decide +kernel), rfl, Or.inl (tb_at 519 (by decide +kernel) (by decide +kernel)), m_X_isSheet, is_X_isSheet, by decide +kernel, by decide⟩
theorem d_X_film_15 : Db k_X_film 15 (.ifCond .eq) 18 25 := ⟨10, (by decide +kernel), rfl, by decide⟩
theorem d_X_film_18 : DlI k_X_film 18 3 19 := Or.inl ⟨3, (by decide +kernel), rfl, rfl⟩
theorem d_X_film_19 : DCS k_X_film 19 k_X_isLane 1 22 := ⟨210, (by decide +kernel), rfl, Or.inl (tb_at 522 (by decide +kernel) (by decide +kernel)), m_X_isLane, is_X_isLane, by decide +kernel, by decide⟩
theorem d_X_film_22 : Db k_X_film 22 (.ifCond .ne) 25 27 := ⟨5, (by decide +kernel), rfl, by decide⟩
theorem d_X_film_25 : Dc k_X_film 25 (-1) 26 := Or.inl ⟨(by decide +kernel), rfl⟩
theorem d_X_film_26 : DrI k_X_film 26 := ⟨(by decide +kernel), rfl⟩
theorem d_X_film_27 : DlA k_X_film 27 0 28 := Or.inl ⟨0, (by decide +kernel), rfl, rfl⟩
theorem d_X_film_28 : DG k_X_film 28 4 0 31 := ⟨12, (by decide +kernel), f_X_12, rfl⟩
theorem d_X_film_31 : DlI k_X_film 31 1 32 := Or.inl ⟨1, (by decide +kernel), rfl, rfl⟩
theorem d_X_film_32 : Dc k_X_film 32 (1) 33 := Or.inl ⟨(by decide +kernel), rfl⟩
theorem d_X_film_33 : DCV k_X_film 33 k_B_fact 0 2 36 := ⟨116, (by decide +kernel), rfl, tb_at 329 (by decide +kernel) (by decide +kernel), m_B_fact, iv_B_fact.1, iv_B_fact.2, ⟨(RX0, TX0, 13), rfl, rfl⟩, by decide +kernel, by decide⟩
theorem d_X_film_36 : DsI k_X_film 36 5 38 := ⟨Or.inr ⟨(by decide +kernel), rfl⟩, by decide⟩
theorem d_X_film_38 : DlA k_X_film 38 0 39 := Or.inl ⟨0, (by decide +kernel), rfl, rfl⟩
theorem d_X_film_39 : DG k_X_film 39 4 6 42 := ⟨42, (by decide +kernel), f_X_42, rfl⟩
theorem d_X_film_42 : DlI k_X_film 42 2 43 := Or.inl ⟨2, (by decide +kernel), rfl, rfl⟩
theorem d_X_film_43 : Dk k_X_film 43 .aaload 1 44 := ⟨(by decide +kernel), rfl⟩
theorem d_X_film_44 : DsA k_X_film 44 6 46 := ⟨Or.inr ⟨(by decide +kernel), rfl⟩, by decide⟩
theorem d_X_film_46 : DlA k_X_film 46 6 48 := Or.inr ⟨(by decide +kernel), rfl⟩
theorem d_X_film_48 : DlI k_X_film 48 3 49 := Or.inl ⟨3, (by decide +kernel), rfl, rfl⟩
theorem d_X_film_49 : DlI k_X_film 49 4 51 := Or.inr ⟨(by decide +kernel), rfl⟩
theorem d_X_film_51 : DlI k_X_film 51 5 53 := Or.inr ⟨(by decide +kernel), rfl⟩
theorem d_X_film_53 : DCV k_X_film 53 k_H_fault 2 3 56 := ⟨213, (by decide +kernel), rfl, tb_at 525 (by decide +kernel) (by decide +kernel), m_H_fault, iv_H_fault.1, iv_H_fault.2, ⟨(RX2, TX2, 3), rfl, rfl⟩, by decide +kernel, by decide⟩
theorem d_X_film_56 : DsI k_X_film 56 7 58 := ⟨Or.inr ⟨(by decide +kernel), rfl⟩, by decide⟩
theorem d_X_film_58 : DlI k_X_film 58 7 60 := Or.inr ⟨(by decide +kernel), rfl⟩
theorem d_X_film_60 : Db k_X_film 60 (.ifCond .eq) 63 66 := ⟨6, (by decide +kernel), rfl, by decide⟩
theorem d_X_film_63 : DlI k_X_film 63 7 65 := Or.inr ⟨(by decide +kernel), rfl⟩
theorem d_X_film_65 : DrI k_X_film 65 := ⟨(by decide +kernel), rfl⟩
theorem d_X_film_66 : Dc k_X_film 66 (0) 67 := Or.inl ⟨(by decide +kernel), rfl⟩
theorem d_X_film_67 : DsI k_X_film 67 8 69 := ⟨Or.inr ⟨(by decide +kernel), rfl⟩, by decide⟩
theorem d_X_film_69 : DlI k_X_film 69 8 71 := Or.inr ⟨(by decide +kernel), rfl⟩
theorem d_X_film_71 : DlI k_X_film 71 5 73 := Or.inr ⟨(by decide +kernel), rfl⟩
theorem d_X_film_73 : Db k_X_film 73 (.if_icmp .ge) 76 110 := ⟨37, (by decide +kernel), rfl, by decide⟩
theorem d_X_film_76 : DlA k_X_film 76 6 78 := Or.inr ⟨(by decide +kernel), rfl⟩
theorem d_X_film_78 : DlI k_X_film 78 4 80 := Or.inr ⟨(by decide +kernel), rfl⟩
theorem d_X_film_80 : DlI k_X_film 80 8 82 := Or.inr ⟨(by decide +kernel), rfl⟩
theorem d_X_film_82 : Dk k_X_film 82 .iadd 1 83 := ⟨(by decide +kernel), rfl⟩
theorem d_X_film_83 : DlA k_X_film 83 0 84 := Or.inl ⟨0, (by decide +kernel), rfl, rfl⟩
theorem d_X_film_84 : DG k_X_film 84 4 0 87 := ⟨12, (by decide +kernel), f_X_12, rfl⟩
theorem d_X_film_87 : DlA k_X_film 87 0 88 := Or.inl ⟨0, (by decide +kernel), rfl, rfl⟩
theorem d_X_film_88 : DG k_X_film 88 4 0 91 := ⟨12, (by decide +kernel), f_X_12, rfl⟩
theorem d_X_film_91 : DlI k_X_film 91 1 92 := Or.inl ⟨1, (by decide +kernel), rfl, rfl⟩
theorem d_X_film_92 : DlI k_X_film 92 8 94 := Or.inr ⟨(by decide +kernel), rfl⟩
theorem d_X_film_94 : DCV k_X_film 94 k_B_outLetter 0 2 97 := ⟨123, (by decide +kernel), rfl, tb_at 344 (by decide +kernel) (by decide +kernel), m_B_outLetter, iv_B_outLetter.1, iv_B_outLetter.2, ⟨(RX0, TX0, 13), rfl, rfl⟩, by decide +kernel, by decide⟩
theorem d_X_film_97 : DCV k_X_film 97 k_B_receiverOf 0 1 100 := ⟨95, (by decide +kernel), rfl, tb_at 309 (by decide +kernel) (by decide +kernel), m_B_receiverOf, iv_B_receiverOf.1, iv_B_receiverOf.2, ⟨(RX0, TX0, 13), rfl, rfl⟩, by decide +kernel, by decide⟩
theorem d_X_film_100 : Dk k_X_film 100 .i2l 1 101 := ⟨(by decide +kernel), rfl⟩
theorem d_X_film_101 : DCV k_X_film 101 k_H_put 2 2 104 := ⟨224, (by decide +kernel), rfl, tb_at 561 (by decide +kernel) (by decide +kernel), m_H_put, iv_H_put.1, iv_H_put.2, ⟨(RX2, TX2, 3), rfl, rfl⟩, by decide +kernel, by decide⟩
theorem d_X_film_104 : Dinc k_X_film 104 8 (1) 107 := ⟨(by decide +kernel), rfl, by decide⟩
theorem d_X_film_107 : Db k_X_film 107 .goto 110 69 := ⟨-38, (by decide +kernel), rfl, by decide⟩
theorem d_X_film_110 : DlI k_X_film 110 5 112 := Or.inr ⟨(by decide +kernel), rfl⟩
theorem d_X_film_112 : DrI k_X_film 112 := ⟨(by decide +kernel), rfl⟩
theorem d_X_sheet_0 : DlI k_X_sheet 0 1 1 := Or.inl ⟨1, (by decide +kernel), rfl, rfl⟩
theorem d_X_sheet_1 : DCS k_X_sheet 1 k_X_isSheet 1 4 := ⟨207, (by decide +kernel), rfl, Or.inl (tb_at 519 (by decide +kernel) (by decide +kernel)), m_X_isSheet, is_X_isSheet, by decide +kernel, by decide⟩
theorem d_X_sheet_4 : Db k_X_sheet 4 (.ifCond .eq) 7 20 := ⟨16, (by decide +kernel), rfl, by decide⟩
theorem d_X_sheet_7 : DlI k_X_sheet 7 2 8 := Or.inl ⟨2, (by decide +kernel), rfl, rfl⟩
theorem d_X_sheet_8 : DCS k_X_sheet 8 k_X_isLane 1 11 := ⟨210, (by decide +kernel), rfl, Or.inl (tb_at 522 (by decide +kernel) (by decide +kernel)), m_X_isLane, is_X_isLane, by decide +kernel, by decide⟩
theorem d_X_sheet_11 : Db k_X_sheet 11 (.ifCond .eq) 14 20 := ⟨9, (by decide +kernel), rfl, by decide⟩
theorem d_X_sheet_14 : DlI k_X_sheet 14 3 15 := Or.inl ⟨3, (by decide +kernel), rfl, rfl⟩
theorem d_X_sheet_15 : Dc k_X_sheet 15 (24) 17 := Or.inr (Or.inl ⟨(by decide +kernel), by decide, rfl⟩)
theorem d_X_sheet_17 : Db k_X_sheet 17 (.if_icmp .le) 20 22 := ⟨5, (by decide +kernel), rfl, by decide⟩
theorem d_X_sheet_20 : Dc k_X_sheet 20 (-1) 21 := Or.inl ⟨(by decide +kernel), rfl⟩
theorem d_X_sheet_21 : DrI k_X_sheet 21 := ⟨(by decide +kernel), rfl⟩
theorem d_X_sheet_22 : DlI k_X_sheet 22 3 23 := Or.inl ⟨3, (by decide +kernel), rfl, rfl⟩
theorem d_X_sheet_23 : Db k_X_sheet 23 (.ifCond .ge) 26 29 := ⟨6, (by decide +kernel), rfl, by decide⟩
theorem d_X_sheet_26 : Dc k_X_sheet 26 (-14) 28 := Or.inr (Or.inl ⟨(by decide +kernel), by decide, rfl⟩)
theorem d_X_sheet_28 : DrI k_X_sheet 28 := ⟨(by decide +kernel), rfl⟩
theorem d_X_sheet_29 : DlA k_X_sheet 29 0 30 := Or.inl ⟨0, (by decide +kernel), rfl, rfl⟩
theorem d_X_sheet_30 : DG k_X_sheet 30 4 6 33 := ⟨42, (by decide +kernel), f_X_42, rfl⟩
theorem d_X_sheet_33 : DlI k_X_sheet 33 1 34 := Or.inl ⟨1, (by decide +kernel), rfl, rfl⟩
theorem d_X_sheet_34 : Dk k_X_sheet 34 .aaload 1 35 := ⟨(by decide +kernel), rfl⟩
theorem d_X_sheet_35 : DlI k_X_sheet 35 2 36 := Or.inl ⟨2, (by decide +kernel), rfl, rfl⟩
theorem d_X_sheet_36 : DlI k_X_sheet 36 3 37 := Or.inl ⟨3, (by decide +kernel), rfl, rfl⟩
theorem d_X_sheet_37 : DCV k_X_sheet 37 k_H_renew 2 2 40 := ⟨228, (by decide +kernel), rfl, tb_at 569 (by decide +kernel) (by decide +kernel), m_H_renew, iv_H_renew.1, iv_H_renew.2, ⟨(RX2, TX2, 3), rfl, rfl⟩, by decide +kernel, by decide⟩
theorem d_X_sheet_40 : DlI k_X_sheet 40 3 41 := Or.inl ⟨3, (by decide +kernel), rfl, rfl⟩
theorem d_X_sheet_41 : DrI k_X_sheet 41 := ⟨(by decide +kernel), rfl⟩
theorem d_X_drop_0 : DlI k_X_drop 0 1 1 := Or.inl ⟨1, (by decide +kernel), rfl, rfl⟩
theorem d_X_drop_1 : DCS k_X_drop 1 k_X_isSheet 1 4 := ⟨207, (by decide +kernel), rfl, Or.inl (tb_at 519 (by decide +kernel) (by decide +kernel)), m_X_isSheet, is_X_isSheet, by decide +kernel, by decide⟩
theorem d_X_drop_4 : Db k_X_drop 4 (.ifCond .ne) 7 9 := ⟨5, (by decide +kernel), rfl, by decide⟩
theorem d_X_drop_7 : Dc k_X_drop 7 (-1) 8 := Or.inl ⟨(by decide +kernel), rfl⟩
theorem d_X_drop_8 : DrI k_X_drop 8 := ⟨(by decide +kernel), rfl⟩
theorem d_X_drop_9 : DlA k_X_drop 9 0 10 := Or.inl ⟨0, (by decide +kernel), rfl, rfl⟩
theorem d_X_drop_10 : DG k_X_drop 10 4 6 13 := ⟨42, (by decide +kernel), f_X_42, rfl⟩
theorem d_X_drop_13 : DlI k_X_drop 13 1 14 := Or.inl ⟨1, (by decide +kernel), rfl, rfl⟩
theorem d_X_drop_14 : Dk k_X_drop 14 .aaload 1 15 := ⟨(by decide +kernel), rfl⟩
theorem d_X_drop_15 : DsA k_X_drop 15 2 16 := ⟨Or.inl ⟨2, (by decide +kernel), rfl, rfl⟩, by decide⟩
theorem d_X_drop_16 : DlA k_X_drop 16 2 17 := Or.inl ⟨2, (by decide +kernel), rfl, rfl⟩
theorem d_X_drop_17 : DCV k_X_drop 17 k_H_isMissing 2 0 20 := ⟨232, (by decide +kernel), rfl, tb_at 580 (by decide +kernel) (by decide +kernel), m_H_isMissing, iv_H_isMissing.1, iv_H_isMissing.2, ⟨(RX2, TX2, 3), rfl, rfl⟩, by decide +kernel, by decide⟩
theorem d_X_drop_20 : Db k_X_drop 20 (.ifCond .eq) 23 26 := ⟨6, (by decide +kernel), rfl, by decide⟩
theorem d_X_drop_23 : Dc k_X_drop 23 (-11) 25 := Or.inr (Or.inl ⟨(by decide +kernel), by decide, rfl⟩)
theorem d_X_drop_25 : DrI k_X_drop 25 := ⟨(by decide +kernel), rfl⟩
theorem d_X_drop_26 : DlA k_X_drop 26 2 27 := Or.inl ⟨2, (by decide +kernel), rfl, rfl⟩
theorem d_X_drop_27 : DG k_X_drop 27 2 1 30 := ⟨235, (by decide +kernel), f_X_235, rfl⟩
theorem d_X_drop_30 : DsI k_X_drop 30 3 31 := ⟨Or.inl ⟨3, (by decide +kernel), rfl, rfl⟩, by decide⟩
theorem d_X_drop_31 : DlA k_X_drop 31 2 32 := Or.inl ⟨2, (by decide +kernel), rfl, rfl⟩
theorem d_X_drop_32 : Dc k_X_drop 32 (-1) 33 := Or.inl ⟨(by decide +kernel), rfl⟩
theorem d_X_drop_33 : Dc k_X_drop 33 (0) 34 := Or.inl ⟨(by decide +kernel), rfl⟩
theorem d_X_drop_34 : DCV k_X_drop 34 k_H_renew 2 2 37 := ⟨228, (by decide +kernel), rfl, tb_at 569 (by decide +kernel) (by decide +kernel), m_H_renew, iv_H_renew.1, iv_H_renew.2, ⟨(RX2, TX2, 3), rfl, rfl⟩, by decide +kernel, by decide⟩
theorem d_X_drop_37 : DlI k_X_drop 37 3 38 := Or.inl ⟨3, (by decide +kernel), rfl, rfl⟩
theorem d_X_drop_38 : DrI k_X_drop 38 := ⟨(by decide +kernel), rfl⟩
theorem d_X_item_0 : DlI k_X_item 0 1 1 := Or.inl ⟨1, (by decide +kernel), rfl, rfl⟩
theorem d_X_item_1 : DCS k_X_item 1 k_X_isSheet 1 4 := ⟨207, (by decide +kernel), rfl, Or.inl (tb_at 519 (by decide +kernel) (by decide +kernel)), m_X_isSheet, is_X_isSheet, by decide +kernel, by decide⟩
theorem d_X_item_4 : Db k_X_item 4 (.ifCond .eq) 7 14 := ⟨10, (by decide +kernel), rfl, by decide⟩
theorem d_X_item_7 : DlI k_X_item 7 2 8 := Or.inl ⟨2, (by decide +kernel), rfl, rfl⟩
theorem d_X_item_8 : DCS k_X_item 8 k_X_isLane 1 11 := ⟨210, (by decide +kernel), rfl, Or.inl (tb_at 522 (by decide +kernel) (by decide +kernel)), m_X_isLane, is_X_isLane, by decide +kernel, by decide⟩
theorem d_X_item_11 : Db k_X_item 11 (.ifCond .ne) 14 16 := ⟨5, (by decide +kernel), rfl, by decide⟩
theorem d_X_item_14 : Dc k_X_item 14 (-1) 15 := Or.inl ⟨(by decide +kernel), rfl⟩
theorem d_X_item_15 : DrI k_X_item 15 := ⟨(by decide +kernel), rfl⟩
theorem d_X_item_16 : DlA k_X_item 16 0 17 := Or.inl ⟨0, (by decide +kernel), rfl, rfl⟩
theorem d_X_item_17 : DG k_X_item 17 4 6 20 := ⟨42, (by decide +kernel), f_X_42, rfl⟩
theorem d_X_item_20 : DlI k_X_item 20 1 21 := Or.inl ⟨1, (by decide +kernel), rfl, rfl⟩
theorem d_X_item_21 : Dk k_X_item 21 .aaload 1 22 := ⟨(by decide +kernel), rfl⟩
theorem d_X_item_22 : DsA k_X_item 22 6 24 := ⟨Or.inr ⟨(by decide +kernel), rfl⟩, by decide⟩
theorem d_X_item_24 : DlA k_X_item 24 6 26 := Or.inr ⟨(by decide +kernel), rfl⟩
theorem d_X_item_26 : DlI k_X_item 26 2 27 := Or.inl ⟨2, (by decide +kernel), rfl, rfl⟩
theorem d_X_item_27 : DlI k_X_item 27 3 28 := Or.inl ⟨3, (by decide +kernel), rfl, rfl⟩
theorem d_X_item_28 : Dc k_X_item 28 (1) 29 := Or.inl ⟨(by decide +kernel), rfl⟩
theorem d_X_item_29 : DCV k_X_item 29 k_H_fault 2 3 32 := ⟨213, (by decide +kernel), rfl, tb_at 525 (by decide +kernel) (by decide +kernel), m_H_fault, iv_H_fault.1, iv_H_fault.2, ⟨(RX2, TX2, 3), rfl, rfl⟩, by decide +kernel, by decide⟩
theorem d_X_item_32 : DsI k_X_item 32 7 34 := ⟨Or.inr ⟨(by decide +kernel), rfl⟩, by decide⟩
theorem d_X_item_34 : DlI k_X_item 34 7 36 := Or.inr ⟨(by decide +kernel), rfl⟩
theorem d_X_item_36 : Db k_X_item 36 (.ifCond .eq) 39 42 := ⟨6, (by decide +kernel), rfl, by decide⟩
theorem d_X_item_39 : DlI k_X_item 39 7 41 := Or.inr ⟨(by decide +kernel), rfl⟩
theorem d_X_item_41 : DrI k_X_item 41 := ⟨(by decide +kernel), rfl⟩
theorem d_X_item_42 : DlA k_X_item 42 6 44 := Or.inr ⟨(by decide +kernel), rfl⟩
theorem d_X_item_44 : DlI k_X_item 44 3 45 := Or.inl ⟨3, (by decide +kernel), rfl, rfl⟩
theorem d_X_item_45 : DlL k_X_item 45 4 47 := Or.inr ⟨(by decide +kernel), rfl⟩
theorem d_X_item_47 : DCV k_X_item 47 k_H_put 2 2 50 := ⟨224, (by decide +kernel), rfl, tb_at 561 (by decide +kernel) (by decide +kernel), m_H_put, iv_H_put.1, iv_H_put.2, ⟨(RX2, TX2, 3), rfl, rfl⟩, by decide +kernel, by decide⟩
theorem d_X_item_50 : Dc k_X_item 50 (1) 51 := Or.inl ⟨(by decide +kernel), rfl⟩
theorem d_X_item_51 : DrI k_X_item 51 := ⟨(by decide +kernel), rfl⟩
theorem d_X_copy_0 : DlI k_X_copy 0 1 1 := Or.inl ⟨1, (by decide +kernel), rfl, rfl⟩
theorem d_X_copy_1 : DCS k_X_copy 1 k_X_isSheet 1 4 := ⟨207, (by decide +kernel), rfl, Or.inl (tb_at 519 (by decide +kernel) (by decide +kernel)), m_X_isSheet, is_X_isSheet, by decide +kernel, by decide⟩
theorem d_X_copy_4 : Db k_X_copy 4 (.ifCond .eq) 7 14 := ⟨10, (by decide +kernel), rfl, by decide⟩
theorem d_X_copy_7 : DlI k_X_copy 7 3 8 := Or.inl ⟨3, (by decide +kernel), rfl, rfl⟩
theorem d_X_copy_8 : DCS k_X_copy 8 k_X_isSheet 1 11 := ⟨207, (by decide +kernel), rfl, Or.inl (tb_at 519 (by decide +kernel) (by decide +kernel)), m_X_isSheet, is_X_isSheet, by decide +kernel, by decide⟩
theorem d_X_copy_11 : Db k_X_copy 11 (.ifCond .ne) 14 16 := ⟨5, (by decide +kernel), rfl, by decide⟩
theorem d_X_copy_14 : Dc k_X_copy 14 (-1) 15 := Or.inl ⟨(by decide +kernel), rfl⟩
theorem d_X_copy_15 : DrI k_X_copy 15 := ⟨(by decide +kernel), rfl⟩
theorem d_X_copy_16 : DlA k_X_copy 16 0 17 := Or.inl ⟨0, (by decide +kernel), rfl, rfl⟩
theorem d_X_copy_17 : DG k_X_copy 17 4 6 20 := ⟨42, (by decide +kernel), f_X_42, rfl⟩
theorem d_X_copy_20 : DlI k_X_copy 20 1 21 := Or.inl ⟨1, (by decide +kernel), rfl, rfl⟩
theorem d_X_copy_21 : Dk k_X_copy 21 .aaload 1 22 := ⟨(by decide +kernel), rfl⟩
theorem d_X_copy_22 : DsA k_X_copy 22 6 24 := ⟨Or.inr ⟨(by decide +kernel), rfl⟩, by decide⟩
theorem d_X_copy_24 : DlA k_X_copy 24 0 25 := Or.inl ⟨0, (by decide +kernel), rfl, rfl⟩
theorem d_X_copy_25 : DG k_X_copy 25 4 6 28 := ⟨42, (by decide +kernel), f_X_42, rfl⟩
theorem d_X_copy_28 : DlI k_X_copy 28 3 29 := Or.inl ⟨3, (by decide +kernel), rfl, rfl⟩
theorem d_X_copy_29 : Dk k_X_copy 29 .aaload 1 30 := ⟨(by decide +kernel), rfl⟩
theorem d_X_copy_30 : DsA k_X_copy 30 7 32 := ⟨Or.inr ⟨(by decide +kernel), rfl⟩, by decide⟩
theorem d_X_copy_32 : DlA k_X_copy 32 6 34 := Or.inr ⟨(by decide +kernel), rfl⟩
theorem d_X_copy_34 : DCV k_X_copy 34 k_H_isMissing 2 0 37 := ⟨232, (by decide +kernel), rfl, tb_at 580 (by decide +kernel) (by decide +kernel), m_H_isMissing, iv_H_isMissing.1, iv_H_isMissing.2, ⟨(RX2, TX2, 3), rfl, rfl⟩, by decide +kernel, by decide⟩
theorem d_X_copy_37 : Db k_X_copy 37 (.ifCond .ne) 40 48 := ⟨11, (by decide +kernel), rfl, by decide⟩
theorem d_X_copy_40 : DlA k_X_copy 40 7 42 := Or.inr ⟨(by decide +kernel), rfl⟩
theorem d_X_copy_42 : DCV k_X_copy 42 k_H_isMissing 2 0 45 := ⟨232, (by decide +kernel), rfl, tb_at 580 (by decide +kernel) (by decide +kernel), m_H_isMissing, iv_H_isMissing.1, iv_H_isMissing.2, ⟨(RX2, TX2, 3), rfl, rfl⟩, by decide +kernel, by decide⟩
theorem d_X_copy_45 : Db k_X_copy 45 (.ifCond .eq) 48 51 := ⟨6, (by decide +kernel), rfl, by decide⟩
theorem d_X_copy_48 : Dc k_X_copy 48 (-11) 50 := Or.inr (Or.inl ⟨(by decide +kernel), by decide, rfl⟩)
theorem d_X_copy_50 : DrI k_X_copy 50 := ⟨(by decide +kernel), rfl⟩
theorem d_X_copy_51 : DlA k_X_copy 51 6 53 := Or.inr ⟨(by decide +kernel), rfl⟩
theorem d_X_copy_53 : DG k_X_copy 53 2 0 56 := ⟨238, (by decide +kernel), f_X_238, rfl⟩
theorem d_X_copy_56 : DlA k_X_copy 56 7 58 := Or.inr ⟨(by decide +kernel), rfl⟩
theorem d_X_copy_58 : DG k_X_copy 58 2 0 61 := ⟨238, (by decide +kernel), f_X_238, rfl⟩
theorem d_X_copy_61 : Db k_X_copy 61 (.if_icmp .eq) 64 67 := ⟨6, (by decide +kernel), rfl, by decide⟩
theorem d_X_copy_64 : Dc k_X_copy 64 (-12) 66 := Or.inr (Or.inl ⟨(by decide +kernel), by decide, rfl⟩)
theorem d_X_copy_66 : DrI k_X_copy 66 := ⟨(by decide +kernel), rfl⟩
theorem d_X_copy_67 : DlA k_X_copy 67 6 69 := Or.inr ⟨(by decide +kernel), rfl⟩
theorem d_X_copy_69 : DlI k_X_copy 69 2 70 := Or.inl ⟨2, (by decide +kernel), rfl, rfl⟩
theorem d_X_copy_70 : DlI k_X_copy 70 5 72 := Or.inr ⟨(by decide +kernel), rfl⟩
theorem d_X_copy_72 : DCV k_X_copy 72 k_H_holds 2 2 75 := ⟨241, (by decide +kernel), rfl, tb_at 589 (by decide +kernel) (by decide +kernel), m_H_holds, iv_H_holds.1, iv_H_holds.2, ⟨(RX2, TX2, 3), rfl, rfl⟩, by decide +kernel, by decide⟩
theorem d_X_copy_75 : Db k_X_copy 75 (.ifCond .eq) 78 90 := ⟨15, (by decide +kernel), rfl, by decide⟩
theorem d_X_copy_78 : DlA k_X_copy 78 7 80 := Or.inr ⟨(by decide +kernel), rfl⟩
theorem d_X_copy_80 : DlI k_X_copy 80 4 82 := Or.inr ⟨(by decide +kernel), rfl⟩
theorem d_X_copy_82 : DlI k_X_copy 82 5 84 := Or.inr ⟨(by decide +kernel), rfl⟩
theorem d_X_copy_84 : DCV k_X_copy 84 k_H_holds 2 2 87 := ⟨241, (by decide +kernel), rfl, tb_at 589 (by decide +kernel) (by decide +kernel), m_H_holds, iv_H_holds.1, iv_H_holds.2, ⟨(RX2, TX2, 3), rfl, rfl⟩, by decide +kernel, by decide⟩
theorem d_X_copy_87 : Db k_X_copy 87 (.ifCond .ne) 90 93 := ⟨6, (by decide +kernel), rfl, by decide⟩
theorem d_X_copy_90 : Dc k_X_copy 90 (-13) 92 := Or.inr (Or.inl ⟨(by decide +kernel), by decide, rfl⟩)
theorem d_X_copy_92 : DrI k_X_copy 92 := ⟨(by decide +kernel), rfl⟩
theorem d_X_copy_93 : DlA k_X_copy 93 6 95 := Or.inr ⟨(by decide +kernel), rfl⟩
theorem d_X_copy_95 : DG k_X_copy 95 2 2 98 := ⟨244, (by decide +kernel), f_X_244, rfl⟩
theorem d_X_copy_98 : DlI k_X_copy 98 2 99 := Or.inl ⟨2, (by decide +kernel), rfl, rfl⟩
theorem d_X_copy_99 : DlA k_X_copy 99 7 101 := Or.inr ⟨(by decide +kernel), rfl⟩
theorem d_X_copy_101 : DG k_X_copy 101 2 2 104 := ⟨244, (by decide +kernel), f_X_244, rfl⟩
theorem d_X_copy_104 : DlI k_X_copy 104 4 106 := Or.inr ⟨(by decide +kernel), rfl⟩
theorem d_X_copy_106 : DlI k_X_copy 106 5 108 := Or.inr ⟨(by decide +kernel), rfl⟩
theorem d_X_copy_108 : DAC k_X_copy 108 111 := ⟨248, (by decide +kernel), rfl, tb_at 590 (by decide +kernel) (by decide +kernel), by decide⟩
theorem d_X_copy_111 : DlI k_X_copy 111 5 113 := Or.inr ⟨(by decide +kernel), rfl⟩
theorem d_X_copy_113 : DrI k_X_copy 113 := ⟨(by decide +kernel), rfl⟩
theorem d_X_within_0 : DlI k_X_within 0 0 1 := Or.inl ⟨0, (by decide +kernel), rfl, rfl⟩
theorem d_X_within_1 : DlI k_X_within 1 1 2 := Or.inl ⟨1, (by decide +kernel), rfl, rfl⟩
theorem d_X_within_2 : Db k_X_within 2 (.if_icmp .lt) 5 14 := ⟨12, (by decide +kernel), rfl, by decide⟩
theorem d_X_within_5 : DlI k_X_within 5 0 6 := Or.inl ⟨0, (by decide +kernel), rfl, rfl⟩
theorem d_X_within_6 : DlI k_X_within 6 2 7 := Or.inl ⟨2, (by decide +kernel), rfl, rfl⟩
theorem d_X_within_7 : Db k_X_within 7 (.if_icmp .gt) 10 14 := ⟨7, (by decide +kernel), rfl, by decide⟩
theorem d_X_within_10 : Dc k_X_within 10 (1) 11 := Or.inl ⟨(by decide +kernel), rfl⟩
theorem d_X_within_11 : Db k_X_within 11 .goto 14 15 := ⟨4, (by decide +kernel), rfl, by decide⟩
theorem d_X_within_14 : Dc k_X_within 14 (0) 15 := Or.inl ⟨(by decide +kernel), rfl⟩
theorem d_X_within_15 : DrZ k_X_within 15 := ⟨(by decide +kernel), rfl⟩
theorem d_X_isPart_0 : DlI k_X_isPart 0 0 1 := Or.inl ⟨0, (by decide +kernel), rfl, rfl⟩
theorem d_X_isPart_1 : Db k_X_isPart 1 (.ifCond .eq) 4 9 := ⟨8, (by decide +kernel), rfl, by decide⟩
theorem d_X_isPart_4 : DlI k_X_isPart 4 0 5 := Or.inl ⟨0, (by decide +kernel), rfl, rfl⟩
theorem d_X_isPart_5 : Dc k_X_isPart 5 (1) 6 := Or.inl ⟨(by decide +kernel), rfl⟩
theorem d_X_isPart_6 : Db k_X_isPart 6 (.if_icmp .ne) 9 13 := ⟨7, (by decide +kernel), rfl, by decide⟩
theorem d_X_isPart_9 : Dc k_X_isPart 9 (1) 10 := Or.inl ⟨(by decide +kernel), rfl⟩
theorem d_X_isPart_10 : Db k_X_isPart 10 .goto 13 14 := ⟨4, (by decide +kernel), rfl, by decide⟩
theorem d_X_isPart_13 : Dc k_X_isPart 13 (0) 14 := Or.inl ⟨(by decide +kernel), rfl⟩
theorem d_X_isPart_14 : DrZ k_X_isPart 14 := ⟨(by decide +kernel), rfl⟩
theorem d_X_isSheet_0 : DlI k_X_isSheet 0 0 1 := Or.inl ⟨0, (by decide +kernel), rfl, rfl⟩
theorem d_X_isSheet_1 : Dc k_X_isSheet 1 (0) 2 := Or.inl ⟨(by decide +kernel), rfl⟩
theorem d_X_isSheet_2 : Dc k_X_isSheet 2 (3) 3 := Or.inl ⟨(by decide +kernel), rfl⟩
theorem d_X_isSheet_3 : DCS k_X_isSheet 3 k_X_within 3 6 := ⟨47, (by decide +kernel), rfl, Or.inl (tb_at 220 (by decide +kernel) (by decide +kernel)), m_X_within, is_X_within, by decide +kernel, by decide⟩
theorem d_X_isSheet_6 : DrZ k_X_isSheet 6 := ⟨(by decide +kernel), rfl⟩
theorem d_X_isLane_0 : DlI k_X_isLane 0 0 1 := Or.inl ⟨0, (by decide +kernel), rfl, rfl⟩
theorem d_X_isLane_1 : Dc k_X_isLane 1 (0) 2 := Or.inl ⟨(by decide +kernel), rfl⟩
theorem d_X_isLane_2 : Dc k_X_isLane 2 (3) 3 := Or.inl ⟨(by decide +kernel), rfl⟩
theorem d_X_isLane_3 : DCS k_X_isLane 3 k_X_within 3 6 := ⟨47, (by decide +kernel), rfl, Or.inl (tb_at 220 (by decide +kernel) (by decide +kernel)), m_X_within, is_X_within, by decide +kernel, by decide⟩
theorem d_X_isLane_6 : DrZ k_X_isLane 6 := ⟨(by decide +kernel), rfl⟩
theorem d_X_lowest_0 : DlL k_X_lowest 0 0 1 := Or.inl ⟨0, (by decide +kernel), rfl, rfl⟩
theorem d_X_lowest_1 : DcL k_X_lowest 1 0 2 := Or.inl ⟨0, (by decide +kernel), by decide, rfl⟩
theorem d_X_lowest_2 : Dk k_X_lowest 2 .lcmp 1 3 := ⟨(by decide +kernel), rfl⟩
theorem d_X_lowest_3 : Db k_X_lowest 3 (.ifCond .le) 6 12 := ⟨9, (by decide +kernel), rfl, by decide⟩
theorem d_X_lowest_6 : DlL k_X_lowest 6 2 7 := Or.inl ⟨2, (by decide +kernel), rfl, rfl⟩
theorem d_X_lowest_7 : DcL k_X_lowest 7 0 8 := Or.inl ⟨0, (by decide +kernel), by decide, rfl⟩
theorem d_X_lowest_8 : Dk k_X_lowest 8 .lcmp 1 9 := ⟨(by decide +kernel), rfl⟩
theorem d_X_lowest_9 : Db k_X_lowest 9 (.ifCond .gt) 12 23 := ⟨14, (by decide +kernel), rfl, by decide⟩
theorem d_X_lowest_12 : DlI k_X_lowest 12 4 14 := Or.inr ⟨(by decide +kernel), rfl⟩
theorem d_X_lowest_14 : Db k_X_lowest 14 (.ifCond .ne) 17 21 := ⟨7, (by decide +kernel), rfl, by decide⟩
theorem d_X_lowest_17 : DcL k_X_lowest 17 0 18 := Or.inl ⟨0, (by decide +kernel), by decide, rfl⟩
theorem d_X_lowest_18 : Db k_X_lowest 18 .goto 21 22 := ⟨4, (by decide +kernel), rfl, by decide⟩
theorem d_X_lowest_21 : DcL k_X_lowest 21 1 22 := Or.inl ⟨1, (by decide +kernel), by decide, rfl⟩
theorem d_X_lowest_22 : DrL k_X_lowest 22 := ⟨(by decide +kernel), rfl⟩
theorem d_X_lowest_23 : DlL k_X_lowest 23 0 24 := Or.inl ⟨0, (by decide +kernel), rfl, rfl⟩
theorem d_X_lowest_24 : DlL k_X_lowest 24 2 25 := Or.inl ⟨2, (by decide +kernel), rfl, rfl⟩
theorem d_X_lowest_25 : DCS k_X_lowest 25 k_X_greatestDivisor 2 28 := ⟨254, (by decide +kernel), rfl, Or.inl (tb_at 399 (by decide +kernel) (by decide +kernel)), m_X_greatestDivisor, is_X_greatestDivisor, by decide +kernel, by decide⟩
theorem d_X_lowest_28 : DsL k_X_lowest 28 5 30 := ⟨Or.inr ⟨(by decide +kernel), rfl⟩, by decide⟩
theorem d_X_lowest_30 : DlI k_X_lowest 30 4 32 := Or.inr ⟨(by decide +kernel), rfl⟩
theorem d_X_lowest_32 : Db k_X_lowest 32 (.ifCond .ne) 35 39 := ⟨7, (by decide +kernel), rfl, by decide⟩
theorem d_X_lowest_35 : DlL k_X_lowest 35 0 36 := Or.inl ⟨0, (by decide +kernel), rfl, rfl⟩
theorem d_X_lowest_36 : Db k_X_lowest 36 .goto 39 40 := ⟨4, (by decide +kernel), rfl, by decide⟩
theorem d_X_lowest_39 : DlL k_X_lowest 39 2 40 := Or.inl ⟨2, (by decide +kernel), rfl, rfl⟩
theorem d_X_lowest_40 : DsL k_X_lowest 40 7 42 := ⟨Or.inr ⟨(by decide +kernel), rfl⟩, by decide⟩
theorem d_X_lowest_42 : DlL k_X_lowest 42 5 44 := Or.inr ⟨(by decide +kernel), rfl⟩
theorem d_X_lowest_44 : DcL k_X_lowest 44 0 45 := Or.inl ⟨0, (by decide +kernel), by decide, rfl⟩
theorem d_X_lowest_45 : Dk k_X_lowest 45 .lcmp 1 46 := ⟨(by decide +kernel), rfl⟩
theorem d_X_lowest_46 : Db k_X_lowest 46 (.ifCond .le) 49 57 := ⟨11, (by decide +kernel), rfl, by decide⟩
theorem d_X_lowest_49 : DlL k_X_lowest 49 7 51 := Or.inr ⟨(by decide +kernel), rfl⟩
theorem d_X_lowest_51 : DlL k_X_lowest 51 5 53 := Or.inr ⟨(by decide +kernel), rfl⟩
theorem d_X_lowest_53 : Dk k_X_lowest 53 .ldiv 1 54 := ⟨(by decide +kernel), rfl⟩
theorem d_X_lowest_54 : Db k_X_lowest 54 .goto 57 59 := ⟨5, (by decide +kernel), rfl, by decide⟩
theorem d_X_lowest_57 : DlL k_X_lowest 57 7 59 := Or.inr ⟨(by decide +kernel), rfl⟩
theorem d_X_lowest_59 : DrL k_X_lowest 59 := ⟨(by decide +kernel), rfl⟩
theorem d_X_greatestDivisor_0 : DlL k_X_greatestDivisor 0 0 1 := Or.inl ⟨0, (by decide +kernel), rfl, rfl⟩
theorem d_X_greatestDivisor_1 : DsL k_X_greatestDivisor 1 4 3 := ⟨Or.inr ⟨(by decide +kernel), rfl⟩, by decide⟩
theorem d_X_greatestDivisor_3 : DlL k_X_greatestDivisor 3 2 4 := Or.inl ⟨2, (by decide +kernel), rfl, rfl⟩
theorem d_X_greatestDivisor_4 : DsL k_X_greatestDivisor 4 6 6 := ⟨Or.inr ⟨(by decide +kernel), rfl⟩, by decide⟩
theorem d_X_greatestDivisor_6 : Dc k_X_greatestDivisor 6 (0) 7 := Or.inl ⟨(by decide +kernel), rfl⟩
theorem d_X_greatestDivisor_7 : DsI k_X_greatestDivisor 7 8 9 := ⟨Or.inr ⟨(by decide +kernel), rfl⟩, by decide⟩
theorem d_X_greatestDivisor_9 : DlI k_X_greatestDivisor 9 8 11 := Or.inr ⟨(by decide +kernel), rfl⟩
theorem d_X_greatestDivisor_11 : Dc k_X_greatestDivisor 11 (100) 13 := Or.inr (Or.inl ⟨(by decide +kernel), by decide, rfl⟩)
theorem d_X_greatestDivisor_13 : Db k_X_greatestDivisor 13 (.if_icmp .ge) 16 44 := ⟨31, (by decide +kernel), rfl, by decide⟩
theorem d_X_greatestDivisor_16 : DlL k_X_greatestDivisor 16 6 18 := Or.inr ⟨(by decide +kernel), rfl⟩
theorem d_X_greatestDivisor_18 : DcL k_X_greatestDivisor 18 0 19 := Or.inl ⟨0, (by decide +kernel), by decide, rfl⟩
theorem d_X_greatestDivisor_19 : Dk k_X_greatestDivisor 19 .lcmp 1 20 := ⟨(by decide +kernel), rfl⟩
theorem d_X_greatestDivisor_20 : Db k_X_greatestDivisor 20 (.ifCond .eq) 23 44 := ⟨24, (by decide +kernel), rfl, by decide⟩
theorem d_X_greatestDivisor_23 : DlL k_X_greatestDivisor 23 4 25 := Or.inr ⟨(by decide +kernel), rfl⟩
theorem d_X_greatestDivisor_25 : DlL k_X_greatestDivisor 25 6 27 := Or.inr ⟨(by decide +kernel), rfl⟩
theorem d_X_greatestDivisor_27 : Dk k_X_greatestDivisor 27 .lrem 1 28 := ⟨(by decide +kernel), rfl⟩
theorem d_X_greatestDivisor_28 : DsL k_X_greatestDivisor 28 9 30 := ⟨Or.inr ⟨(by decide +kernel), rfl⟩, by decide⟩
theorem d_X_greatestDivisor_30 : DlL k_X_greatestDivisor 30 6 32 := Or.inr ⟨(by decide +kernel), rfl⟩
theorem d_X_greatestDivisor_32 : DsL k_X_greatestDivisor 32 4 34 := ⟨Or.inr ⟨(by decide +kernel), rfl⟩, by decide⟩
theorem d_X_greatestDivisor_34 : DlL k_X_greatestDivisor 34 9 36 := Or.inr ⟨(by decide +kernel), rfl⟩
theorem d_X_greatestDivisor_36 : DsL k_X_greatestDivisor 36 6 38 := ⟨Or.inr ⟨(by decide +kernel), rfl⟩, by decide⟩
theorem d_X_greatestDivisor_38 : Dinc k_X_greatestDivisor 38 8 (1) 41 := ⟨(by decide +kernel), rfl, by decide⟩
theorem d_X_greatestDivisor_41 : Db k_X_greatestDivisor 41 .goto 44 9 := ⟨-32, (by decide +kernel), rfl, by decide⟩
theorem d_X_greatestDivisor_44 : DlL k_X_greatestDivisor 44 4 46 := Or.inr ⟨(by decide +kernel), rfl⟩
theorem d_X_greatestDivisor_46 : DrL k_X_greatestDivisor 46 := ⟨(by decide +kernel), rfl⟩
theorem d_X_play_0 : DlI k_X_play 0 1 1 := Or.inl ⟨1, (by decide +kernel), rfl, rfl⟩
theorem d_X_play_1 : Dc k_X_play 1 (0) 2 := Or.inl ⟨(by decide +kernel), rfl⟩
theorem d_X_play_2 : Dc k_X_play 2 (89) 4 := Or.inr (Or.inl ⟨(by decide +kernel), by decide, rfl⟩)
theorem d_X_play_4 : DCS k_X_play 4 k_X_within 3 7 := ⟨47, (by decide +kernel), rfl, Or.inl (tb_at 220 (by decide +kernel) (by decide +kernel)), m_X_within, is_X_within, by decide +kernel, by decide⟩
theorem d_X_play_7 : Db k_X_play 7 (.ifCond .ne) 10 12 := ⟨5, (by decide +kernel), rfl, by decide⟩
theorem d_X_play_10 : Dc k_X_play 10 (0) 11 := Or.inl ⟨(by decide +kernel), rfl⟩
theorem d_X_play_11 : DrZ k_X_play 11 := ⟨(by decide +kernel), rfl⟩
theorem d_X_play_12 : DlA k_X_play 12 0 13 := Or.inl ⟨0, (by decide +kernel), rfl, rfl⟩
theorem d_X_play_13 : DG k_X_play 13 4 5 16 := ⟨36, (by decide +kernel), f_X_36, rfl⟩
theorem d_X_play_16 : DG k_X_play 16 3 2 19 := ⟨258, (by decide +kernel), f_X_258, rfl⟩
theorem d_X_play_19 : DlI k_X_play 19 1 20 := Or.inl ⟨1, (by decide +kernel), rfl, rfl⟩
theorem d_X_play_20 : Dk k_X_play 20 .iaload 1 21 := ⟨(by decide +kernel), rfl⟩
theorem d_X_play_21 : DsI k_X_play 21 2 22 := ⟨Or.inl ⟨2, (by decide +kernel), rfl, rfl⟩, by decide⟩
theorem d_X_play_22 : DlI k_X_play 22 2 23 := Or.inl ⟨2, (by decide +kernel), rfl, rfl⟩
theorem d_X_play_23 : Dc k_X_play 23 (-1) 24 := Or.inl ⟨(by decide +kernel), rfl⟩
theorem d_X_play_24 : Db k_X_play 24 (.if_icmp .ne) 27 34 := ⟨10, (by decide +kernel), rfl, by decide⟩
theorem d_X_play_27 : DlA k_X_play 27 0 28 := Or.inl ⟨0, (by decide +kernel), rfl, rfl⟩
theorem d_X_play_28 : DCV k_X_play 28 k_X_tickIfHeard 4 0 31 := ⟨261, (by decide +kernel), rfl, tb_at 473 (by decide +kernel) (by decide +kernel), m_X_tickIfHeard, iv_X_tickIfHeard.1, iv_X_tickIfHeard.2, ⟨(RX5, TX5, 7), rfl, rfl⟩, by decide +kernel, by decide⟩
theorem d_X_play_31 : Db k_X_play 31 .goto 34 48 := ⟨17, (by decide +kernel), rfl, by decide⟩
theorem d_X_play_34 : DlA k_X_play 34 0 35 := Or.inl ⟨0, (by decide +kernel), rfl, rfl⟩
theorem d_X_play_35 : DlI k_X_play 35 2 36 := Or.inl ⟨2, (by decide +kernel), rfl, rfl⟩
theorem d_X_play_36 : DlA k_X_play 36 0 37 := Or.inl ⟨0, (by decide +kernel), rfl, rfl⟩
theorem d_X_play_37 : DG k_X_play 37 4 5 40 := ⟨36, (by decide +kernel), f_X_36, rfl⟩
theorem d_X_play_40 : DG k_X_play 40 3 3 43 := ⟨264, (by decide +kernel), f_X_264, rfl⟩
theorem d_X_play_43 : DlI k_X_play 43 1 44 := Or.inl ⟨1, (by decide +kernel), rfl, rfl⟩
theorem d_X_play_44 : Dk k_X_play 44 .iaload 1 45 := ⟨(by decide +kernel), rfl⟩
theorem d_X_play_45 : DCV k_X_play 45 k_X_takeIfRoom 4 2 48 := ⟨267, (by decide +kernel), rfl, tb_at 477 (by decide +kernel) (by decide +kernel), m_X_takeIfRoom, iv_X_takeIfRoom.1, iv_X_takeIfRoom.2, ⟨(RX5, TX5, 7), rfl, rfl⟩, by decide +kernel, by decide⟩
theorem d_X_play_48 : DrZ k_X_play 48 := ⟨(by decide +kernel), rfl⟩
theorem d_X_tickIfHeard_0 : DlA k_X_tickIfHeard 0 0 1 := Or.inl ⟨0, (by decide +kernel), rfl, rfl⟩
theorem d_X_tickIfHeard_1 : DG k_X_tickIfHeard 1 4 0 4 := ⟨12, (by decide +kernel), f_X_12, rfl⟩
theorem d_X_tickIfHeard_4 : DCV k_X_tickIfHeard 4 k_B_isFull 0 0 7 := ⟨63, (by decide +kernel), rfl, tb_at 279 (by decide +kernel) (by decide +kernel), m_B_isFull, iv_B_isFull.1, iv_B_isFull.2, ⟨(RX0, TX0, 13), rfl, rfl⟩, by decide +kernel, by decide⟩
theorem d_X_tickIfHeard_7 : Db k_X_tickIfHeard 7 (.ifCond .eq) 10 12 := ⟨5, (by decide +kernel), rfl, by decide⟩
theorem d_X_tickIfHeard_10 : Dc k_X_tickIfHeard 10 (0) 11 := Or.inl ⟨(by decide +kernel), rfl⟩
theorem d_X_tickIfHeard_11 : DrZ k_X_tickIfHeard 11 := ⟨(by decide +kernel), rfl⟩
theorem d_X_tickIfHeard_12 : DlA k_X_tickIfHeard 12 0 13 := Or.inl ⟨0, (by decide +kernel), rfl, rfl⟩
theorem d_X_tickIfHeard_13 : DG k_X_tickIfHeard 13 4 0 16 := ⟨12, (by decide +kernel), f_X_12, rfl⟩
theorem d_X_tickIfHeard_16 : DCV k_X_tickIfHeard 16 k_B_hearTick 0 0 19 := ⟨66, (by decide +kernel), rfl, tb_at 280 (by decide +kernel) (by decide +kernel), m_B_hearTick, iv_B_hearTick.1, iv_B_hearTick.2, ⟨(RX0, TX0, 13), rfl, rfl⟩, by decide +kernel, by decide⟩
theorem d_X_tickIfHeard_19 : Dk k_X_tickIfHeard 19 .pop 1 20 := ⟨(by decide +kernel), rfl⟩
theorem d_X_tickIfHeard_20 : Dc k_X_tickIfHeard 20 (1) 21 := Or.inl ⟨(by decide +kernel), rfl⟩
theorem d_X_tickIfHeard_21 : DrZ k_X_tickIfHeard 21 := ⟨(by decide +kernel), rfl⟩
theorem d_X_takeIfRoom_0 : DlA k_X_takeIfRoom 0 0 1 := Or.inl ⟨0, (by decide +kernel), rfl, rfl⟩
theorem d_X_takeIfRoom_1 : DG k_X_takeIfRoom 1 4 0 4 := ⟨12, (by decide +kernel), f_X_12, rfl⟩
theorem d_X_takeIfRoom_4 : DCV k_X_takeIfRoom 4 k_B_takesLetter 0 0 7 := ⟨51, (by decide +kernel), rfl, tb_at 223 (by decide +kernel) (by decide +kernel), m_B_takesLetter, iv_B_takesLetter.1, iv_B_takesLetter.2, ⟨(RX0, TX0, 13), rfl, rfl⟩, by decide +kernel, by decide⟩
theorem d_X_takeIfRoom_7 : Db k_X_takeIfRoom 7 (.ifCond .ne) 10 12 := ⟨5, (by decide +kernel), rfl, by decide⟩
theorem d_X_takeIfRoom_10 : Dc k_X_takeIfRoom 10 (0) 11 := Or.inl ⟨(by decide +kernel), rfl⟩
theorem d_X_takeIfRoom_11 : DrZ k_X_takeIfRoom 11 := ⟨(by decide +kernel), rfl⟩
theorem d_X_takeIfRoom_12 : DlA k_X_takeIfRoom 12 0 13 := Or.inl ⟨0, (by decide +kernel), rfl, rfl⟩
theorem d_X_takeIfRoom_13 : DG k_X_takeIfRoom 13 4 0 16 := ⟨12, (by decide +kernel), f_X_12, rfl⟩
theorem d_X_takeIfRoom_16 : DlI k_X_takeIfRoom 16 1 17 := Or.inl ⟨1, (by decide +kernel), rfl, rfl⟩
theorem d_X_takeIfRoom_17 : DlI k_X_takeIfRoom 17 2 18 := Or.inl ⟨2, (by decide +kernel), rfl, rfl⟩
theorem d_X_takeIfRoom_18 : DCV k_X_takeIfRoom 18 k_B_takeLetter 0 2 21 := ⟨59, (by decide +kernel), rfl, tb_at 242 (by decide +kernel) (by decide +kernel), m_B_takeLetter, iv_B_takeLetter.1, iv_B_takeLetter.2, ⟨(RX0, TX0, 13), rfl, rfl⟩, by decide +kernel, by decide⟩
theorem d_X_takeIfRoom_21 : Dk k_X_takeIfRoom 21 .pop 1 22 := ⟨(by decide +kernel), rfl⟩
theorem d_X_takeIfRoom_22 : Dc k_X_takeIfRoom 22 (1) 23 := Or.inl ⟨(by decide +kernel), rfl⟩
theorem d_X_takeIfRoom_23 : DrZ k_X_takeIfRoom 23 := ⟨(by decide +kernel), rfl⟩
theorem d_X_driftOnce_0 : DlA k_X_driftOnce 0 0 1 := Or.inl ⟨0, (by decide +kernel), rfl, rfl⟩
theorem d_X_driftOnce_1 : DG k_X_driftOnce 1 4 0 4 := ⟨12, (by decide +kernel), f_X_12, rfl⟩
theorem d_X_driftOnce_4 : DCV k_X_driftOnce 4 k_B_nextDraw 0 0 7 := ⟨270, (by decide +kernel), rfl, tb_at 489 (by decide +kernel) (by decide +kernel), m_B_nextDraw, iv_B_nextDraw.1, iv_B_nextDraw.2, ⟨(RX0, TX0, 13), rfl, rfl⟩, by decide +kernel, by decide⟩
theorem d_X_driftOnce_7 : DsI k_X_driftOnce 7 1 8 := ⟨Or.inl ⟨1, (by decide +kernel), rfl, rfl⟩, by decide⟩
theorem d_X_driftOnce_8 : DlI k_X_driftOnce 8 1 9 := Or.inl ⟨1, (by decide +kernel), rfl, rfl⟩
theorem d_X_driftOnce_9 : Dc k_X_driftOnce 9 (8) 11 := Or.inr (Or.inl ⟨(by decide +kernel), by decide, rfl⟩)
theorem d_X_driftOnce_11 : Dk k_X_driftOnce 11 .irem 1 12 := ⟨(by decide +kernel), rfl⟩
theorem d_X_driftOnce_12 : Db k_X_driftOnce 12 (.ifCond .ne) 15 23 := ⟨11, (by decide +kernel), rfl, by decide⟩
theorem d_X_driftOnce_15 : DlA k_X_driftOnce 15 0 16 := Or.inl ⟨0, (by decide +kernel), rfl, rfl⟩
theorem d_X_driftOnce_16 : DCV k_X_driftOnce 16 k_X_tickIfHeard 4 0 19 := ⟨261, (by decide +kernel), rfl, tb_at 473 (by decide +kernel) (by decide +kernel), m_X_tickIfHeard, iv_X_tickIfHeard.1, iv_X_tickIfHeard.2, ⟨(RX5, TX5, 7), rfl, rfl⟩, by decide +kernel, by decide⟩
theorem d_X_driftOnce_19 : Dk k_X_driftOnce 19 .pop 1 20 := ⟨(by decide +kernel), rfl⟩
theorem d_X_driftOnce_20 : Db k_X_driftOnce 20 .goto 23 42 := ⟨22, (by decide +kernel), rfl, by decide⟩
theorem d_X_driftOnce_23 : DlA k_X_driftOnce 23 0 24 := Or.inl ⟨0, (by decide +kernel), rfl, rfl⟩
theorem d_X_driftOnce_24 : DlI k_X_driftOnce 24 1 25 := Or.inl ⟨1, (by decide +kernel), rfl, rfl⟩
theorem d_X_driftOnce_25 : Dc k_X_driftOnce 25 (8) 27 := Or.inr (Or.inl ⟨(by decide +kernel), by decide, rfl⟩)
theorem d_X_driftOnce_27 : Dk k_X_driftOnce 27 .idiv 1 28 := ⟨(by decide +kernel), rfl⟩
theorem d_X_driftOnce_28 : Dc k_X_driftOnce 28 (8) 30 := Or.inr (Or.inl ⟨(by decide +kernel), by decide, rfl⟩)
theorem d_X_driftOnce_30 : Dk k_X_driftOnce 30 .irem 1 31 := ⟨(by decide +kernel), rfl⟩
theorem d_X_driftOnce_31 : DlI k_X_driftOnce 31 1 32 := Or.inl ⟨1, (by decide +kernel), rfl, rfl⟩
theorem d_X_driftOnce_32 : Dc k_X_driftOnce 32 (64) 34 := Or.inr (Or.inl ⟨(by decide +kernel), by decide, rfl⟩)
theorem d_X_driftOnce_34 : Dk k_X_driftOnce 34 .idiv 1 35 := ⟨(by decide +kernel), rfl⟩
theorem d_X_driftOnce_35 : Dc k_X_driftOnce 35 (8) 37 := Or.inr (Or.inl ⟨(by decide +kernel), by decide, rfl⟩)
theorem d_X_driftOnce_37 : Dk k_X_driftOnce 37 .irem 1 38 := ⟨(by decide +kernel), rfl⟩
theorem d_X_driftOnce_38 : DCV k_X_driftOnce 38 k_X_takeIfRoom 4 2 41 := ⟨267, (by decide +kernel), rfl, tb_at 477 (by decide +kernel) (by decide +kernel), m_X_takeIfRoom, iv_X_takeIfRoom.1, iv_X_takeIfRoom.2, ⟨(RX5, TX5, 7), rfl, rfl⟩, by decide +kernel, by decide⟩
theorem d_X_driftOnce_41 : Dk k_X_driftOnce 41 .pop 1 42 := ⟨(by decide +kernel), rfl⟩
theorem d_X_driftOnce_42 : DrV k_X_driftOnce 42 := ⟨(by decide +kernel), rfl⟩
theorem d_X_fitsPolicy_0 : Dc k_X_fitsPolicy 0 (0) 1 := Or.inl ⟨(by decide +kernel), rfl⟩
theorem d_X_fitsPolicy_1 : DsI k_X_fitsPolicy 1 5 3 := ⟨Or.inr ⟨(by decide +kernel), rfl⟩, by decide⟩
theorem d_X_fitsPolicy_3 : Dc k_X_fitsPolicy 3 (0) 4 := Or.inl ⟨(by decide +kernel), rfl⟩
theorem d_X_fitsPolicy_4 : DsI k_X_fitsPolicy 4 6 6 := ⟨Or.inr ⟨(by decide +kernel), rfl⟩, by decide⟩
theorem d_X_fitsPolicy_6 : DlI k_X_fitsPolicy 6 6 8 := Or.inr ⟨(by decide +kernel), rfl⟩
theorem d_X_fitsPolicy_8 : DlI k_X_fitsPolicy 8 3 9 := Or.inl ⟨3, (by decide +kernel), rfl, rfl⟩
theorem d_X_fitsPolicy_9 : Db k_X_fitsPolicy 9 (.if_icmp .ge) 12 159 := ⟨150, (by decide +kernel), rfl, by decide⟩
theorem d_X_fitsPolicy_12 : DlA k_X_fitsPolicy 12 1 13 := Or.inl ⟨1, (by decide +kernel), rfl, rfl⟩
theorem d_X_fitsPolicy_13 : DlI k_X_fitsPolicy 13 2 14 := Or.inl ⟨2, (by decide +kernel), rfl, rfl⟩
theorem d_X_fitsPolicy_14 : Dc k_X_fitsPolicy 14 (2) 15 := Or.inl ⟨(by decide +kernel), rfl⟩
theorem d_X_fitsPolicy_15 : DlI k_X_fitsPolicy 15 6 17 := Or.inr ⟨(by decide +kernel), rfl⟩
theorem d_X_fitsPolicy_17 : Dk k_X_fitsPolicy 17 .imul 1 18 := ⟨(by decide +kernel), rfl⟩
theorem d_X_fitsPolicy_18 : Dk k_X_fitsPolicy 18 .iadd 1 19 := ⟨(by decide +kernel), rfl⟩
theorem d_X_fitsPolicy_19 : DCV k_X_fitsPolicy 19 k_H_at 2 1 22 := ⟨273, (by decide +kernel), rfl, tb_at 551 (by decide +kernel) (by decide +kernel), m_H_at, iv_H_at.1, iv_H_at.2, ⟨(RX2, TX2, 3), rfl, rfl⟩, by decide +kernel, by decide⟩
theorem d_X_fitsPolicy_22 : DsL k_X_fitsPolicy 22 7 24 := ⟨Or.inr ⟨(by decide +kernel), rfl⟩, by decide⟩
theorem d_X_fitsPolicy_24 : Dc k_X_fitsPolicy 24 (0) 25 := Or.inl ⟨(by decide +kernel), rfl⟩
theorem d_X_fitsPolicy_25 : DsI k_X_fitsPolicy 25 9 27 := ⟨Or.inr ⟨(by decide +kernel), rfl⟩, by decide⟩
theorem d_X_fitsPolicy_27 : Dc k_X_fitsPolicy 27 (0) 28 := Or.inl ⟨(by decide +kernel), rfl⟩
theorem d_X_fitsPolicy_28 : DsI k_X_fitsPolicy 28 10 30 := ⟨Or.inr ⟨(by decide +kernel), rfl⟩, by decide⟩
theorem d_X_fitsPolicy_30 : DlI k_X_fitsPolicy 30 10 32 := Or.inr ⟨(by decide +kernel), rfl⟩
theorem d_X_fitsPolicy_32 : Dk k_X_fitsPolicy 32 .i2l 1 33 := ⟨(by decide +kernel), rfl⟩
theorem d_X_fitsPolicy_33 : DlL k_X_fitsPolicy 33 7 35 := Or.inr ⟨(by decide +kernel), rfl⟩
theorem d_X_fitsPolicy_35 : Dk k_X_fitsPolicy 35 .lcmp 1 36 := ⟨(by decide +kernel), rfl⟩
theorem d_X_fitsPolicy_36 : Db k_X_fitsPolicy 36 (.ifCond .ge) 39 98 := ⟨62, (by decide +kernel), rfl, by decide⟩
theorem d_X_fitsPolicy_39 : DlI k_X_fitsPolicy 39 10 41 := Or.inr ⟨(by decide +kernel), rfl⟩
theorem d_X_fitsPolicy_41 : Dc k_X_fitsPolicy 41 (9) 43 := Or.inr (Or.inl ⟨(by decide +kernel), by decide, rfl⟩)
theorem d_X_fitsPolicy_43 : Db k_X_fitsPolicy 43 (.if_icmp .ge) 46 98 := ⟨55, (by decide +kernel), rfl, by decide⟩
theorem d_X_fitsPolicy_46 : DlI k_X_fitsPolicy 46 5 48 := Or.inr ⟨(by decide +kernel), rfl⟩
theorem d_X_fitsPolicy_48 : Dc k_X_fitsPolicy 48 (12) 50 := Or.inr (Or.inl ⟨(by decide +kernel), by decide, rfl⟩)
theorem d_X_fitsPolicy_50 : Db k_X_fitsPolicy 50 (.if_icmp .lt) 53 55 := ⟨5, (by decide +kernel), rfl, by decide⟩
theorem d_X_fitsPolicy_53 : Dc k_X_fitsPolicy 53 (0) 54 := Or.inl ⟨(by decide +kernel), rfl⟩
theorem d_X_fitsPolicy_54 : DrZ k_X_fitsPolicy 54 := ⟨(by decide +kernel), rfl⟩
theorem d_X_fitsPolicy_55 : Dinc k_X_fitsPolicy 55 5 (1) 58 := ⟨(by decide +kernel), rfl, by decide⟩
theorem d_X_fitsPolicy_58 : DlI k_X_fitsPolicy 58 4 60 := Or.inr ⟨(by decide +kernel), rfl⟩
theorem d_X_fitsPolicy_60 : DlA k_X_fitsPolicy 60 0 61 := Or.inl ⟨0, (by decide +kernel), rfl, rfl⟩
theorem d_X_fitsPolicy_61 : DG k_X_fitsPolicy 61 4 0 64 := ⟨12, (by decide +kernel), f_X_12, rfl⟩
theorem d_X_fitsPolicy_64 : DG k_X_fitsPolicy 64 0 0 67 := ⟨77, (by decide +kernel), f_X_77, rfl⟩
theorem d_X_fitsPolicy_67 : DlI k_X_fitsPolicy 67 5 69 := Or.inr ⟨(by decide +kernel), rfl⟩
theorem d_X_fitsPolicy_69 : Dc k_X_fitsPolicy 69 (0) 70 := Or.inl ⟨(by decide +kernel), rfl⟩
theorem d_X_fitsPolicy_70 : DCS k_X_fitsPolicy 70 k_B_leaving 4 73 := ⟨277, (by decide +kernel), rfl, Or.inl (tb_at 552 (by decide +kernel) (by decide +kernel)), m_B_leaving, is_B_leaving, by decide +kernel, by decide⟩
theorem d_X_fitsPolicy_73 : DsI k_X_fitsPolicy 73 11 75 := ⟨Or.inr ⟨(by decide +kernel), rfl⟩, by decide⟩
theorem d_X_fitsPolicy_75 : DlA k_X_fitsPolicy 75 0 76 := Or.inl ⟨0, (by decide +kernel), rfl, rfl⟩
theorem d_X_fitsPolicy_76 : DlI k_X_fitsPolicy 76 5 78 := Or.inr ⟨(by decide +kernel), rfl⟩
theorem d_X_fitsPolicy_78 : DlI k_X_fitsPolicy 78 11 80 := Or.inr ⟨(by decide +kernel), rfl⟩
theorem d_X_fitsPolicy_80 : DCV k_X_fitsPolicy 80 k_X_staying 4 2 83 := ⟨281, (by decide +kernel), rfl, tb_at 553 (by decide +kernel) (by decide +kernel), m_X_staying, iv_X_staying.1, iv_X_staying.2, ⟨(RX5, TX5, 7), rfl, rfl⟩, by decide +kernel, by decide⟩
theorem d_X_fitsPolicy_83 : DsI k_X_fitsPolicy 83 5 85 := ⟨Or.inr ⟨(by decide +kernel), rfl⟩, by decide⟩
theorem d_X_fitsPolicy_85 : DlI k_X_fitsPolicy 85 9 87 := Or.inr ⟨(by decide +kernel), rfl⟩
theorem d_X_fitsPolicy_87 : DlI k_X_fitsPolicy 87 11 89 := Or.inr ⟨(by decide +kernel), rfl⟩
theorem d_X_fitsPolicy_89 : Dk k_X_fitsPolicy 89 .iadd 1 90 := ⟨(by decide +kernel), rfl⟩
theorem d_X_fitsPolicy_90 : DsI k_X_fitsPolicy 90 9 92 := ⟨Or.inr ⟨(by decide +kernel), rfl⟩, by decide⟩
theorem d_X_fitsPolicy_92 : Dinc k_X_fitsPolicy 92 10 (1) 95 := ⟨(by decide +kernel), rfl, by decide⟩
theorem d_X_fitsPolicy_95 : Db k_X_fitsPolicy 95 .goto 98 30 := ⟨-65, (by decide +kernel), rfl, by decide⟩
theorem d_X_fitsPolicy_98 : DlI k_X_fitsPolicy 98 4 100 := Or.inr ⟨(by decide +kernel), rfl⟩
theorem d_X_fitsPolicy_100 : DlA k_X_fitsPolicy 100 0 101 := Or.inl ⟨0, (by decide +kernel), rfl, rfl⟩
theorem d_X_fitsPolicy_101 : DG k_X_fitsPolicy 101 4 0 104 := ⟨12, (by decide +kernel), f_X_12, rfl⟩
theorem d_X_fitsPolicy_104 : DG k_X_fitsPolicy 104 0 0 107 := ⟨77, (by decide +kernel), f_X_77, rfl⟩
theorem d_X_fitsPolicy_107 : DlI k_X_fitsPolicy 107 5 109 := Or.inr ⟨(by decide +kernel), rfl⟩
theorem d_X_fitsPolicy_109 : Dc k_X_fitsPolicy 109 (1) 110 := Or.inl ⟨(by decide +kernel), rfl⟩
theorem d_X_fitsPolicy_110 : DCS k_X_fitsPolicy 110 k_B_leaving 4 113 := ⟨277, (by decide +kernel), rfl, Or.inl (tb_at 552 (by decide +kernel) (by decide +kernel)), m_B_leaving, is_B_leaving, by decide +kernel, by decide⟩
theorem d_X_fitsPolicy_113 : DsI k_X_fitsPolicy 113 10 115 := ⟨Or.inr ⟨(by decide +kernel), rfl⟩, by decide⟩
theorem d_X_fitsPolicy_115 : DlA k_X_fitsPolicy 115 0 116 := Or.inl ⟨0, (by decide +kernel), rfl, rfl⟩
theorem d_X_fitsPolicy_116 : DlI k_X_fitsPolicy 116 5 118 := Or.inr ⟨(by decide +kernel), rfl⟩
theorem d_X_fitsPolicy_118 : DlI k_X_fitsPolicy 118 10 120 := Or.inr ⟨(by decide +kernel), rfl⟩
theorem d_X_fitsPolicy_120 : DCV k_X_fitsPolicy 120 k_X_staying 4 2 123 := ⟨281, (by decide +kernel), rfl, tb_at 553 (by decide +kernel) (by decide +kernel), m_X_staying, iv_X_staying.1, iv_X_staying.2, ⟨(RX5, TX5, 7), rfl, rfl⟩, by decide +kernel, by decide⟩
theorem d_X_fitsPolicy_123 : DsI k_X_fitsPolicy 123 5 125 := ⟨Or.inr ⟨(by decide +kernel), rfl⟩, by decide⟩
theorem d_X_fitsPolicy_125 : DlI k_X_fitsPolicy 125 9 127 := Or.inr ⟨(by decide +kernel), rfl⟩
theorem d_X_fitsPolicy_127 : DlI k_X_fitsPolicy 127 10 129 := Or.inr ⟨(by decide +kernel), rfl⟩
theorem d_X_fitsPolicy_129 : Dk k_X_fitsPolicy 129 .iadd 1 130 := ⟨(by decide +kernel), rfl⟩
theorem d_X_fitsPolicy_130 : DsI k_X_fitsPolicy 130 9 132 := ⟨Or.inr ⟨(by decide +kernel), rfl⟩, by decide⟩
theorem d_X_fitsPolicy_132 : DlI k_X_fitsPolicy 132 9 134 := Or.inr ⟨(by decide +kernel), rfl⟩
theorem d_X_fitsPolicy_134 : Dk k_X_fitsPolicy 134 .i2l 1 135 := ⟨(by decide +kernel), rfl⟩
theorem d_X_fitsPolicy_135 : DlA k_X_fitsPolicy 135 1 136 := Or.inl ⟨1, (by decide +kernel), rfl, rfl⟩
theorem d_X_fitsPolicy_136 : DlI k_X_fitsPolicy 136 2 137 := Or.inl ⟨2, (by decide +kernel), rfl, rfl⟩
theorem d_X_fitsPolicy_137 : Dc k_X_fitsPolicy 137 (2) 138 := Or.inl ⟨(by decide +kernel), rfl⟩
theorem d_X_fitsPolicy_138 : DlI k_X_fitsPolicy 138 6 140 := Or.inr ⟨(by decide +kernel), rfl⟩
theorem d_X_fitsPolicy_140 : Dk k_X_fitsPolicy 140 .imul 1 141 := ⟨(by decide +kernel), rfl⟩
theorem d_X_fitsPolicy_141 : Dk k_X_fitsPolicy 141 .iadd 1 142 := ⟨(by decide +kernel), rfl⟩
theorem d_X_fitsPolicy_142 : Dc k_X_fitsPolicy 142 (1) 143 := Or.inl ⟨(by decide +kernel), rfl⟩
theorem d_X_fitsPolicy_143 : Dk k_X_fitsPolicy 143 .iadd 1 144 := ⟨(by decide +kernel), rfl⟩
theorem d_X_fitsPolicy_144 : DCV k_X_fitsPolicy 144 k_H_at 2 1 147 := ⟨273, (by decide +kernel), rfl, tb_at 551 (by decide +kernel) (by decide +kernel), m_H_at, iv_H_at.1, iv_H_at.2, ⟨(RX2, TX2, 3), rfl, rfl⟩, by decide +kernel, by decide⟩
theorem d_X_fitsPolicy_147 : Dk k_X_fitsPolicy 147 .lcmp 1 148 := ⟨(by decide +kernel), rfl⟩
theorem d_X_fitsPolicy_148 : Db k_X_fitsPolicy 148 (.ifCond .eq) 151 153 := ⟨5, (by decide +kernel), rfl, by decide⟩
theorem d_X_fitsPolicy_151 : Dc k_X_fitsPolicy 151 (0) 152 := Or.inl ⟨(by decide +kernel), rfl⟩
theorem d_X_fitsPolicy_152 : DrZ k_X_fitsPolicy 152 := ⟨(by decide +kernel), rfl⟩
theorem d_X_fitsPolicy_153 : Dinc k_X_fitsPolicy 153 6 (1) 156 := ⟨(by decide +kernel), rfl, by decide⟩
theorem d_X_fitsPolicy_156 : Db k_X_fitsPolicy 156 .goto 159 6 := ⟨-150, (by decide +kernel), rfl, by decide⟩
theorem d_X_fitsPolicy_159 : Dc k_X_fitsPolicy 159 (1) 160 := Or.inl ⟨(by decide +kernel), rfl⟩
theorem d_X_fitsPolicy_160 : DrZ k_X_fitsPolicy 160 := ⟨(by decide +kernel), rfl⟩
theorem d_X_staying_0 : DlI k_X_staying 0 2 1 := Or.inl ⟨2, (by decide +kernel), rfl, rfl⟩
theorem d_X_staying_1 : Db k_X_staying 1 (.ifCond .le) 4 20 := ⟨19, (by decide +kernel), rfl, by decide⟩
theorem d_X_staying_4 : DlI k_X_staying 4 1 5 := Or.inl ⟨1, (by decide +kernel), rfl, rfl⟩
theorem d_X_staying_5 : DlA k_X_staying 5 0 6 := Or.inl ⟨0, (by decide +kernel), rfl, rfl⟩
theorem d_X_staying_6 : DG k_X_staying 6 4 0 9 := ⟨12, (by decide +kernel), f_X_12, rfl⟩
theorem d_X_staying_9 : DG k_X_staying 9 0 0 12 := ⟨77, (by decide +kernel), f_X_77, rfl⟩
theorem d_X_staying_12 : Dc k_X_staying 12 (3) 13 := Or.inl ⟨(by decide +kernel), rfl⟩
theorem d_X_staying_13 : Dk k_X_staying 13 .iaload 1 14 := ⟨(by decide +kernel), rfl⟩
theorem d_X_staying_14 : Dk k_X_staying 14 .iadd 1 15 := ⟨(by decide +kernel), rfl⟩
theorem d_X_staying_15 : DlI k_X_staying 15 2 16 := Or.inl ⟨2, (by decide +kernel), rfl, rfl⟩
theorem d_X_staying_16 : Dk k_X_staying 16 .isub 1 17 := ⟨(by decide +kernel), rfl⟩
theorem d_X_staying_17 : Db k_X_staying 17 .goto 20 21 := ⟨4, (by decide +kernel), rfl, by decide⟩
theorem d_X_staying_20 : DlI k_X_staying 20 1 21 := Or.inl ⟨1, (by decide +kernel), rfl, rfl⟩
theorem d_X_staying_21 : DrI k_X_staying 21 := ⟨(by decide +kernel), rfl⟩
end
section
section Acc
variable {G : GT} {S : St} {c : Nat}
theorem fb_0 (hc : 1 ≤ c ∧ c ≤ 14) : FG G S c 0 0 (aR G c 0) := ⟨by omega, kd_book hc, by unfold fl; rw [kd_book hc]; rfl⟩
theorem ab_0 (hc : 1 ≤ c ∧ c ≤ 14) : AI c 0 4 := ⟨by omega, by decide, by unfold ak; rw [kd_book hc]; rfl, by unfold ln; rw [kd_book hc]; rfl, by decide⟩
theorem fb_1 (hc : 1 ≤ c ∧ c ≤ 14) : FG G S c 0 1 (vI (S c 1 0)) := ⟨by omega, kd_book hc, by unfold fl; rw [kd_book hc]; rfl⟩
theorem wb_1 (hc : 1 ≤ c ∧ c ≤ 14) (x : Int) : FP G S c 0 1 x := ⟨by omega, kd_book hc, by unfold ak; rw [kd_book hc]; rfl, by unfold fl; rw [kd_book hc]; exact Nat.le_of_ble_eq_true rfl, by unfold fl; rw [kd_book hc]; simp [fl_Book, st3]⟩
theorem fb_2 (hc : 1 ≤ c ∧ c ≤ 14) : FG G S c 0 2 (vI (S c 2 0)) := ⟨by omega, kd_book hc, by unfold fl; rw [kd_book hc]; rfl⟩
theorem wb_2 (hc : 1 ≤ c ∧ c ≤ 14) (x : Int) : FP G S c 0 2 x := ⟨by omega, kd_book hc, by unfold ak; rw [kd_book hc]; rfl, by unfold fl; rw [kd_book hc]; exact Nat.le_of_ble_eq_true rfl, by unfold fl; rw [kd_book hc]; simp [fl_Book, st3]⟩
theorem fb_3 (hc : 1 ≤ c ∧ c ≤ 14) : FG G S c 0 3 (aR G c 3) := ⟨by omega, kd_book hc, by unfold fl; rw [kd_book hc]; rfl⟩
theorem ab_3 (hc : 1 ≤ c ∧ c ≤ 14) : AI c 3 79 := ⟨by omega, by decide, by unfold ak; rw [kd_book hc]; rfl, by unfold ln; rw [kd_book hc]; rfl, by decide⟩
theorem fb_4 (hc : 1 ≤ c ∧ c ≤ 14) : FG G S c 0 4 (aR G c 4) := ⟨by omega, kd_book hc, by unfold fl; rw [kd_book hc]; rfl⟩
theorem ab_4 (hc : 1 ≤ c ∧ c ≤ 14) : AI c 4 79 := ⟨by omega, by decide, by unfold ak; rw [kd_book hc]; rfl, by unfold ln; rw [kd_book hc]; rfl, by decide⟩
theorem fb_5 (hc : 1 ≤ c ∧ c ≤ 14) : FG G S c 0 5 (aR G c 5) := ⟨by omega, kd_book hc, by unfold fl; rw [kd_book hc]; rfl⟩
theorem ab_5 (hc : 1 ≤ c ∧ c ≤ 14) : AI c 5 79 := ⟨by omega, by decide, by unfold ak; rw [kd_book hc]; rfl, by unfold ln; rw [kd_book hc]; rfl, by decide⟩
theorem fb_6 (hc : 1 ≤ c ∧ c ≤ 14) : FG G S c 0 6 (aR G c 6) := ⟨by omega, kd_book hc, by unfold fl; rw [kd_book hc]; rfl⟩
theorem ab_6 (hc : 1 ≤ c ∧ c ≤ 14) : AI c 6 79 := ⟨by omega, by decide, by unfold ak; rw [kd_book hc]; rfl, by unfold ln; rw [kd_book hc]; rfl, by decide⟩
theorem fb_7 (hc : 1 ≤ c ∧ c ≤ 14) : FG G S c 0 7 (aR G c 7) := ⟨by omega, kd_book hc, by unfold fl; rw [kd_book hc]; rfl⟩
theorem ab_7 (hc : 1 ≤ c ∧ c ≤ 14) : AI c 7 79 := ⟨by omega, by decide, by unfold ak; rw [kd_book hc]; rfl, by unfold ln; rw [kd_book hc]; rfl, by decide⟩
theorem fb_8 (hc : 1 ≤ c ∧ c ≤ 14) : FG G S c 0 8 (vI (S c 8 0)) := ⟨by omega, kd_book hc, by unfold fl; rw [kd_book hc]; rfl⟩
theorem wb_8 (hc : 1 ≤ c ∧ c ≤ 14) (x : Int) : FP G S c 0 8 x := ⟨by omega, kd_book hc, by unfold ak; rw [kd_book hc]; rfl, by unfold fl; rw [kd_book hc]; exact Nat.le_of_ble_eq_true rfl, by unfold fl; rw [kd_book hc]; simp [fl_Book, st3]⟩
theorem fb_9 (hc : 1 ≤ c ∧ c ≤ 14) : FG G S c 0 9 (aR G c 9) := ⟨by omega, kd_book hc, by unfold fl; rw [kd_book hc]; rfl⟩
theorem ab_9 (hc : 1 ≤ c ∧ c ≤ 14) : AI c 9 15 := ⟨by omega, by decide, by unfold ak; rw [kd_book hc]; rfl, by unfold ln; rw [kd_book hc]; rfl, by decide⟩
theorem fb_10 (hc : 1 ≤ c ∧ c ≤ 14) : FG G S c 0 10 (vI (S c 10 0)) := ⟨by omega, kd_book hc, by unfold fl; rw [kd_book hc]; rfl⟩
theorem wb_10 (hc : 1 ≤ c ∧ c ≤ 14) (x : Int) : FP G S c 0 10 x := ⟨by omega, kd_book hc, by unfold ak; rw [kd_book hc]; rfl, by unfold fl; rw [kd_book hc]; exact Nat.le_of_ble_eq_true rfl, by unfold fl; rw [kd_book hc]; simp [fl_Book, st3]⟩
theorem fb_11 (hc : 1 ≤ c ∧ c ≤ 14) : FG G S c 0 11 (aR G c 11) := ⟨by omega, kd_book hc, by unfold fl; rw [kd_book hc]; rfl⟩
theorem ab_11 (hc : 1 ≤ c ∧ c ≤ 14) : AI c 11 72 := ⟨by omega, by decide, by unfold ak; rw [kd_book hc]; rfl, by unfold ln; rw [kd_book hc]; rfl, by decide⟩
theorem fb_12 (hc : 1 ≤ c ∧ c ≤ 14) : FG G S c 0 12 (aR G c 12) := ⟨by omega, kd_book hc, by unfold fl; rw [kd_book hc]; rfl⟩
theorem ab_12 (hc : 1 ≤ c ∧ c ≤ 14) : AI c 12 180 := ⟨by omega, by decide, by unfold ak; rw [kd_book hc]; rfl, by unfold ln; rw [kd_book hc]; rfl, by decide⟩
theorem fp_0 (hc : 15 ≤ c ∧ c ≤ 16) : FG G S c 1 0 (aR G c 0) := ⟨by omega, kd_past hc, by unfold fl; rw [kd_past hc]; rfl⟩
theorem fp_1 (hc : 15 ≤ c ∧ c ≤ 16) : FG G S c 1 1 (vI (S c 1 0)) := ⟨by omega, kd_past hc, by unfold fl; rw [kd_past hc]; rfl⟩
theorem wp_1 (hc : 15 ≤ c ∧ c ≤ 16) (x : Int) : FP G S c 1 1 x := ⟨by omega, kd_past hc, by unfold ak; rw [kd_past hc]; rfl, by unfold fl; rw [kd_past hc]; exact Nat.le_of_ble_eq_true rfl, by unfold fl; rw [kd_past hc]; simp [fl_Past, st3]⟩
theorem fp_2 (hc : 15 ≤ c ∧ c ≤ 16) : FG G S c 1 2 (vI (S c 2 0)) := ⟨by omega, kd_past hc, by unfold fl; rw [kd_past hc]; rfl⟩
theorem wp_2 (hc : 15 ≤ c ∧ c ≤ 16) (x : Int) : FP G S c 1 2 x := ⟨by omega, kd_past hc, by unfold ak; rw [kd_past hc]; rfl, by unfold fl; rw [kd_past hc]; exact Nat.le_of_ble_eq_true rfl, by unfold fl; rw [kd_past hc]; simp [fl_Past, st3]⟩
theorem fh_0 (hc : 18 ≤ c ∧ c ≤ 21) : FG G S c 2 0 (vI (S c 0 0)) := ⟨by omega, kd_sheet hc, by unfold fl; rw [kd_sheet hc]; rfl⟩
theorem wh_0 (hc : 18 ≤ c ∧ c ≤ 21) (x : Int) : FP G S c 2 0 x := ⟨by omega, kd_sheet hc, by unfold ak; rw [kd_sheet hc]; rfl, by unfold fl; rw [kd_sheet hc]; exact Nat.le_of_ble_eq_true rfl, by unfold fl; rw [kd_sheet hc]; simp [fl_Sheet, st3]⟩
theorem fh_1 (hc : 18 ≤ c ∧ c ≤ 21) : FG G S c 2 1 (vI (S c 1 0)) := ⟨by omega, kd_sheet hc, by unfold fl; rw [kd_sheet hc]; rfl⟩
theorem wh_1 (hc : 18 ≤ c ∧ c ≤ 21) (x : Int) : FP G S c 2 1 x := ⟨by omega, kd_sheet hc, by unfold ak; rw [kd_sheet hc]; rfl, by unfold fl; rw [kd_sheet hc]; exact Nat.le_of_ble_eq_true rfl, by unfold fl; rw [kd_sheet hc]; simp [fl_Sheet, st3]⟩
theorem fh_2 (hc : 18 ≤ c ∧ c ≤ 21) : FG G S c 2 2 (aR G c 2) := ⟨by omega, kd_sheet hc, by unfold fl; rw [kd_sheet hc]; rfl⟩
theorem ah_2 (hc : 18 ≤ c ∧ c ≤ 21) : AL c 2 24 := ⟨by omega, by decide, by unfold ak; rw [kd_sheet hc]; rfl, by unfold ln; rw [kd_sheet hc]; rfl, by decide⟩
theorem ft_0 : FG G S 17 3 0 (aR G 17 0) := ⟨by decide, rfl, rfl⟩
theorem at_0 : AI 17 0 90 := ⟨by decide, by decide, rfl, rfl, by decide⟩
theorem ft_1 : FG G S 17 3 1 (vI (S 17 1 0)) := ⟨by decide, rfl, rfl⟩
theorem wt_1 (x : Int) : FP G S 17 3 1 x := ⟨by decide, rfl, rfl, Nat.le_of_ble_eq_true rfl, by show fl_Tape G _ 17 = (fl_Tape G S 17).set 1 _; simp [fl_Tape, st3]⟩
theorem ft_2 : FG G S 17 3 2 (aR G 17 2) := ⟨by decide, rfl, rfl⟩
theorem at_2 : AI 17 2 90 := ⟨by decide, by decide, rfl, rfl, by decide⟩
theorem ft_3 : FG G S 17 3 3 (aR G 17 3) := ⟨by decide, rfl, rfl⟩
theorem at_3 : AI 17 3 90 := ⟨by decide, by decide, rfl, rfl, by decide⟩
theorem ft_4 : FG G S 17 3 4 (vI (S 17 4 0)) := ⟨by decide, rfl, rfl⟩
theorem wt_4 (x : Int) : FP G S 17 3 4 x := ⟨by decide, rfl, rfl, Nat.le_of_ble_eq_true rfl, by show fl_Tape G _ 17 = (fl_Tape G S 17).set 4 _; simp [fl_Tape, st3]⟩
theorem fx_0 : FG G S 0 4 0 (oR G 1) := ⟨by decide, rfl, rfl⟩
theorem fx_1 : FG G S 0 4 1 (oR G 15) := ⟨by decide, rfl, rfl⟩
theorem fx_2 : FG G S 0 4 2 (oR G 8) := ⟨by decide, rfl, rfl⟩
theorem fx_3 : FG G S 0 4 3 (oR G 16) := ⟨by decide, rfl, rfl⟩
theorem fx_4 : FG G S 0 4 4 (vI (S 0 4 0)) := ⟨by decide, rfl, rfl⟩
theorem wx_4 (x : Int) : FP G S 0 4 4 x := ⟨by decide, rfl, rfl, Nat.le_of_ble_eq_true rfl, by show fl_Mix G _ 0 = (fl_Mix G S 0).set 4 _; simp [fl_Mix, st3]⟩
theorem fx_5 : FG G S 0 4 5 (oR G 17) := ⟨by decide, rfl, rfl⟩
theorem fx_6 : FG G S 0 4 6 (aR G 0 6) := ⟨by decide, rfl, rfl⟩
theorem fm_0 : FG G S 22 5 0 (aR G 22 0) := ⟨by decide, rfl, rfl⟩
theorem am_0 : AI 22 0 402 := ⟨by decide, by decide, rfl, rfl, by decide⟩
theorem fm_1 : FG G S 22 5 1 (aR G 22 1) := ⟨by decide, rfl, rfl⟩
theorem am_1 : AI 22 1 12 := ⟨by decide, by decide, rfl, rfl, by decide⟩
theorem fm_2 : FG G S 22 5 2 (aR G 22 2) := ⟨by decide, rfl, rfl⟩
theorem am_2 : AI 22 2 12 := ⟨by decide, by decide, rfl, rfl, by decide⟩
theorem fm_3 : FG G S 22 5 3 (aR G 22 3) := ⟨by decide, rfl, rfl⟩
theorem am_3 : AI 22 3 90 := ⟨by decide, by decide, rfl, rfl, by decide⟩
theorem fm_4 : FG G S 22 5 4 (vI (S 22 4 0)) := ⟨by decide, rfl, rfl⟩
theorem wm_4 (x : Int) : FP G S 22 5 4 x := ⟨by decide, rfl, rfl, Nat.le_of_ble_eq_true rfl, by show fl_Model G _ 22 = (fl_Model G S 22).set 4 _; simp [fl_Model, st3]⟩
theorem fm_5 : FG G S 22 5 5 (vI (S 22 5 0)) := ⟨by decide, rfl, rfl⟩
theorem wm_5 (x : Int) : FP G S 22 5 5 x := ⟨by decide, rfl, rfl, Nat.le_of_ble_eq_true rfl, by show fl_Model G _ 22 = (fl_Model G S 22).set 5 _; simp [fl_Model, st3]⟩
theorem fm_6 : FG G S 22 5 6 (vI (S 22 6 0)) := ⟨by decide, rfl, rfl⟩
theorem wm_6 (x : Int) : FP G S 22 5 6 x := ⟨by decide, rfl, rfl, Nat.le_of_ble_eq_true rfl, by show fl_Model G _ 22 = (fl_Model G S 22).set 6 _; simp [fl_Model, st3]⟩
theorem fm_7 : FG G S 22 5 7 (aR G 22 7) := ⟨by decide, rfl, rfl⟩
theorem am_7 : AI 22 7 2412 := ⟨by decide, by decide, rfl, rfl, by decide⟩
theorem fm_8 : FG G S 22 5 8 (vI (S 22 8 0)) := ⟨by decide, rfl, rfl⟩
theorem wm_8 (x : Int) : FP G S 22 5 8 x := ⟨by decide, rfl, rfl, Nat.le_of_ble_eq_true rfl, by show fl_Model G _ 22 = (fl_Model G S 22).set 8 _; simp [fl_Model, st3]⟩
theorem fm_9 : FG G S 22 5 9 (aR G 22 9) := ⟨by decide, rfl, rfl⟩
theorem am_9 : AI 22 9 402 := ⟨by decide, by decide, rfl, rfl, by decide⟩
theorem fm_10 : FG G S 22 5 10 (aR G 22 10) := ⟨by decide, rfl, rfl⟩
theorem am_10 : AI 22 10 2412 := ⟨by decide, by decide, rfl, rfl, by decide⟩
theorem fm_11 : FG G S 22 5 11 (vI (S 22 11 0)) := ⟨by decide, rfl, rfl⟩
theorem wm_11 (x : Int) : FP G S 22 5 11 x := ⟨by decide, rfl, rfl, Nat.le_of_ble_eq_true rfl, by show fl_Model G _ 22 = (fl_Model G S 22).set 11 _; simp [fl_Model, st3]⟩
theorem fm_12 : FG G S 22 5 12 (aR G 22 12) := ⟨by decide, rfl, rfl⟩
theorem am_12 : AI 22 12 4 := ⟨by decide, by decide, rfl, rfl, by decide⟩
theorem fm_13 : FG G S 22 5 13 (aR G 22 13) := ⟨by decide, rfl, rfl⟩
theorem am_13 : AI 22 13 4 := ⟨by decide, by decide, rfl, rfl, by decide⟩
theorem fm_14 : FG G S 22 5 14 (aR G 22 14) := ⟨by decide, rfl, rfl⟩
theorem am_14 : AL 22 14 96 := ⟨by decide, by decide, rfl, rfl, by decide⟩
theorem fm_15 : FG G S 22 5 15 (aR G 22 15) := ⟨by decide, rfl, rfl⟩
theorem am_15 : AL 22 15 24 := ⟨by decide, by decide, rfl, rfl, by decide⟩
theorem kB (hc : 1 ≤ c ∧ c ≤ 14) : c < 23 ∧ kd c = 0 := ⟨by omega, kd_book hc⟩
theorem kP (hc : 15 ≤ c ∧ c ≤ 16) : c < 23 ∧ kd c = 1 := ⟨by omega, kd_past hc⟩
theorem kH (hc : 18 ≤ c ∧ c ≤ 21) : c < 23 ∧ kd c = 2 := ⟨by omega, kd_sheet hc⟩
theorem kT : 17 < 23 ∧ kd 17 = 3 := by decide
theorem kX : 0 < 23 ∧ kd 0 = 4 := by decide
theorem kM : 22 < 23 ∧ kd 22 = 5 := by decide
theorem aap (hc : 15 ≤ c ∧ c ≤ 16) : c < 23 ∧ 0 < 16 ∧ ak c 0 = 3 ∧ ln c 0 = 6 := ⟨by omega, by decide, by unfold ak; rw [kd_past hc]; rfl, by unfold ln; rw [kd_past hc]; rfl⟩
theorem aax : 0 < 23 ∧ 6 < 16 ∧ ak 0 6 = 3 ∧ ln 0 6 = 4 := by decide
end Acc
section Loc
theorem lg0 {a0 : Option Value} {r : List (Option Value)} : lg 0 (a0 :: r) = a0 := rfl
theorem sa0 {v : Value} {a0 : Option Value} {r : List (Option Value)} : ls1 v 0 (a0 :: r) = some v :: r := rfl
theorem sb0 {v : Value} {a0 b : Option Value} {r : List (Option Value)} : ls2 v 0 (a0 :: b :: r) = some v :: none :: r := rfl
theorem lg1 {a0 a1 : Option Value} {r : List (Option Value)} : lg 1 (a0 :: a1 :: r) = a1 := rfl
theorem sa1 {v : Value} {a0 a1 : Option Value} {r : List (Option Value)} : ls1 v 1 (a0 :: a1 :: r) = a0 :: some v :: r := rfl
theorem sb1 {v : Value} {a0 a1 b : Option Value} {r : List (Option Value)} : ls2 v 1 (a0 :: a1 :: b :: r) = a0 :: some v :: none :: r := rfl
theorem lg2 {a0 a1 a2 : Option Value} {r : List (Option Value)} : lg 2 (a0 :: a1 :: a2 :: r) = a2 := rfl
theorem sa2 {v : Value} {a0 a1 a2 : Option Value} {r : List (Option Value)} : ls1 v 2 (a0 :: a1 :: a2 :: r) = a0 :: a1 :: some v :: r := rfl
theorem sb2 {v : Value} {a0 a1 a2 b : Option Value} {r : List (Option Value)} : ls2 v 2 (a0 :: a1 :: a2 :: b :: r) = a0 :: a1 :: some v :: none :: r := rfl
theorem lg3 {a0 a1 a2 a3 : Option Value} {r : List (Option Value)} : lg 3 (a0 :: a1 :: a2 :: a3 :: r) = a3 := rfl
theorem sa3 {v : Value} {a0 a1 a2 a3 : Option Value} {r : List (Option Value)} : ls1 v 3 (a0 :: a1 :: a2 :: a3 :: r) = a0 :: a1 :: a2 :: some v :: r := rfl
theorem sb3 {v : Value} {a0 a1 a2 a3 b : Option Value} {r : List (Option Value)} : ls2 v 3 (a0 :: a1 :: a2 :: a3 :: b :: r) = a0 :: a1 :: a2 :: some v :: none :: r := rfl
theorem lg4 {a0 a1 a2 a3 a4 : Option Value} {r : List (Option Value)} : lg 4 (a0 :: a1 :: a2 :: a3 :: a4 :: r) = a4 := rfl
theorem sa4 {v : Value} {a0 a1 a2 a3 a4 : Option Value} {r : List (Option Value)} : ls1 v 4 (a0 :: a1 :: a2 :: a3 :: a4 :: r) = a0 :: a1 :: a2 :: a3 :: some v :: r := rfl
theorem sb4 {v : Value} {a0 a1 a2 a3 a4 b : Option Value} {r : List (Option Value)} : ls2 v 4 (a0 :: a1 :: a2 :: a3 :: a4 :: b :: r) = a0 :: a1 :: a2 :: a3 :: some v :: none :: r := rfl
theorem lg5 {a0 a1 a2 a3 a4 a5 : Option Value} {r : List (Option Value)} : lg 5 (a0 :: a1 :: a2 :: a3 :: a4 :: a5 :: r) = a5 := rfl
theorem sa5 {v : Value} {a0 a1 a2 a3 a4 a5 : Option Value} {r : List (Option Value)} : ls1 v 5 (a0 :: a1 :: a2 :: a3 :: a4 :: a5 :: r) = a0 :: a1 :: a2 :: a3 :: a4 :: some v :: r := rfl
theorem sb5 {v : Value} {a0 a1 a2 a3 a4 a5 b : Option Value} {r : List (Option Value)} : ls2 v 5 (a0 :: a1 :: a2 :: a3 :: a4 :: a5 :: b :: r) = a0 :: a1 :: a2 :: a3 :: a4 :: some v :: none :: r := rfl
theorem lg6 {a0 a1 a2 a3 a4 a5 a6 : Option Value} {r : List (Option Value)} : lg 6 (a0 :: a1 :: a2 :: a3 :: a4 :: a5 :: a6 :: r) = a6 := rfl
theorem sa6 {v : Value} {a0 a1 a2 a3 a4 a5 a6 : Option Value} {r : List (Option Value)} : ls1 v 6 (a0 :: a1 :: a2 :: a3 :: a4 :: a5 :: a6 :: r) = a0 :: a1 :: a2 :: a3 :: a4 :: a5 :: some v :: r := rfl
theorem sb6 {v : Value} {a0 a1 a2 a3 a4 a5 a6 b : Option Value} {r : List (Option Value)} : ls2 v 6 (a0 :: a1 :: a2 :: a3 :: a4 :: a5 :: a6 :: b :: r) = a0 :: a1 :: a2 :: a3 :: a4 :: a5 :: some v :: none :: r := rfl
theorem lg7 {a0 a1 a2 a3 a4 a5 a6 a7 : Option Value} {r : List (Option Value)} : lg 7 (a0 :: a1 :: a2 :: a3 :: a4 :: a5 :: a6 :: a7 :: r) = a7 := rfl
theorem sa7 {v : Value} {a0 a1 a2 a3 a4 a5 a6 a7 : Option Value} {r : List (Option Value)} : ls1 v 7 (a0 :: a1 :: a2 :: a3 :: a4 :: a5 :: a6 :: a7 :: r) = a0 :: a1 :: a2 :: a3 :: a4 :: a5 :: a6 :: some v :: r := rfl
theorem sb7 {v : Value} {a0 a1 a2 a3 a4 a5 a6 a7 b : Option Value} {r : List (Option Value)} : ls2 v 7 (a0 :: a1 :: a2 :: a3 :: a4 :: a5 :: a6 :: a7 :: b :: r) = a0 :: a1 :: a2 :: a3 :: a4 :: a5 :: a6 :: some v :: none :: r := rfl
theorem lg8 {a0 a1 a2 a3 a4 a5 a6 a7 a8 : Option Value} {r : List (Option Value)} : lg 8 (a0 :: a1 :: a2 :: a3 :: a4 :: a5 :: a6 :: a7 :: a8 :: r) = a8 := rfl
theorem sa8 {v : Value} {a0 a1 a2 a3 a4 a5 a6 a7 a8 : Option Value} {r : List (Option Value)} : ls1 v 8 (a0 :: a1 :: a2 :: a3 :: a4 :: a5 :: a6 :: a7 :: a8 :: r) = a0 :: a1 :: a2 :: a3 :: a4 :: a5 :: a6 :: a7 :: some v :: r := rfl
theorem sb8 {v : Value} {a0 a1 a2 a3 a4 a5 a6 a7 a8 b : Option Value} {r : List (Option Value)} : ls2 v 8 (a0 :: a1 :: a2 :: a3 :: a4 :: a5 :: a6 :: a7 :: a8 :: b :: r) = a0 :: a1 :: a2 :: a3 :: a4 :: a5 :: a6 :: a7 :: some v :: none :: r := rfl
theorem lg9 {a0 a1 a2 a3 a4 a5 a6 a7 a8 a9 : Option Value} {r : List (Option Value)} : lg 9 (a0 :: a1 :: a2 :: a3 :: a4 :: a5 :: a6 :: a7 :: a8 :: a9 :: r) = a9 := rfl
theorem sa9 {v : Value} {a0 a1 a2 a3 a4 a5 a6 a7 a8 a9 : Option Value} {r : List (Option Value)} : ls1 v 9 (a0 :: a1 :: a2 :: a3 :: a4 :: a5 :: a6 :: a7 :: a8 :: a9 :: r) = a0 :: a1 :: a2 :: a3 :: a4 :: a5 :: a6 :: a7 :: a8 :: some v :: r := rfl
theorem sb9 {v : Value} {a0 a1 a2 a3 a4 a5 a6 a7 a8 a9 b : Option Value} {r : List (Option Value)} : ls2 v 9 (a0 :: a1 :: a2 :: a3 :: a4 :: a5 :: a6 :: a7 :: a8 :: a9 :: b :: r) = a0 :: a1 :: a2 :: a3 :: a4 :: a5 :: a6 :: a7 :: a8 :: some v :: none :: r := rfl
theorem lg10 {a0 a1 a2 a3 a4 a5 a6 a7 a8 a9 a10 : Option Value} {r : List (Option Value)} : lg 10 (a0 :: a1 :: a2 :: a3 :: a4 :: a5 :: a6 :: a7 :: a8 :: a9 :: a10 :: r) = a10 := rfl
theorem sa10 {v : Value} {a0 a1 a2 a3 a4 a5 a6 a7 a8 a9 a10 : Option Value} {r : List (Option Value)} : ls1 v 10 (a0 :: a1 :: a2 :: a3 :: a4 :: a5 :: a6 :: a7 :: a8 :: a9 :: a10 :: r) = a0 :: a1 :: a2 :: a3 :: a4 :: a5 :: a6 :: a7 :: a8 :: a9 :: some v :: r := rfl
theorem sb10 {v : Value} {a0 a1 a2 a3 a4 a5 a6 a7 a8 a9 a10 b : Option Value} {r : List (Option Value)} : ls2 v 10 (a0 :: a1 :: a2 :: a3 :: a4 :: a5 :: a6 :: a7 :: a8 :: a9 :: a10 :: b :: r) = a0 :: a1 :: a2 :: a3 :: a4 :: a5 :: a6 :: a7 :: a8 :: a9 :: some v :: none :: r := rfl
theorem lg11 {a0 a1 a2 a3 a4 a5 a6 a7 a8 a9 a10 a11 : Option Value} {r : List (Option Value)} : lg 11 (a0 :: a1 :: a2 :: a3 :: a4 :: a5 :: a6 :: a7 :: a8 :: a9 :: a10 :: a11 :: r) = a11 := rfl
theorem sa11 {v : Value} {a0 a1 a2 a3 a4 a5 a6 a7 a8 a9 a10 a11 : Option Value} {r : List (Option Value)} : ls1 v 11 (a0 :: a1 :: a2 :: a3 :: a4 :: a5 :: a6 :: a7 :: a8 :: a9 :: a10 :: a11 :: r) = a0 :: a1 :: a2 :: a3 :: a4 :: a5 :: a6 :: a7 :: a8 :: a9 :: a10 :: some v :: r := rfl
theorem sb11 {v : Value} {a0 a1 a2 a3 a4 a5 a6 a7 a8 a9 a10 a11 b : Option Value} {r : List (Option Value)} : ls2 v 11 (a0 :: a1 :: a2 :: a3 :: a4 :: a5 :: a6 :: a7 :: a8 :: a9 :: a10 :: a11 :: b :: r) = a0 :: a1 :: a2 :: a3 :: a4 :: a5 :: a6 :: a7 :: a8 :: a9 :: a10 :: some v :: none :: r := rfl
theorem lg12 {a0 a1 a2 a3 a4 a5 a6 a7 a8 a9 a10 a11 a12 : Option Value} {r : List (Option Value)} : lg 12 (a0 :: a1 :: a2 :: a3 :: a4 :: a5 :: a6 :: a7 :: a8 :: a9 :: a10 :: a11 :: a12 :: r) = a12 := rfl
theorem sa12 {v : Value} {a0 a1 a2 a3 a4 a5 a6 a7 a8 a9 a10 a11 a12 : Option Value} {r : List (Option Value)} : ls1 v 12 (a0 :: a1 :: a2 :: a3 :: a4 :: a5 :: a6 :: a7 :: a8 :: a9 :: a10 :: a11 :: a12 :: r) = a0 :: a1 :: a2 :: a3 :: a4 :: a5 :: a6 :: a7 :: a8 :: a9 :: a10 :: a11 :: some v :: r := rfl
theorem sb12 {v : Value} {a0 a1 a2 a3 a4 a5 a6 a7 a8 a9 a10 a11 a12 b : Option Value} {r : List (Option Value)} : ls2 v 12 (a0 :: a1 :: a2 :: a3 :: a4 :: a5 :: a6 :: a7 :: a8 :: a9 :: a10 :: a11 :: a12 :: b :: r) = a0 :: a1 :: a2 :: a3 :: a4 :: a5 :: a6 :: a7 :: a8 :: a9 :: a10 :: a11 :: some v :: none :: r := rfl
theorem lg13 {a0 a1 a2 a3 a4 a5 a6 a7 a8 a9 a10 a11 a12 a13 : Option Value} {r : List (Option Value)} : lg 13 (a0 :: a1 :: a2 :: a3 :: a4 :: a5 :: a6 :: a7 :: a8 :: a9 :: a10 :: a11 :: a12 :: a13 :: r) = a13 := rfl
theorem sa13 {v : Value} {a0 a1 a2 a3 a4 a5 a6 a7 a8 a9 a10 a11 a12 a13 : Option Value} {r : List (Option Value)} : ls1 v 13 (a0 :: a1 :: a2 :: a3 :: a4 :: a5 :: a6 :: a7 :: a8 :: a9 :: a10 :: a11 :: a12 :: a13 :: r) = a0 :: a1 :: a2 :: a3 :: a4 :: a5 :: a6 :: a7 :: a8 :: a9 :: a10 :: a11 :: a12 :: some v :: r := rfl
theorem sb13 {v : Value} {a0 a1 a2 a3 a4 a5 a6 a7 a8 a9 a10 a11 a12 a13 b : Option Value} {r : List (Option Value)} : ls2 v 13 (a0 :: a1 :: a2 :: a3 :: a4 :: a5 :: a6 :: a7 :: a8 :: a9 :: a10 :: a11 :: a12 :: a13 :: b :: r) = a0 :: a1 :: a2 :: a3 :: a4 :: a5 :: a6 :: a7 :: a8 :: a9 :: a10 :: a11 :: a12 :: some v :: none :: r := rfl
end Loc
/-- a loop that counts up -/
theorem loopI (P : Int → Prop) (N : Int) (hend : P N) (hstep : ∀ i, 0 ≤ i → i < N → P (i + 1) → P i) : ∀ i, 0 ≤ i → i ≤ N → P i := by
  intro i h0 h1
  obtain ⟨d, hd⟩ : ∃ d : Nat, N - i = (d : Int) := Int.eq_ofNat_of_zero_le (by omega)
  induction d generalizing i with
  | zero => rw [show i = N by omega]; exact hend
  | succ d ih => exact hstep i h0 (by omega) (ih (i + 1) (by omega) (by omega) (by omega))
theorem loopF (P : Int → Prop) (i0 N : Int) (hend : P N) (hstep : ∀ i, i0 ≤ i → i < N → P (i + 1) → P i) : ∀ i, i0 ≤ i → i ≤ N → P i := by
  intro i h0 h1
  obtain ⟨d, hd⟩ : ∃ d : Nat, N - i = (d : Int) := Int.eq_ofNat_of_zero_le (by omega)
  induction d generalizing i with
  | zero => rw [show i = N by omega]; exact hend
  | succ d ih => exact hstep i h0 (by omega) (ih (i + 1) (by omega) (by omega) (by omega))
end
section
section More
variable {G : GT} {q : MKT} {pc : Nat} {st : List Value} {S : St} {Post : Option Value → St → Prop}
/-- fewer locals known -/
theorem Go.lvw {lv lv' : List (Option Value)} (hv : ∀ i v, lg i lv' = some v → lg i lv = some v) (h : Go G q pc lv' st S Post) : Go G q pc lv st S Post := by
  intro p e R s m args below meth c cells slots Q H locs ls X hc hs K hl hP hS
  refine h p e R s m args below meth c cells slots Q H locs ls X hc hs K ⟨hl.1, hl.2.1, fun z hz => ?_⟩ hP hS
  obtain ⟨k, hk, hv2⟩ := (lvL_mem _ 0 z).mp hz
  exact hl.2.2 z ((lvL_mem _ 0 z).mpr ⟨k, hk, hv k _ hv2⟩)
theorem lg_cons {a b : Option Value} {r r' : List (Option Value)} (h : ∀ i v, lg i r' = some v → lg i r = some v) (ha : b = a ∨ b = none) : ∀ i v, lg i (b :: r') = some v → lg i (a :: r) = some v := by
  intro i v hv
  cases i with
  | zero =>
    rcases ha with rfl | rfl
    · exact hv
    · cases hv
  | succ i => exact h i v hv
theorem fg0 { x : Option Value} {r : List (Option Value)} (h : Go G q pc (none :: r) st S Post) : Go G q pc (x :: r) st S Post := Go.lvw (lg_cons (fun _ _ h => h) (Or.inr rfl)) h
theorem fg1 {a0 x : Option Value} {r : List (Option Value)} (h : Go G q pc (a0 :: none :: r) st S Post) : Go G q pc (a0 :: x :: r) st S Post := Go.lvw (lg_cons (lg_cons (fun _ _ h => h) (Or.inr rfl)) (Or.inl rfl)) h
theorem fg2 {a0 a1 x : Option Value} {r : List (Option Value)} (h : Go G q pc (a0 :: a1 :: none :: r) st S Post) : Go G q pc (a0 :: a1 :: x :: r) st S Post := Go.lvw (lg_cons (lg_cons (lg_cons (fun _ _ h => h) (Or.inr rfl)) (Or.inl rfl)) (Or.inl rfl)) h
theorem fg3 {a0 a1 a2 x : Option Value} {r : List (Option Value)} (h : Go G q pc (a0 :: a1 :: a2 :: none :: r) st S Post) : Go G q pc (a0 :: a1 :: a2 :: x :: r) st S Post := Go.lvw (lg_cons (lg_cons (lg_cons (lg_cons (fun _ _ h => h) (Or.inr rfl)) (Or.inl rfl)) (Or.inl rfl)) (Or.inl rfl)) h
theorem fg4 {a0 a1 a2 a3 x : Option Value} {r : List (Option Value)} (h : Go G q pc (a0 :: a1 :: a2 :: a3 :: none :: r) st S Post) : Go G q pc (a0 :: a1 :: a2 :: a3 :: x :: r) st S Post := Go.lvw (lg_cons (lg_cons (lg_cons (lg_cons (lg_cons (fun _ _ h => h) (Or.inr rfl)) (Or.inl rfl)) (Or.inl rfl)) (Or.inl rfl)) (Or.inl rfl)) h
theorem fg5 {a0 a1 a2 a3 a4 x : Option Value} {r : List (Option Value)} (h : Go G q pc (a0 :: a1 :: a2 :: a3 :: a4 :: none :: r) st S Post) : Go G q pc (a0 :: a1 :: a2 :: a3 :: a4 :: x :: r) st S Post := Go.lvw (lg_cons (lg_cons (lg_cons (lg_cons (lg_cons (lg_cons (fun _ _ h => h) (Or.inr rfl)) (Or.inl rfl)) (Or.inl rfl)) (Or.inl rfl)) (Or.inl rfl)) (Or.inl rfl)) h
theorem fg6 {a0 a1 a2 a3 a4 a5 x : Option Value} {r : List (Option Value)} (h : Go G q pc (a0 :: a1 :: a2 :: a3 :: a4 :: a5 :: none :: r) st S Post) : Go G q pc (a0 :: a1 :: a2 :: a3 :: a4 :: a5 :: x :: r) st S Post := Go.lvw (lg_cons (lg_cons (lg_cons (lg_cons (lg_cons (lg_cons (lg_cons (fun _ _ h => h) (Or.inr rfl)) (Or.inl rfl)) (Or.inl rfl)) (Or.inl rfl)) (Or.inl rfl)) (Or.inl rfl)) (Or.inl rfl)) h
theorem fg7 {a0 a1 a2 a3 a4 a5 a6 x : Option Value} {r : List (Option Value)} (h : Go G q pc (a0 :: a1 :: a2 :: a3 :: a4 :: a5 :: a6 :: none :: r) st S Post) : Go G q pc (a0 :: a1 :: a2 :: a3 :: a4 :: a5 :: a6 :: x :: r) st S Post := Go.lvw (lg_cons (lg_cons (lg_cons (lg_cons (lg_cons (lg_cons (lg_cons (lg_cons (fun _ _ h => h) (Or.inr rfl)) (Or.inl rfl)) (Or.inl rfl)) (Or.inl rfl)) (Or.inl rfl)) (Or.inl rfl)) (Or.inl rfl)) (Or.inl rfl)) h
theorem fg8 {a0 a1 a2 a3 a4 a5 a6 a7 x : Option Value} {r : List (Option Value)} (h : Go G q pc (a0 :: a1 :: a2 :: a3 :: a4 :: a5 :: a6 :: a7 :: none :: r) st S Post) : Go G q pc (a0 :: a1 :: a2 :: a3 :: a4 :: a5 :: a6 :: a7 :: x :: r) st S Post := Go.lvw (lg_cons (lg_cons (lg_cons (lg_cons (lg_cons (lg_cons (lg_cons (lg_cons (lg_cons (fun _ _ h => h) (Or.inr rfl)) (Or.inl rfl)) (Or.inl rfl)) (Or.inl rfl)) (Or.inl rfl)) (Or.inl rfl)) (Or.inl rfl)) (Or.inl rfl)) (Or.inl rfl)) h
theorem fg9 {a0 a1 a2 a3 a4 a5 a6 a7 a8 x : Option Value} {r : List (Option Value)} (h : Go G q pc (a0 :: a1 :: a2 :: a3 :: a4 :: a5 :: a6 :: a7 :: a8 :: none :: r) st S Post) : Go G q pc (a0 :: a1 :: a2 :: a3 :: a4 :: a5 :: a6 :: a7 :: a8 :: x :: r) st S Post := Go.lvw (lg_cons (lg_cons (lg_cons (lg_cons (lg_cons (lg_cons (lg_cons (lg_cons (lg_cons (lg_cons (fun _ _ h => h) (Or.inr rfl)) (Or.inl rfl)) (Or.inl rfl)) (Or.inl rfl)) (Or.inl rfl)) (Or.inl rfl)) (Or.inl rfl)) (Or.inl rfl)) (Or.inl rfl)) (Or.inl rfl)) h
theorem fg10 {a0 a1 a2 a3 a4 a5 a6 a7 a8 a9 x : Option Value} {r : List (Option Value)} (h : Go G q pc (a0 :: a1 :: a2 :: a3 :: a4 :: a5 :: a6 :: a7 :: a8 :: a9 :: none :: r) st S Post) : Go G q pc (a0 :: a1 :: a2 :: a3 :: a4 :: a5 :: a6 :: a7 :: a8 :: a9 :: x :: r) st S Post := Go.lvw (lg_cons (lg_cons (lg_cons (lg_cons (lg_cons (lg_cons (lg_cons (lg_cons (lg_cons (lg_cons (lg_cons (fun _ _ h => h) (Or.inr rfl)) (Or.inl rfl)) (Or.inl rfl)) (Or.inl rfl)) (Or.inl rfl)) (Or.inl rfl)) (Or.inl rfl)) (Or.inl rfl)) (Or.inl rfl)) (Or.inl rfl)) (Or.inl rfl)) h
theorem fg11 {a0 a1 a2 a3 a4 a5 a6 a7 a8 a9 a10 x : Option Value} {r : List (Option Value)} (h : Go G q pc (a0 :: a1 :: a2 :: a3 :: a4 :: a5 :: a6 :: a7 :: a8 :: a9 :: a10 :: none :: r) st S Post) : Go G q pc (a0 :: a1 :: a2 :: a3 :: a4 :: a5 :: a6 :: a7 :: a8 :: a9 :: a10 :: x :: r) st S Post := Go.lvw (lg_cons (lg_cons (lg_cons (lg_cons (lg_cons (lg_cons (lg_cons (lg_cons (lg_cons (lg_cons (lg_cons (lg_cons (fun _ _ h => h) (Or.inr rfl)) (Or.inl rfl)) (Or.inl rfl)) (Or.inl rfl)) (Or.inl rfl)) (Or.inl rfl)) (Or.inl rfl)) (Or.inl rfl)) (Or.inl rfl)) (Or.inl rfl)) (Or.inl rfl)) (Or.inl rfl)) h
theorem fg12 {a0 a1 a2 a3 a4 a5 a6 a7 a8 a9 a10 a11 x : Option Value} {r : List (Option Value)} (h : Go G q pc (a0 :: a1 :: a2 :: a3 :: a4 :: a5 :: a6 :: a7 :: a8 :: a9 :: a10 :: a11 :: none :: r) st S Post) : Go G q pc (a0 :: a1 :: a2 :: a3 :: a4 :: a5 :: a6 :: a7 :: a8 :: a9 :: a10 :: a11 :: x :: r) st S Post := Go.lvw (lg_cons (lg_cons (lg_cons (lg_cons (lg_cons (lg_cons (lg_cons (lg_cons (lg_cons (lg_cons (lg_cons (lg_cons (lg_cons (fun _ _ h => h) (Or.inr rfl)) (Or.inl rfl)) (Or.inl rfl)) (Or.inl rfl)) (Or.inl rfl)) (Or.inl rfl)) (Or.inl rfl)) (Or.inl rfl)) (Or.inl rfl)) (Or.inl rfl)) (Or.inl rfl)) (Or.inl rfl)) (Or.inl rfl)) h
theorem fg13 {a0 a1 a2 a3 a4 a5 a6 a7 a8 a9 a10 a11 a12 x : Option Value} {r : List (Option Value)} (h : Go G q pc (a0 :: a1 :: a2 :: a3 :: a4 :: a5 :: a6 :: a7 :: a8 :: a9 :: a10 :: a11 :: a12 :: none :: r) st S Post) : Go G q pc (a0 :: a1 :: a2 :: a3 :: a4 :: a5 :: a6 :: a7 :: a8 :: a9 :: a10 :: a11 :: a12 :: x :: r) st S Post := Go.lvw (lg_cons (lg_cons (lg_cons (lg_cons (lg_cons (lg_cons (lg_cons (lg_cons (lg_cons (lg_cons (lg_cons (lg_cons (lg_cons (lg_cons (fun _ _ h => h) (Or.inr rfl)) (Or.inl rfl)) (Or.inl rfl)) (Or.inl rfl)) (Or.inl rfl)) (Or.inl rfl)) (Or.inl rfl)) (Or.inl rfl)) (Or.inl rfl)) (Or.inl rfl)) (Or.inl rfl)) (Or.inl rfl)) (Or.inl rfl)) (Or.inl rfl)) h
theorem Go.ste {S' : St} {lv : List (Option Value)} (e : S = S') (h : Go G q pc lv st S' Post) : Go G q pc lv st S Post := e ▸ h
end More
/-! rows copied piece by piece -/
def cpR (A N : Nat → Int) (off k : Nat) : Nat → Int := fun j => if off ≤ j ∧ j < off + k then N (j - off) else A j
def shR (A : Nat → Int) (k : Nat) : Nat → Int := fun j => if j < k then A (j + 402) else A j
end
section
/-! ===== the reference's row 'now', as a mathematical thing ===== -/
abbrev Row : Type := Nat → Int
def lf (N : Row) (i w : Int) : Int := N (7 + 5 * i + w).toNat
def up (N : Row) (k : Nat) (x : Int) : Row := fun j => if j = k then x else N j
theorem up_s (N : Row) (k : Nat) (x : Int) : up N k x k = x := if_pos rfl
theorem up_n {N : Row} {k j : Nat} {x : Int} (h : j ≠ k) : up N k x j = N j := if_neg h
/-- cluster c's field j is the row N -/
def sR (S : St) (c j : Nat) (N : Row) : St := fun c1 j1 i => if c1 = c ∧ j1 = j then N i else S c1 j1 i
theorem sR_s (S : St) (c j : Nat) (N : Row) : sR S c j N c j = N := by funext i; exact if_pos ⟨rfl, rfl⟩
theorem sR_si (S : St) (c j : Nat) (N : Row) (i : Nat) : sR S c j N c j i = N i := if_pos ⟨rfl, rfl⟩
theorem sR_c {S : St} {c j c1 j1 : Nat} {N : Row} (h : c1 ≠ c) : sR S c j N c1 j1 = S c1 j1 := by funext i; exact if_neg (fun q => h q.1)
theorem sR_j {S : St} {c j c1 j1 : Nat} {N : Row} (h : j1 ≠ j) : sR S c j N c1 j1 = S c1 j1 := by funext i; exact if_neg (fun q => h q.2)
theorem sR_ci {S : St} {c j c1 j1 i : Nat} {N : Row} (h : c1 ≠ c) : sR S c j N c1 j1 i = S c1 j1 i := if_neg (fun q => h q.1)
theorem sR_ji {S : St} {c j c1 j1 i : Nat} {N : Row} (h : j1 ≠ j) : sR S c j N c1 j1 i = S c1 j1 i := if_neg (fun q => h q.2)
theorem sR_id (S : St) (c j : Nat) : sR S c j (S c j) = S := by
  funext c1 j1 i
  unfold sR
  split
  next h => rw [h.1, h.2]
  next => rfl
theorem sR_sR (S : St) (c j : Nat) (N N' : Row) : sR (sR S c j N) c j N' = sR S c j N' := by
  funext c1 j1 i
  unfold sR
  split <;> rfl
theorem st3_sR (S : St) (c j i : Nat) (x : Int) : st3 S c j i x = sR S c j (up (S c j) i x) := by
  funext c1 j1 i1
  unfold st3 sR up
  by_cases h : c1 = c ∧ j1 = j
  · obtain ⟨rfl, rfl⟩ := h
    simp
  · rw [if_neg (fun q => h ⟨q.1, q.2.1⟩), if_neg h]
theorem st3_sR2 (S : St) (c j i : Nat) (N : Row) (x : Int) : st3 (sR S c j N) c j i x = sR S c j (up N i x) := by rw [st3_sR, sR_sR, sR_s]
/-! letters that stand -/
def cnt (N : Row) : Nat → Int
  | 0 => 0
  | n + 1 => cnt N n + bI (lf N (n : Int) 3 = -4)
theorem cnt_0 (N : Row) (n : Nat) : 0 ≤ cnt N n ∧ cnt N n ≤ n := by
  induction n with
  | zero => simp [cnt]
  | succ n ih =>
    have := bI_01 (lf N (n : Int) 3 = -4)
    simp only [cnt]
    omega
theorem cnt_mono (N : Row) {m n : Nat} (h : m ≤ n) : cnt N m ≤ cnt N n := by
  induction n with
  | zero => rw [show m = 0 by omega]; exact Int.le_refl _
  | succ n ih =>
    by_cases hm : m = n + 1
    · rw [hm]; exact Int.le_refl _
    · have := ih (by omega)
      have := bI_01 (lf N (n : Int) 3 = -4)
      simp only [cnt]
      omega
theorem cnt_S (N : Row) (i : Int) (h : 0 ≤ i) : cnt N (i + 1).toNat = cnt N i.toNat + bI (lf N i 3 = -4) := by
  rw [show (i + 1).toNat = i.toNat + 1 by omega]
  simp only [cnt]
  rw [show ((i.toNat : Nat) : Int) = i by omega]
/-- the letter that stands at place k; -4: none -/
def sat (N : Row) (k : Int) : Nat → Int
  | 0 => -4
  | n + 1 => if lf N (n : Int) 3 = -4 ∧ cnt N n = k then (n : Int) else sat N k n
theorem sat_at {N : Row} {k : Int} {i n : Nat} (h : i < n) (h1 : lf N (i : Int) 3 = -4) (h2 : cnt N i = k) : sat N k n = i := by
  induction n with
  | zero => omega
  | succ n ih =>
    unfold sat
    by_cases hi : i = n
    · subst hi; rw [if_pos ⟨h1, h2⟩]
    · rw [if_neg ?_]
      · exact ih (by omega)
      · rintro ⟨h3, h4⟩
        have h5 : cnt N (i + 1) ≤ cnt N n := cnt_mono N (by omega)
        simp only [cnt, bI_pos h1] at h5
        omega
theorem sat_no {N : Row} {k : Int} {n : Nat} (h : ∀ i : Nat, i < n → ¬ (lf N (i : Int) 3 = -4 ∧ cnt N i = k)) : sat N k n = -4 := by
  induction n with
  | zero => rfl
  | succ n ih =>
    unfold sat
    rw [if_neg (h n (by omega))]
    exact ih (fun i hi => h i (by omega))
theorem sat_ex {N : Row} {k : Int} {n : Nat} (h0 : 0 ≤ k) (h : k < cnt N n) : ∃ i : Nat, i < n ∧ lf N (i : Int) 3 = -4 ∧ cnt N i = k ∧ sat N k n = i := by
  induction n with
  | zero => simp only [cnt] at h; omega
  | succ n ih =>
    by_cases hk : k < cnt N n
    · obtain ⟨i, h1, h2, h3, -⟩ := ih hk
      exact ⟨i, by omega, h2, h3, sat_at (by omega) h2 h3⟩
    · simp only [cnt] at h
      by_cases hs : lf N (n : Int) 3 = -4
      · rw [bI_pos hs] at h
        exact ⟨n, by omega, hs, by omega, sat_at (by omega) hs (by omega)⟩
      · rw [bI_neg hs] at h; omega
theorem sat_none {N : Row} {k : Int} {n : Nat} (h : k < 0 ∨ cnt N n ≤ k) : sat N k n = -4 := by
  refine sat_no (fun i hi => ?_)
  rintro ⟨h1, h2⟩
  have h3 := cnt_mono N (show i + 1 ≤ n by omega)
  simp only [cnt, bI_pos h1] at h3
  have := (cnt_0 N i).1
  omega
theorem sat_S (N : Row) (k i : Int) (h : 0 ≤ i) : sat N k (i + 1).toNat = if lf N i 3 = -4 ∧ cnt N i.toNat = k then i else sat N k i.toNat := by
  rw [show (i + 1).toNat = i.toNat + 1 by omega]
  show (if lf N ((i.toNat : Nat) : Int) 3 = -4 ∧ cnt N i.toNat = k then ((i.toNat : Nat) : Int) else sat N k i.toNat) = _
  rw [show ((i.toNat : Nat) : Int) = i by omega]
/-! the draw, letters that come, rounds -/
def dr (x : Int) : Int := (x * 1103515245 + 12345) % 2147483648
theorem dr_rg (x : Int) : 0 ≤ dr x ∧ dr x < 2147483648 := ⟨Int.emod_nonneg _ (by decide), Int.emod_lt_of_pos _ (by decide)⟩
def drN (N : Row) : Row := up N 4 (dr (N 4))
def addN (N : Row) (s r : Int) : Row := fun k => if k = 5 then N 5 + 1 else if (k : Int) = 7 + 5 * N 5 then s else if (k : Int) = 7 + 5 * N 5 + 1 then r else if (k : Int) = 7 + 5 * N 5 + 2 then N 6 else if (k : Int) = 7 + 5 * N 5 + 3 then -4 else if (k : Int) = 7 + 5 * N 5 + 4 then -4 else N k
/-- how many of n go, by policy p -/
def shr (N : Row) (p n : Int) : Int := if p = 0 then n else if p = 3 then (n + 1) / 2 else n - N 2
/-- whether n inside begin a round -/
def begP (N : Row) (p : Int) (tk : Prop) (n : Int) : Prop := if p = 0 then ¬ tk ∧ N 1 ≤ n else if p = 1 then ¬ tk ∧ N 1 + N 2 ≤ n else if p = 2 then tk ∧ N 2 < n else tk ∧ 0 < n
def dumN (N : Row) : Nat → Row
  | 0 => N
  | d + 1 => addN (drN (dumN N d)) 8 (dr (dumN N d 4) / 65536 % 8)
/-- letter i goes out as out k of the round that is -/
def goN (N : Row) (i k : Int) : Row := fun j => if (j : Int) = 7 + 5 * i + 3 then N 6 else if (j : Int) = 7 + 5 * i + 4 then k else N j
def out1 (N : Row) (k : Int) : Row := goN (drN N) (sat N (dr (N 4) / 65536 % cnt N (N 5).toNat) (N 5).toNat) k
def outsN (N : Row) : Nat → Row
  | 0 => N
  | k + 1 => out1 (outsN N k) k
def rndGo (N : Row) : Int := shr N (N 0) (cnt (dumN N (N 3).toNat) ((N 5) + (N 3)).toNat)
def rndN (N : Row) : Row := up (outsN (dumN N (N 3).toNat) (rndGo N).toNat) 6 (N 6 + 1)
end
section
/-! ===== facts of rows ===== -/
def NR (N : Row) : Prop := (∀ k, -2147483648 ≤ N k ∧ N k < 2147483648) ∧ (0 ≤ N 0 ∧ N 0 ≤ 3) ∧ (1 ≤ N 1 ∧ N 1 ≤ 8) ∧ (0 ≤ N 2 ∧ N 2 ≤ 4) ∧ (0 ≤ N 3 ∧ N 3 ≤ 3) ∧ (0 ≤ N 4 ∧ N 4 < 2147483648) ∧ (0 ≤ N 5 ∧ N 5 ≤ 79) ∧ (0 ≤ N 6 ∧ N 6 ≤ 12)
theorem cnt_ext {N N' : Row} {n : Nat} (h : ∀ i : Nat, i < n → (lf N' (i : Int) 3 = -4 ↔ lf N (i : Int) 3 = -4)) : cnt N' n = cnt N n := by
  induction n with
  | zero => rfl
  | succ n ih =>
    simp only [cnt]
    rw [ih (fun i hi => h i (by omega))]
    have := h n (by omega)
    unfold bI
    simp only [this]
theorem sat_ext {N N' : Row} {k : Int} {n : Nat} (h : ∀ i : Nat, i < n → (lf N' (i : Int) 3 = -4 ↔ lf N (i : Int) 3 = -4)) : sat N' k n = sat N k n := by
  induction n with
  | zero => rfl
  | succ n ih =>
    unfold sat
    rw [ih (fun i hi => h i (by omega)), cnt_ext (N := N) (N' := N') (fun i hi => h i (by omega))]
    simp only [h n (by omega)]
theorem drN_lf (N : Row) {i w : Int} (hi : 0 ≤ i) (hw : 0 ≤ w) : lf (drN N) i w = lf N i w := by unfold lf drN; exact up_n (by omega)
theorem drN_cnt (N : Row) (n : Nat) : cnt (drN N) n = cnt N n := cnt_ext (fun i _ => by rw [drN_lf N (by omega) (by omega)])
theorem drN_sat (N : Row) (k : Int) (n : Nat) : sat (drN N) k n = sat N k n := sat_ext (fun i _ => by rw [drN_lf N (by omega) (by omega)])
theorem drN_4 (N : Row) : drN N 4 = dr (N 4) := up_s _ _ _
theorem drN_k (N : Row) {k : Nat} (h : k ≠ 4) : drN N k = N k := up_n h
theorem NR.dr {N : Row} (h : NR N) : NR (drN N) := by
  have h4 := dr_rg (N 4)
  obtain ⟨a, b, c, d, e, f, g, i⟩ := h
  refine ⟨fun k => ?_, ?_, ?_, ?_, ?_, ?_, ?_, ?_⟩
  · by_cases hk : k = 4
    · rw [hk, drN_4]; omega
    · rw [drN_k N hk]; exact a k
  · rw [drN_k N (by decide)]; exact b
  · rw [drN_k N (by decide)]; exact c
  · rw [drN_k N (by decide)]; exact d
  · rw [drN_k N (by decide)]; exact e
  · rw [drN_4]; exact h4
  · rw [drN_k N (by decide)]; exact g
  · rw [drN_k N (by decide)]; exact i
theorem addN_5 (N : Row) (s r : Int) : addN N s r 5 = N 5 + 1 := rfl
theorem addN_k {N : Row} {s r : Int} {k : Nat} (h5 : 0 ≤ N 5) (hk : k < 7) (hn : k ≠ 5) : addN N s r k = N k := by
  unfold addN
  rw [if_neg hn, if_neg (by omega), if_neg (by omega), if_neg (by omega), if_neg (by omega), if_neg (by omega)]
theorem addN_old {N : Row} {s r : Int} {i w : Int} (hi : 0 ≤ i) (h : i < N 5) (hw : 0 ≤ w) (hw2 : w < 5) : lf (addN N s r) i w = lf N i w := by
  unfold lf addN
  rw [if_neg (by omega), if_neg (by omega), if_neg (by omega), if_neg (by omega), if_neg (by omega), if_neg (by omega)]
theorem addN_new {N : Row} {s r : Int} (h5 : 0 ≤ N 5) : lf (addN N s r) (N 5) 0 = s ∧ lf (addN N s r) (N 5) 1 = r ∧ lf (addN N s r) (N 5) 2 = N 6 ∧ lf (addN N s r) (N 5) 3 = -4 ∧ lf (addN N s r) (N 5) 4 = -4 := by
  unfold lf addN
  refine ⟨?_, ?_, ?_, ?_, ?_⟩
  · rw [if_neg (by omega), if_pos (by omega)]
  · rw [if_neg (by omega), if_neg (by omega), if_pos (by omega)]
  · rw [if_neg (by omega), if_neg (by omega), if_neg (by omega), if_pos (by omega)]
  · rw [if_neg (by omega), if_neg (by omega), if_neg (by omega), if_neg (by omega), if_pos (by omega)]
  · rw [if_neg (by omega), if_neg (by omega), if_neg (by omega), if_neg (by omega), if_neg (by omega), if_pos (by omega)]
theorem addN_cnt0 {N : Row} {s r : Int} {n : Nat} (hn : (n : Int) ≤ N 5) : cnt (addN N s r) n = cnt N n := cnt_ext (fun i hi => by rw [addN_old (by omega) (by omega) (by omega) (by omega)])
theorem addN_cnt {N : Row} {s r : Int} (h5 : 0 ≤ N 5) : cnt (addN N s r) (N 5 + 1).toNat = cnt N (N 5).toNat + 1 := by
  rw [cnt_S _ _ h5, addN_cnt0 (by omega), bI_pos (addN_new h5).2.2.2.1]
theorem NR.add {N : Row} {s r : Int} (h : NR N) (h79 : N 5 < 79) (hs : -2147483648 ≤ s ∧ s < 2147483648) (hr : -2147483648 ≤ r ∧ r < 2147483648) : NR (addN N s r) := by
  obtain ⟨a, b, c, d, e, f, g, i⟩ := h
  refine ⟨fun k => ?_, ?_, ?_, ?_, ?_, ?_, ?_, ?_⟩
  · unfold addN
    have := a k
    (repeat' split) <;> omega
  · rw [addN_k g.1 (by decide) (by decide)]; exact b
  · rw [addN_k g.1 (by decide) (by decide)]; exact c
  · rw [addN_k g.1 (by decide) (by decide)]; exact d
  · rw [addN_k g.1 (by decide) (by decide)]; exact e
  · rw [addN_k g.1 (by decide) (by decide)]; exact f
  · rw [addN_5]; omega
  · rw [addN_k g.1 (by decide) (by decide)]; exact i
theorem goN_k {N : Row} {i k : Int} {j : Nat} (hi : 0 ≤ i) (hj : j < 7) : goN N i k j = N j := by
  unfold goN
  rw [if_neg (by omega), if_neg (by omega)]
theorem goN_3 {N : Row} {i k : Int} (hi : 0 ≤ i) : lf (goN N i k) i 3 = N 6 := by unfold lf goN; rw [if_pos (by omega)]
theorem goN_4 {N : Row} {i k : Int} (hi : 0 ≤ i) : lf (goN N i k) i 4 = k := by unfold lf goN; rw [if_neg (by omega), if_pos (by omega)]
theorem goN_o {N : Row} {i k i1 w : Int} (hi : 0 ≤ i) (hi1 : 0 ≤ i1) (hw : 0 ≤ w ∧ w < 5) (h : i1 ≠ i ∨ w < 3) : lf (goN N i k) i1 w = lf N i1 w := by unfold lf goN; rw [if_neg (by omega), if_neg (by omega)]
theorem goN_cnt {N : Row} {i k : Int} (h6 : 0 ≤ N 6) (hi : 0 ≤ i) (hs : lf N i 3 = -4) : ∀ n : Nat, cnt (goN N i k) n = if i < n then cnt N n - 1 else cnt N n := by
  intro n
  induction n with
  | zero => rw [if_neg (by omega)]; rfl
  | succ n ih =>
    simp only [cnt]
    rw [ih]
    by_cases hn : i = n
    · subst hn
      rw [if_neg (by omega), if_pos (by omega), goN_3 hi, bI_neg (by omega), bI_pos hs]
      omega
    · rw [goN_o hi (by omega) (by omega) (Or.inl (fun e => hn e.symm))]
      by_cases hl : i < n
      · rw [if_pos hl, if_pos (by omega)]; omega
      · rw [if_neg hl, if_neg (by omega)]
theorem NR.go {N : Row} {i k : Int} (h : NR N) (hi : 0 ≤ i) (hk : -2147483648 ≤ k ∧ k < 2147483648) : NR (goN N i k) := by
  obtain ⟨a, b, c, d, e, f, g, z⟩ := h
  refine ⟨fun j => ?_, ?_, ?_, ?_, ?_, ?_, ?_, ?_⟩
  · unfold goN
    have := a j
    (repeat' split) <;> omega
  · rw [goN_k hi (by decide)]; exact b
  · rw [goN_k hi (by decide)]; exact c
  · rw [goN_k hi (by decide)]; exact d
  · rw [goN_k hi (by decide)]; exact e
  · rw [goN_k hi (by decide)]; exact f
  · rw [goN_k hi (by decide)]; exact g
  · rw [goN_k hi (by decide)]; exact z
/-- dummies that came -/
theorem dum_f {N : Row} (h : NR N) : ∀ d : Nat, N 5 + d ≤ 79 → NR (dumN N d) ∧ dumN N d 5 = N 5 + d ∧ (∀ k, k < 7 → k ≠ 4 → k ≠ 5 → dumN N d k = N k) ∧ cnt (dumN N d) (N 5 + d).toNat = cnt N (N 5).toNat + d := by
  intro d
  induction d with
  | zero => intro _; exact ⟨h, by simp [dumN], fun _ _ _ _ => rfl, by simp [dumN]⟩
  | succ d ih =>
    intro hd
    obtain ⟨h1, h2, h3, h4⟩ := ih (by omega)
    have h5 : 0 ≤ N 5 := h.2.2.2.2.2.2.1.1
    have hx := dr_rg (dumN N d 4)
    have e5 : drN (dumN N d) 5 = N 5 + d := by rw [drN_k _ (by decide), h2]
    refine ⟨?_, ?_, ?_, ?_⟩
    · exact h1.dr.add (by omega) (by decide) (by omega)
    · show addN _ _ _ 5 = _
      rw [addN_5, e5]; omega
    · intro k hk hk4 hk5
      show addN _ _ _ k = _
      rw [addN_k (by omega) hk hk5, drN_k _ hk4, h3 k hk hk4 hk5]
    · show cnt (addN _ _ _) _ = _
      have := addN_cnt (N := drN (dumN N d)) (s := 8) (r := dr (dumN N d 4) / 65536 % 8) (by omega)
      rw [e5] at this
      rw [show (N 5 + ((d + 1 : Nat) : Int)).toNat = (N 5 + d + 1).toNat by omega, this, drN_cnt, h4]
      omega
theorem out1_i {N : Row} (h : NR N) (hc : 0 < cnt N (N 5).toNat) : ∃ i : Nat, (i : Int) < N 5 ∧ lf N (i : Int) 3 = -4 ∧ cnt N i = dr (N 4) / 65536 % cnt N (N 5).toNat ∧ sat N (dr (N 4) / 65536 % cnt N (N 5).toNat) (N 5).toNat = i := by
  obtain ⟨i, h1, h2, h3, h4⟩ := sat_ex (N := N) (k := dr (N 4) / 65536 % cnt N (N 5).toNat) (n := (N 5).toNat) (Int.emod_nonneg _ (by omega)) (Int.emod_lt_of_pos _ hc)
  exact ⟨i, by omega, h2, h3, h4⟩
theorem out1_f {N : Row} (h : NR N) (k : Int) (hk : -2147483648 ≤ k ∧ k < 2147483648) (hc : 0 < cnt N (N 5).toNat) : NR (out1 N k) ∧ (∀ j, j < 7 → j ≠ 4 → out1 N k j = N j) ∧ cnt (out1 N k) (N 5).toNat = cnt N (N 5).toNat - 1 := by
  obtain ⟨i, h1, h2, h3, h4⟩ := out1_i h hc
  have h6 : 0 ≤ N 6 := h.2.2.2.2.2.2.2.1
  unfold out1
  rw [h4]
  refine ⟨h.dr.go (by omega) hk, fun j hj hj4 => ?_, ?_⟩
  · rw [goN_k (by omega) hj, drN_k _ hj4]
  · rw [goN_cnt (by rw [drN_k _ (by decide)]; exact h6) (by omega) (by rw [drN_lf _ (by omega) (by omega)]; exact h2), drN_cnt, if_pos (by omega)]
theorem outs_f {N : Row} (h : NR N) : ∀ k : Nat, (k : Int) ≤ cnt N (N 5).toNat → NR (outsN N k) ∧ (∀ j, j < 7 → j ≠ 4 → outsN N k j = N j) ∧ cnt (outsN N k) (N 5).toNat = cnt N (N 5).toNat - k := by
  intro k
  induction k with
  | zero => intro _; exact ⟨h, fun _ _ _ => rfl, by simp [outsN]⟩
  | succ k ih =>
    intro hk
    obtain ⟨h1, h2, h3⟩ := ih (by omega)
    have e5 := h2 5 (by decide) (by decide)
    have hc := (cnt_0 N (N 5).toNat).2
    have h79 := h.2.2.2.2.2.2.1
    obtain ⟨g1, g2, g3⟩ := out1_f h1 (k : Int) (by omega) (by rw [e5, h3]; omega)
    rw [e5] at g3
    exact ⟨g1, fun j hj hj4 => (g2 j hj hj4).trans (h2 j hj hj4), by show cnt (out1 (outsN N k) k) _ = _; rw [g3, h3]; omega⟩
theorem up_up (N : Row) (k : Nat) (x y : Int) : up (up N k x) k y = up N k y := by
  funext j; unfold up; split <;> rfl
noncomputable abbrev bC (p : Prop) : Int := @bI p (Classical.propDecidable p)
theorem bC1 {p : Prop} (h : p) : (1 : Int) = bC p := (@bI_pos p (Classical.propDecidable p) h).symm
theorem bC0 {p : Prop} (h : ¬ p) : (0 : Int) = bC p := (@bI_neg p (Classical.propDecidable p) h).symm
theorem bC01 (p : Prop) : bC p = 0 ∨ bC p = 1 := @bI_01 p (Classical.propDecidable p)
theorem sat_atI {N : Row} {k i m : Int} (h0 : 0 ≤ i) (h : i < m) (h1 : lf N i 3 = -4) (h2 : cnt N i.toNat = k) : i = sat N k m.toNat := by
  obtain ⟨n, rfl⟩ := Int.eq_ofNat_of_zero_le h0
  exact (sat_at (by omega) h1 h2).symm
end
section
section Model1
variable {G : GT} {S : St}
theorem c_M_in (v a b : Int) (h1 : -9223372036854775808 ≤ v ∧ v < 9223372036854775808) (h2 : -9223372036854775808 ≤ a ∧ a < 9223372036854775808) (h3 : -9223372036854775808 ≤ b ∧ b < 9223372036854775808) : Fn G k_M_in [vL v, vL a, vL b] S (PV (vI (bI (a ≤ v ∧ v ≤ b))) S) := by
  refine Fn.of [some (vL v), none, some (vL a), none, some (vL b), none] 0 rfl (by decide +kernel) rfl (Nat.le_of_ble_eq_true rfl) (by decide) ?_
  refine Go_lload d_M_in_0 lg0 ?_
  refine Go_lload d_M_in_1 lg2 ?_
  refine Go_lcmp d_M_in_2 (by omega) (by omega) ?_
  refine Go_ifc_lt d_M_in_3 (fun h3 => ?_) (fun h3 => ?_)
  · refine Go_const d_M_in_17 ?_
    exact Go_zretV d_M_in_18 (by first | exact Or.inl rfl | exact Or.inr rfl | exact bI_01 _) (by first | rfl | exact (bI_pos (by omega)).symm | exact (bI_neg (by omega)).symm)
  · refine Go_lload d_M_in_6 lg0 ?_
    refine Go_lload d_M_in_7 lg4 ?_
    refine Go_lcmp d_M_in_9 (by omega) (by omega) ?_
    refine Go_ifc_gt d_M_in_10 (fun h10 => ?_) (fun h10 => ?_)
    · refine Go_const d_M_in_17 ?_
      exact Go_zretV d_M_in_18 (by first | exact Or.inl rfl | exact Or.inr rfl | exact bI_01 _) (by first | rfl | exact (bI_pos (by omega)).symm | exact (bI_neg (by omega)).symm)
    · refine Go_const d_M_in_13 ?_
      refine Go_goto d_M_in_14 ?_
      exact Go_zretV d_M_in_18 (by first | exact Or.inl rfl | exact Or.inr rfl | exact bI_01 _) (by first | rfl | exact (bI_pos (by omega)).symm | exact (bI_neg (by omega)).symm)
theorem c_M_of (i k : Int) (h : 0 ≤ 7 + 5 * i + k ∧ 7 + 5 * i + k < 402) : Fn G k_M_of [oR G 22, vI i, vI k] S (PV (vI (lf (S 22 0) i k)) S) := by
  refine Fn.of [some (oR G 22), some (vI i), some (vI k)] 0 rfl (by decide +kernel) rfl (Nat.le_of_ble_eq_true rfl) (by decide) ?_
  refine Go_aload d_M_of_0 lg0 ⟨_, rfl⟩ ?_
  refine Go_get d_M_of_1 fm_0 ?_
  refine Go_const d_M_of_4 ?_
  refine Go_const d_M_of_6 ?_
  refine Go_iload d_M_of_7 lg1 ?_
  refine Go_imul d_M_of_8 ?_
  refine Go_iadd d_M_of_9 ?_
  refine Go_iload d_M_of_10 lg2 ?_
  refine Go_iadd d_M_of_11 ?_
  refine Go_iald d_M_of_12 am_0 (by omega) ?_
  exact Go_iretV d_M_of_13 (by first | rfl | omega)
theorem c_M_isLetter (i : Int) (hi : -2147483648 ≤ i ∧ i < 2147483648) (hm : 0 ≤ S 22 0 5 ∧ S 22 0 5 ≤ 79) : Fn G k_M_isLetter [oR G 22, vI i] S (PV (vI (bI (0 ≤ i ∧ i ≤ S 22 0 5 - 1))) S) := by
  refine Fn.of [some (oR G 22), some (vI i)] 0 rfl (by decide +kernel) rfl (Nat.le_of_ble_eq_true rfl) (by decide) ?_
  refine Go_iload d_M_isLetter_0 lg1 ?_
  refine Go_i2l d_M_isLetter_1 (by omega) ?_
  refine Go_lconst d_M_isLetter_2 ?_
  refine Go_aload d_M_isLetter_3 lg0 ⟨_, rfl⟩ ?_
  refine Go_get d_M_isLetter_4 fm_0 ?_
  refine Go_const d_M_isLetter_7 ?_
  refine Go_ialdC (k0 := 5) d_M_isLetter_8 am_0 rfl (by decide) ?_
  refine Go_const d_M_isLetter_9 ?_
  refine Go_isub d_M_isLetter_10 ?_
  refine Go_i2l d_M_isLetter_11 (by omega) ?_
  refine Go_S3p d_M_isLetter_12 (c_M_in _ _ _ (by omega) (by omega) (by omega)) (Nat.le_of_ble_eq_true rfl) ?_
  exact Go_zretV d_M_isLetter_15 (by first | exact Or.inl rfl | exact Or.inr rfl | exact bI_01 _) (by first | rfl | exact (bI_pos (by omega)).symm | exact (bI_neg (by omega)).symm)
theorem c_M_isRound (i : Int) (hi : -2147483648 ≤ i ∧ i < 2147483648) (hm : 0 ≤ S 22 0 6 ∧ S 22 0 6 ≤ 79) : Fn G k_M_isRound [oR G 22, vI i] S (PV (vI (bI (0 ≤ i ∧ i ≤ S 22 0 6 - 1))) S) := by
  refine Fn.of [some (oR G 22), some (vI i)] 0 rfl (by decide +kernel) rfl (Nat.le_of_ble_eq_true rfl) (by decide) ?_
  refine Go_iload d_M_isRound_0 lg1 ?_
  refine Go_i2l d_M_isRound_1 (by omega) ?_
  refine Go_lconst d_M_isRound_2 ?_
  refine Go_aload d_M_isRound_3 lg0 ⟨_, rfl⟩ ?_
  refine Go_get d_M_isRound_4 fm_0 ?_
  refine Go_const d_M_isRound_7 ?_
  refine Go_ialdC (k0 := 6) d_M_isRound_9 am_0 rfl (by decide) ?_
  refine Go_const d_M_isRound_10 ?_
  refine Go_isub d_M_isRound_11 ?_
  refine Go_i2l d_M_isRound_12 (by omega) ?_
  refine Go_S3p d_M_isRound_13 (c_M_in _ _ _ (by omega) (by omega) (by omega)) (Nat.le_of_ble_eq_true rfl) ?_
  exact Go_zretV d_M_isRound_16 (by first | exact Or.inl rfl | exact Or.inr rfl | exact bI_01 _) (by first | rfl | exact (bI_pos (by omega)).symm | exact (bI_neg (by omega)).symm)
theorem c_M_stands (i : Int) (hi : 0 ≤ i ∧ i < 79) (hr : ∀ k, -2147483648 ≤ S 22 0 k ∧ S 22 0 k < 2147483648) : Fn G k_M_stands [oR G 22, vI i] S (PV (vI (bI (lf (S 22 0) i 3 = -4))) S) := by
  refine Fn.of [some (oR G 22), some (vI i)] 0 rfl (by decide +kernel) rfl (Nat.le_of_ble_eq_true rfl) (by decide) ?_
  refine Go_aload d_M_stands_0 lg0 ⟨_, rfl⟩ ?_
  refine Go_iload d_M_stands_1 lg1 ?_
  refine Go_const d_M_stands_2 ?_
  refine Go_V2p d_M_stands_3 kM (c_M_of _ _ (by omega)) (Nat.le_of_ble_eq_true rfl) ?_
  refine Go_const d_M_stands_6 ?_
  refine Go_icmp_ne d_M_stands_8 (by first | omega | exact hr _) (by first | omega | exact hr _) (fun h8 => ?_) (fun h8 => ?_)
  · refine Go_const d_M_stands_15 ?_
    exact Go_zretV d_M_stands_16 (by first | exact Or.inl rfl | exact Or.inr rfl | exact bI_01 _) (by first | rfl | exact (bI_pos (by omega)).symm | exact (bI_neg (by omega)).symm)
  · refine Go_const d_M_stands_11 ?_
    refine Go_goto d_M_stands_12 ?_
    exact Go_zretV d_M_stands_16 (by first | exact Or.inl rfl | exact Or.inr rfl | exact bI_01 _) (by first | rfl | exact (bI_pos (by omega)).symm | exact (bI_neg (by omega)).symm)
theorem c_M_isOwn (i : Int) (hi : 0 ≤ i ∧ i < 79) (hr : ∀ k, -2147483648 ≤ S 22 0 k ∧ S 22 0 k < 2147483648) : Fn G k_M_isOwn [oR G 22, vI i] S (PV (vI (bI (lf (S 22 0) i 0 = 9))) S) := by
  refine Fn.of [some (oR G 22), some (vI i)] 0 rfl (by decide +kernel) rfl (Nat.le_of_ble_eq_true rfl) (by decide) ?_
  refine Go_aload d_M_isOwn_0 lg0 ⟨_, rfl⟩ ?_
  refine Go_iload d_M_isOwn_1 lg1 ?_
  refine Go_const d_M_isOwn_2 ?_
  refine Go_V2p d_M_isOwn_3 kM (c_M_of _ _ (by omega)) (Nat.le_of_ble_eq_true rfl) ?_
  refine Go_const d_M_isOwn_6 ?_
  refine Go_icmp_ne d_M_isOwn_8 (by first | omega | exact hr _) (by first | omega | exact hr _) (fun h8 => ?_) (fun h8 => ?_)
  · refine Go_const d_M_isOwn_15 ?_
    exact Go_zretV d_M_isOwn_16 (by first | exact Or.inl rfl | exact Or.inr rfl | exact bI_01 _) (by first | rfl | exact (bI_pos (by omega)).symm | exact (bI_neg (by omega)).symm)
  · refine Go_const d_M_isOwn_11 ?_
    refine Go_goto d_M_isOwn_12 ?_
    exact Go_zretV d_M_isOwn_16 (by first | exact Or.inl rfl | exact Or.inr rfl | exact bI_01 _) (by first | rfl | exact (bI_pos (by omega)).symm | exact (bI_neg (by omega)).symm)
theorem c_M_standing (hm : 0 ≤ S 22 0 5 ∧ S 22 0 5 ≤ 79) (hr : ∀ k, -2147483648 ≤ S 22 0 k ∧ S 22 0 k < 2147483648) : Fn G k_M_standing [oR G 22] S (PV (vI (cnt (S 22 0) (S 22 0 5).toNat)) S) := by
  refine Fn.of [some (oR G 22), none, none] 2 rfl (by decide +kernel) rfl (Nat.le_of_ble_eq_true rfl) (by decide) ?_

  have loop := loopI (fun i => ∀ n : Int, n = cnt (S 22 0) i.toNat → Go G k_M_standing 4 [some (oR G 22), some (vI n), some (vI i)] [] S (PV (vI (cnt (S 22 0) (S 22 0 5).toNat)) S)) (S 22 0 5) ?_ ?_
  refine Go_const d_M_standing_0 ?_
  refine Go_istore d_M_standing_1 rfl sa1 ?_
  refine Go_const d_M_standing_2 ?_
  refine Go_istore d_M_standing_3 rfl sa2 ?_
  exact loop 0 (by omega) (by omega) 0 rfl
  · intro n hn
    refine Go_iload d_M_standing_4 lg2 ?_
    refine Go_aload d_M_standing_5 lg0 ⟨_, rfl⟩ ?_
    refine Go_get d_M_standing_6 fm_0 ?_
    refine Go_const d_M_standing_9 ?_
    refine Go_ialdC (k0 := 5) d_M_standing_10 am_0 rfl (by decide) ?_
    refine Go_icmp_ge d_M_standing_11 (by first | omega | exact hr _) (by first | omega | exact hr _) (fun h11 => ?_) (fun h11 => absurd h11 (by omega))
    refine Go_iload d_M_standing_36 lg1 ?_
    exact Go_iretV d_M_standing_37 hn
  · intro i h0 h1 ih n hn
    refine Go_iload d_M_standing_4 lg2 ?_
    refine Go_aload d_M_standing_5 lg0 ⟨_, rfl⟩ ?_
    refine Go_get d_M_standing_6 fm_0 ?_
    refine Go_const d_M_standing_9 ?_
    refine Go_ialdC (k0 := 5) d_M_standing_10 am_0 rfl (by decide) ?_
    refine Go_icmp_ge d_M_standing_11 (by first | omega | exact hr _) (by first | omega | exact hr _) (fun h11 => absurd h11 (by omega)) (fun h11 => ?_)
    refine Go_iload d_M_standing_14 lg1 ?_
    refine Go_aload d_M_standing_15 lg0 ⟨_, rfl⟩ ?_
    refine Go_iload d_M_standing_16 lg2 ?_
    refine Go_V1p d_M_standing_17 kM (c_M_stands _ (by omega) hr) (Nat.le_of_ble_eq_true rfl) ?_
    refine Go_ifeq_b d_M_standing_20 (fun h20 => ?_) (fun h20 => ?_)
    · refine Go_const d_M_standing_27 ?_
      refine Go_iadd d_M_standing_28 ?_
      refine Go_istore d_M_standing_29 rfl sa1 ?_
      refine Go_iinc d_M_standing_30 lg2 rfl sa2 ?_
      refine Go_goto d_M_standing_33 ?_
      exact ih _ (by rw [cnt_S _ _ h0]; (first | rw [bI_pos (by assumption)] | rw [bI_neg (by assumption)]); omega)
    · refine Go_const d_M_standing_23 ?_
      refine Go_goto d_M_standing_24 ?_
      refine Go_iadd d_M_standing_28 ?_
      refine Go_istore d_M_standing_29 rfl sa1 ?_
      refine Go_iinc d_M_standing_30 lg2 rfl sa2 ?_
      refine Go_goto d_M_standing_33 ?_
      exact ih _ (by rw [cnt_S _ _ h0]; (first | rw [bI_pos (by assumption)] | rw [bI_neg (by assumption)]); omega)
theorem c_M_standsAt (k : Int) (hk : -2147483648 ≤ k ∧ k < 2147483648) (hm : 0 ≤ S 22 0 5 ∧ S 22 0 5 ≤ 79) (hr : ∀ k, -2147483648 ≤ S 22 0 k ∧ S 22 0 k < 2147483648) : Fn G k_M_standsAt [oR G 22, vI k] S (PV (vI (sat (S 22 0) k (S 22 0 5).toNat)) S) := by
  refine Fn.of [some (oR G 22), some (vI k), none, none] 2 rfl (by decide +kernel) rfl (Nat.le_of_ble_eq_true rfl) (by decide) ?_

  have loop := loopI (fun i => ∀ n : Int, n = cnt (S 22 0) i.toNat → sat (S 22 0) k i.toNat = -4 → Go G k_M_standsAt 4 [some (oR G 22), some (vI k), some (vI n), some (vI i)] [] S (PV (vI (sat (S 22 0) k (S 22 0 5).toNat)) S)) (S 22 0 5) ?_ ?_
  refine Go_const d_M_standsAt_0 ?_
  refine Go_istore d_M_standsAt_1 rfl sa2 ?_
  refine Go_const d_M_standsAt_2 ?_
  refine Go_istore d_M_standsAt_3 rfl sa3 ?_
  exact loop 0 (by omega) (by omega) 0 rfl rfl
  · intro n hn hs
    refine Go_iload d_M_standsAt_4 lg3 ?_
    refine Go_aload d_M_standsAt_5 lg0 ⟨_, rfl⟩ ?_
    refine Go_get d_M_standsAt_6 fm_0 ?_
    refine Go_const d_M_standsAt_9 ?_
    refine Go_ialdC (k0 := 5) d_M_standsAt_10 am_0 rfl (by decide) ?_
    refine Go_icmp_ge d_M_standsAt_11 (by first | omega | exact hr _) (by first | omega | exact hr _) (fun h11 => ?_) (fun h11 => absurd h11 (by omega))
    refine Go_const d_M_standsAt_38 ?_
    exact Go_iretV d_M_standsAt_40 hs.symm
  · intro i h0 h1 ih n hn hs
    have hc := cnt_0 (S 22 0) i.toNat
    refine Go_iload d_M_standsAt_4 lg3 ?_
    refine Go_aload d_M_standsAt_5 lg0 ⟨_, rfl⟩ ?_
    refine Go_get d_M_standsAt_6 fm_0 ?_
    refine Go_const d_M_standsAt_9 ?_
    refine Go_ialdC (k0 := 5) d_M_standsAt_10 am_0 rfl (by decide) ?_
    refine Go_icmp_ge d_M_standsAt_11 (by first | omega | exact hr _) (by first | omega | exact hr _) (fun h11 => absurd h11 (by omega)) (fun h11 => ?_)
    refine Go_aload d_M_standsAt_14 lg0 ⟨_, rfl⟩ ?_
    refine Go_iload d_M_standsAt_15 lg3 ?_
    refine Go_V1p d_M_standsAt_16 kM (c_M_stands _ (by omega) hr) (Nat.le_of_ble_eq_true rfl) ?_
    refine Go_ifeq_b d_M_standsAt_19 (fun h19 => ?_) (fun h19 => ?_)
    · refine Go_iinc d_M_standsAt_32 lg3 rfl sa3 ?_
      refine Go_goto d_M_standsAt_35 ?_
      exact ih _ (by rw [cnt_S _ _ h0]; (first | rw [bI_pos (by assumption)] | rw [bI_neg (by assumption)]); omega) (by rw [sat_S _ _ _ h0, if_neg (by rintro ⟨z1, z2⟩; first | contradiction | omega)]; exact hs)
    · refine Go_iload d_M_standsAt_22 lg2 ?_
      refine Go_iload d_M_standsAt_23 lg1 ?_
      refine Go_icmp_ne d_M_standsAt_24 (by first | omega | exact hr _) (by first | omega | exact hr _) (fun h24 => ?_) (fun h24 => ?_)
      · refine Go_iinc d_M_standsAt_29 lg2 rfl sa2 ?_
        refine Go_iinc d_M_standsAt_32 lg3 rfl sa3 ?_
        refine Go_goto d_M_standsAt_35 ?_
        exact ih _ (by rw [cnt_S _ _ h0]; (first | rw [bI_pos (by assumption)] | rw [bI_neg (by assumption)]); omega) (by rw [sat_S _ _ _ h0, if_neg (by rintro ⟨z1, z2⟩; first | contradiction | omega)]; exact hs)
      · refine Go_iload d_M_standsAt_27 lg3 ?_
        exact Go_iretV d_M_standsAt_28 (sat_atI h0 h1 (by assumption) (by omega))
theorem c_M_draws (hd : 0 ≤ S 22 0 4 ∧ S 22 0 4 < 2147483648) : Fn G k_M_draws [oR G 22] S (PI (fun z S1 => z = dr (S 22 0 4) / 65536 ∧ S1 = sR S 22 0 (drN (S 22 0)))) := by
  refine Fn.of [some (oR G 22), none, none] 2 rfl (by decide +kernel) rfl (Nat.le_of_ble_eq_true rfl) (by decide) ?_
  refine Go_aload d_M_draws_0 lg0 ⟨_, rfl⟩ ?_
  refine Go_get d_M_draws_1 fm_0 ?_
  refine Go_const d_M_draws_4 ?_
  refine Go_ialdC (k0 := 4) d_M_draws_5 am_0 rfl (by decide) ?_
  refine Go_i2l d_M_draws_6 (by omega) ?_
  refine Go_lconst d_M_draws_7 ?_
  refine Go_lmul d_M_draws_10 ?_
  refine Go_lconst d_M_draws_11 ?_
  refine Go_ladd d_M_draws_14 ?_
  refine Go_lconst d_M_draws_15 ?_
  refine Go_lrem d_M_draws_18 (by omega) (by omega) ?_
  refine Go_lstore d_M_draws_19 rfl sb1 ?_
  refine Go_aload d_M_draws_20 lg0 ⟨_, rfl⟩ ?_
  refine Go_get d_M_draws_21 fm_0 ?_
  refine Go_const d_M_draws_24 ?_
  refine Go_lload d_M_draws_25 lg1 ?_
  refine Go_l2i d_M_draws_26 ?_
  refine Go_iastC (k0 := 4) d_M_draws_27 am_0 rfl (by decide) ?_
  refine Go_lload d_M_draws_28 lg1 ?_
  refine Go_lconst d_M_draws_29 ?_
  refine Go_ldiv d_M_draws_32 (by omega) (by omega) ?_
  refine Go_l2i d_M_draws_33 ?_
  exact Go_iretI d_M_draws_34 ⟨rfl, st3_sR _ _ _ _ _⟩
theorem c_M_adds (a r : Int) (hm : 0 ≤ S 22 0 5 ∧ S 22 0 5 < 79) : Fn G k_M_adds [oR G 22, vI a, vI r] S (PN (fun S1 => S1 = sR S 22 0 (addN (S 22 0) a r))) := by
  refine Fn.of [some (oR G 22), some (vI a), some (vI r), none] 1 rfl (by decide +kernel) rfl (Nat.le_of_ble_eq_true rfl) (by decide) ?_
  refine Go_const d_M_adds_0 ?_
  refine Go_const d_M_adds_2 ?_
  refine Go_aload d_M_adds_3 lg0 ⟨_, rfl⟩ ?_
  refine Go_get d_M_adds_4 fm_0 ?_
  refine Go_const d_M_adds_7 ?_
  refine Go_ialdC (k0 := 5) d_M_adds_8 am_0 rfl (by decide) ?_
  refine Go_imul d_M_adds_9 ?_
  refine Go_iadd d_M_adds_10 ?_
  refine Go_istore d_M_adds_11 rfl sa3 ?_
  refine Go_aload d_M_adds_12 lg0 ⟨_, rfl⟩ ?_
  refine Go_get d_M_adds_13 fm_0 ?_
  refine Go_iload d_M_adds_16 lg3 ?_
  refine Go_iload d_M_adds_17 lg1 ?_
  refine Go_iast d_M_adds_18 am_0 (by omega) ?_
  refine Go_aload d_M_adds_19 lg0 ⟨_, rfl⟩ ?_
  refine Go_get d_M_adds_20 fm_0 ?_
  refine Go_iload d_M_adds_23 lg3 ?_
  refine Go_const d_M_adds_24 ?_
  refine Go_iadd d_M_adds_25 ?_
  refine Go_iload d_M_adds_26 lg2 ?_
  refine Go_iast d_M_adds_27 am_0 (by omega) ?_
  refine Go_aload d_M_adds_28 lg0 ⟨_, rfl⟩ ?_
  refine Go_get d_M_adds_29 fm_0 ?_
  refine Go_iload d_M_adds_32 lg3 ?_
  refine Go_const d_M_adds_33 ?_
  refine Go_iadd d_M_adds_34 ?_
  refine Go_aload d_M_adds_35 lg0 ⟨_, rfl⟩ ?_
  refine Go_get d_M_adds_36 fm_0 ?_
  refine Go_const d_M_adds_39 ?_
  refine Go_ialdC (k0 := 6) d_M_adds_41 am_0 rfl (by decide) ?_
  rw [st3_i (by omega), st3_i (by omega)]
  refine Go_iast d_M_adds_42 am_0 (by omega) ?_
  refine Go_aload d_M_adds_43 lg0 ⟨_, rfl⟩ ?_
  refine Go_get d_M_adds_44 fm_0 ?_
  refine Go_iload d_M_adds_47 lg3 ?_
  refine Go_const d_M_adds_48 ?_
  refine Go_iadd d_M_adds_49 ?_
  refine Go_const d_M_adds_50 ?_
  refine Go_iast d_M_adds_52 am_0 (by omega) ?_
  refine Go_aload d_M_adds_53 lg0 ⟨_, rfl⟩ ?_
  refine Go_get d_M_adds_54 fm_0 ?_
  refine Go_iload d_M_adds_57 lg3 ?_
  refine Go_const d_M_adds_58 ?_
  refine Go_iadd d_M_adds_59 ?_
  refine Go_const d_M_adds_60 ?_
  refine Go_iast d_M_adds_62 am_0 (by omega) ?_
  refine Go_aload d_M_adds_63 lg0 ⟨_, rfl⟩ ?_
  refine Go_get d_M_adds_64 fm_0 ?_
  refine Go_const d_M_adds_67 ?_
  refine Go_dup2 d_M_adds_68 rfl rfl ?_
  refine Go_ialdC (k0 := 5) d_M_adds_69 am_0 rfl (by decide) ?_
  rw [st3_i (by omega), st3_i (by omega), st3_i (by omega), st3_i (by omega), st3_i (by omega)]
  refine Go_const d_M_adds_70 ?_
  refine Go_iadd d_M_adds_71 ?_
  refine Go_iastC (k0 := 5) d_M_adds_72 am_0 rfl (by decide) ?_
  refine Go_vretN d_M_adds_73 ?_
  funext c j i
  by_cases h : c = 22 ∧ j = 0
  · obtain ⟨rfl, rfl⟩ := h
    simp only [st3, sR, addN, true_and, and_self, if_true]
    (repeat' split) <;> omega
  · simp only [st3, sR, if_neg h]
    (repeat' split) <;> first | rfl | omega
theorem c_M_share (p n : Int) (hp : 0 ≤ p ∧ p ≤ 3) (hn : 0 ≤ n ∧ n ≤ 1000) (hq : 0 ≤ S 22 0 2 ∧ S 22 0 2 ≤ 4) : Fn G k_M_share [oR G 22, vI p, vI n] S (PV (vI (shr (S 22 0) p n)) S) := by
  refine Fn.of [some (oR G 22), some (vI p), some (vI n)] 0 rfl (by decide +kernel) rfl (Nat.le_of_ble_eq_true rfl) (by decide) ?_
  refine Go_iload d_M_share_0 lg1 ?_
  refine Go_if_ne d_M_share_1 (by omega) (fun h1 => ?_) (fun h1 => ?_)
  · refine Go_iload d_M_share_8 lg1 ?_
    refine Go_const d_M_share_9 ?_
    refine Go_icmp_ne d_M_share_10 (by omega) (by omega) (fun h10 => ?_) (fun h10 => ?_)
    · refine Go_iload d_M_share_21 lg2 ?_
      refine Go_aload d_M_share_22 lg0 ⟨_, rfl⟩ ?_
      refine Go_get d_M_share_23 fm_0 ?_
      refine Go_const d_M_share_26 ?_
      refine Go_ialdC (k0 := 2) d_M_share_27 am_0 rfl (by decide) ?_
      refine Go_isub d_M_share_28 ?_
      exact Go_iretV d_M_share_29 (by unfold shr; (repeat' split) <;> omega)
    · refine Go_iload d_M_share_13 lg2 ?_
      refine Go_const d_M_share_14 ?_
      refine Go_iadd d_M_share_15 ?_
      refine Go_const d_M_share_16 ?_
      refine Go_idiv d_M_share_17 (by omega) (by omega) ?_
      refine Go_goto d_M_share_18 ?_
      exact Go_iretV d_M_share_29 (by unfold shr; (repeat' split) <;> omega)
  · refine Go_iload d_M_share_4 lg2 ?_
    refine Go_goto d_M_share_5 ?_
    exact Go_iretV d_M_share_29 (by unfold shr; (repeat' split) <;> omega)
theorem c_M_isFull (hm : 0 ≤ S 22 0 5 ∧ S 22 0 5 ≤ 79) (hn : 0 ≤ S 22 0 6 ∧ S 22 0 6 ≤ 12) : Fn G k_M_isFull [oR G 22] S (PV (vI (bI (76 ≤ S 22 0 5 ∨ 12 ≤ S 22 0 6))) S) := by
  refine Fn.of [some (oR G 22)] 0 rfl (by decide +kernel) rfl (Nat.le_of_ble_eq_true rfl) (by decide) ?_
  refine Go_aload d_M_isFull_0 lg0 ⟨_, rfl⟩ ?_
  refine Go_get d_M_isFull_1 fm_0 ?_
  refine Go_const d_M_isFull_4 ?_
  refine Go_ialdC (k0 := 5) d_M_isFull_5 am_0 rfl (by decide) ?_
  refine Go_const d_M_isFull_6 ?_
  refine Go_icmp_ge d_M_isFull_8 (by omega) (by omega) (fun h8 => ?_) (fun h8 => ?_)
  · refine Go_const d_M_isFull_23 ?_
    refine Go_goto d_M_isFull_24 ?_
    exact Go_zretV d_M_isFull_28 (by first | exact Or.inl rfl | exact Or.inr rfl | exact bI_01 _) (by first | rfl | exact (bI_pos (by omega)).symm | exact (bI_neg (by omega)).symm)
  · refine Go_aload d_M_isFull_11 lg0 ⟨_, rfl⟩ ?_
    refine Go_get d_M_isFull_12 fm_0 ?_
    refine Go_const d_M_isFull_15 ?_
    refine Go_ialdC (k0 := 6) d_M_isFull_17 am_0 rfl (by decide) ?_
    refine Go_const d_M_isFull_18 ?_
    refine Go_icmp_lt d_M_isFull_20 (by omega) (by omega) (fun h20 => ?_) (fun h20 => ?_)
    · refine Go_const d_M_isFull_27 ?_
      exact Go_zretV d_M_isFull_28 (by first | exact Or.inl rfl | exact Or.inr rfl | exact bI_01 _) (by first | rfl | exact (bI_pos (by omega)).symm | exact (bI_neg (by omega)).symm)
    · refine Go_const d_M_isFull_23 ?_
      refine Go_goto d_M_isFull_24 ?_
      exact Go_zretV d_M_isFull_28 (by first | exact Or.inl rfl | exact Or.inr rfl | exact bI_01 _) (by first | rfl | exact (bI_pos (by omega)).symm | exact (bI_neg (by omega)).symm)
theorem c_M_begins (p n : Int) (T : Prop) [Decidable T] (hp : p = 0 ∨ p = 1 ∨ p = 2 ∨ p = 3) (hn : 0 ≤ n ∧ n ≤ 1000) (h1 : 1 ≤ S 22 0 1 ∧ S 22 0 1 ≤ 8) (h2 : 0 ≤ S 22 0 2 ∧ S 22 0 2 ≤ 4) : Fn G k_M_begins [oR G 22, vI p, vI (bI T), vI n] S (PV (vI (bC (begP (S 22 0) p T n))) S) := by
  refine Fn.of [some (oR G 22), some (vI p), some (vI (bI T)), some (vI n)] 0 rfl (by decide +kernel) rfl (Nat.le_of_ble_eq_true rfl) (by decide) ?_
  refine Go_iload d_M_begins_0 lg1 ?_
  rcases hp with rfl | rfl | rfl | rfl
  · refine Go_tswIn (t := 28) d_M_begins_1 (by decide) (by decide) (by decide) rfl (by decide) ?_
    refine Go_iload d_M_begins_28 lg2 ?_
    refine Go_ifne_b d_M_begins_29 (fun h29 => ?_) (fun h29 => ?_)
    · refine Go_const d_M_begins_46 ?_
      exact Go_zretV d_M_begins_47 (by decide) (by first | exact bC1 (by simp [begP]; first | omega | (refine ⟨?_, ?_⟩ <;> first | assumption | omega)) | exact bC0 (by simp [begP]; first | omega | (intros; first | omega | contradiction)))
    · refine Go_iload d_M_begins_32 lg3 ?_
      refine Go_aload d_M_begins_33 lg0 ⟨_, rfl⟩ ?_
      refine Go_get d_M_begins_34 fm_0 ?_
      refine Go_const d_M_begins_37 ?_
      refine Go_ialdC (k0 := 1) d_M_begins_38 am_0 rfl (by decide) ?_
      refine Go_icmp_lt d_M_begins_39 (by omega) (by omega) (fun h39 => ?_) (fun h39 => ?_)
      · refine Go_const d_M_begins_46 ?_
        exact Go_zretV d_M_begins_47 (by decide) (by first | exact bC1 (by simp [begP]; first | omega | (refine ⟨?_, ?_⟩ <;> first | assumption | omega)) | exact bC0 (by simp [begP]; first | omega | (intros; first | omega | contradiction)))
      · refine Go_const d_M_begins_42 ?_
        refine Go_goto d_M_begins_43 ?_
        exact Go_zretV d_M_begins_47 (by decide) (by first | exact bC1 (by simp [begP]; first | omega | (refine ⟨?_, ?_⟩ <;> first | assumption | omega)) | exact bC0 (by simp [begP]; first | omega | (intros; first | omega | contradiction)))
  · refine Go_tswIn (t := 48) d_M_begins_1 (by decide) (by decide) (by decide) rfl (by decide) ?_
    refine Go_iload d_M_begins_48 lg2 ?_
    refine Go_ifne_b d_M_begins_49 (fun h49 => ?_) (fun h49 => ?_)
    · refine Go_const d_M_begins_73 ?_
      exact Go_zretV d_M_begins_74 (by decide) (by first | exact bC1 (by simp [begP]; first | omega | (refine ⟨?_, ?_⟩ <;> first | assumption | omega)) | exact bC0 (by simp [begP]; first | omega | (intros; first | omega | contradiction)))
    · refine Go_iload d_M_begins_52 lg3 ?_
      refine Go_aload d_M_begins_53 lg0 ⟨_, rfl⟩ ?_
      refine Go_get d_M_begins_54 fm_0 ?_
      refine Go_const d_M_begins_57 ?_
      refine Go_ialdC (k0 := 1) d_M_begins_58 am_0 rfl (by decide) ?_
      refine Go_aload d_M_begins_59 lg0 ⟨_, rfl⟩ ?_
      refine Go_get d_M_begins_60 fm_0 ?_
      refine Go_const d_M_begins_63 ?_
      refine Go_ialdC (k0 := 2) d_M_begins_64 am_0 rfl (by decide) ?_
      refine Go_iadd d_M_begins_65 ?_
      refine Go_icmp_lt d_M_begins_66 (by omega) (by omega) (fun h66 => ?_) (fun h66 => ?_)
      · refine Go_const d_M_begins_73 ?_
        exact Go_zretV d_M_begins_74 (by decide) (by first | exact bC1 (by simp [begP]; first | omega | (refine ⟨?_, ?_⟩ <;> first | assumption | omega)) | exact bC0 (by simp [begP]; first | omega | (intros; first | omega | contradiction)))
      · refine Go_const d_M_begins_69 ?_
        refine Go_goto d_M_begins_70 ?_
        exact Go_zretV d_M_begins_74 (by decide) (by first | exact bC1 (by simp [begP]; first | omega | (refine ⟨?_, ?_⟩ <;> first | assumption | omega)) | exact bC0 (by simp [begP]; first | omega | (intros; first | omega | contradiction)))
  · refine Go_tswIn (t := 75) d_M_begins_1 (by decide) (by decide) (by decide) rfl (by decide) ?_
    refine Go_iload d_M_begins_75 lg2 ?_
    refine Go_ifeq_b d_M_begins_76 (fun h76 => ?_) (fun h76 => ?_)
    · refine Go_const d_M_begins_93 ?_
      exact Go_zretV d_M_begins_94 (by decide) (by first | exact bC1 (by simp [begP]; first | omega | (refine ⟨?_, ?_⟩ <;> first | assumption | omega)) | exact bC0 (by simp [begP]; first | omega | (intros; first | omega | contradiction)))
    · refine Go_iload d_M_begins_79 lg3 ?_
      refine Go_aload d_M_begins_80 lg0 ⟨_, rfl⟩ ?_
      refine Go_get d_M_begins_81 fm_0 ?_
      refine Go_const d_M_begins_84 ?_
      refine Go_ialdC (k0 := 2) d_M_begins_85 am_0 rfl (by decide) ?_
      refine Go_icmp_le d_M_begins_86 (by omega) (by omega) (fun h86 => ?_) (fun h86 => ?_)
      · refine Go_const d_M_begins_93 ?_
        exact Go_zretV d_M_begins_94 (by decide) (by first | exact bC1 (by simp [begP]; first | omega | (refine ⟨?_, ?_⟩ <;> first | assumption | omega)) | exact bC0 (by simp [begP]; first | omega | (intros; first | omega | contradiction)))
      · refine Go_const d_M_begins_89 ?_
        refine Go_goto d_M_begins_90 ?_
        exact Go_zretV d_M_begins_94 (by decide) (by first | exact bC1 (by simp [begP]; first | omega | (refine ⟨?_, ?_⟩ <;> first | assumption | omega)) | exact bC0 (by simp [begP]; first | omega | (intros; first | omega | contradiction)))
  · refine Go_tswOut (t := 95) d_M_begins_1 (by decide) (by decide) (by decide) ?_
    refine Go_iload d_M_begins_95 lg2 ?_
    refine Go_ifeq_b d_M_begins_96 (fun h96 => ?_) (fun h96 => ?_)
    · refine Go_const d_M_begins_107 ?_
      exact Go_zretV d_M_begins_108 (by decide) (by first | exact bC1 (by simp [begP]; first | omega | (refine ⟨?_, ?_⟩ <;> first | assumption | omega)) | exact bC0 (by simp [begP]; first | omega | (intros; first | omega | contradiction)))
    · refine Go_iload d_M_begins_99 lg3 ?_
      refine Go_if_le d_M_begins_100 (by omega) (fun h100 => ?_) (fun h100 => ?_)
      · refine Go_const d_M_begins_107 ?_
        exact Go_zretV d_M_begins_108 (by decide) (by first | exact bC1 (by simp [begP]; first | omega | (refine ⟨?_, ?_⟩ <;> first | assumption | omega)) | exact bC0 (by simp [begP]; first | omega | (intros; first | omega | contradiction)))
      · refine Go_const d_M_begins_103 ?_
        refine Go_goto d_M_begins_104 ?_
        exact Go_zretV d_M_begins_108 (by decide) (by first | exact bC1 (by simp [begP]; first | omega | (refine ⟨?_, ?_⟩ <;> first | assumption | omega)) | exact bC0 (by simp [begP]; first | omega | (intros; first | omega | contradiction)))
end Model1
end
section
theorem cpR_S (A N : Row) (off k : Nat) : up (cpR A N off k) (off + k) (N k) = cpR A N off (k + 1) := by
  funext j
  unfold up cpR
  by_cases h : j = off + k
  · subst h
    rw [if_pos rfl, if_pos (by omega), show off + k - off = k by omega]
  · rw [if_neg h]
    by_cases h2 : off ≤ j ∧ j < off + k
    · rw [if_pos h2, if_pos (by omega)]
    · rw [if_neg h2, if_neg (by omega)]
theorem cpR_0 (A N : Row) (off : Nat) : cpR A N off 0 = A := by funext j; unfold cpR; rw [if_neg (by omega)]
theorem shR_S (A : Row) (k : Nat) : up (shR A k) k (A (k + 402)) = shR A (k + 1) := by
  funext j
  unfold up shR
  by_cases h : j = k
  · subst h; rw [if_pos rfl, if_pos (by omega)]
  · rw [if_neg h]
    by_cases h2 : j < k
    · rw [if_pos h2, if_pos (by omega)]
    · rw [if_neg h2, if_neg (by omega)]
theorem shR_0 (A : Row) : shR A 0 = A := by funext j; unfold shR; rw [if_neg (by omega)]
/-- the rows behind 'notes' -/
def noteA (A : Row) (u : Int) (N : Row) : Row := if u = 6 then cpR (shR A 2010) N 2010 402 else cpR A N (402 * u).toNat 402
def noteU (u : Int) : Int := if u = 6 then 6 else u + 1
def noteS (S : St) : St := st3 (sR S 22 7 (noteA (S 22 7) (S 22 8 0) (S 22 0))) 22 8 0 (noteU (S 22 8 0))
theorem goN_st (S : St) (i k : Int) (hi : 0 ≤ i) : st3 (st3 S 22 0 (7 + 5 * i + 3).toNat (S 22 0 6)) 22 0 (7 + 5 * i + 4).toNat k = sR S 22 0 (goN (S 22 0) i k) := by
  rw [st3_sR, st3_sR, sR_sR, sR_s]
  congr 1
  funext j
  unfold up goN
  (repeat' split) <;> first | rfl | omega
section Model2
variable {G : GT} {S : St}
theorem b_M_notes {x : Option Value} (hu : 0 ≤ S 22 8 0 ∧ S 22 8 0 ≤ 5) : Go G k_M_notes 47 [some (oR G 22), x] [] S (PN (fun S1 => S1 = st3 (sR S 22 7 (cpR (S 22 7) (S 22 0) (402 * S 22 8 0).toNat 402)) 22 8 0 (S 22 8 0 + 1))) := by
  have loop := loopI (fun i => ∀ S1, S1 = sR S 22 7 (cpR (S 22 7) (S 22 0) (402 * S 22 8 0).toNat i.toNat) → Go G k_M_notes 49 [some (oR G 22), some (vI i)] [] S1 (PN (fun S1 => S1 = st3 (sR S 22 7 (cpR (S 22 7) (S 22 0) (402 * S 22 8 0).toNat 402)) 22 8 0 (S 22 8 0 + 1)))) 402 ?_ ?_
  refine Go_const d_M_notes_47 ?_
  refine Go_istore d_M_notes_48 rfl sa1 ?_
  exact loop 0 (by omega) (by omega) S (by rw [show (0 : Int).toNat = 0 from rfl, cpR_0, sR_id])
  · intro S1 hS1
    have e8 : S1 22 8 0 = S 22 8 0 := by rw [hS1]; exact sR_ji (by decide)
    refine Go_iload d_M_notes_49 lg1 ?_
    refine Go_const d_M_notes_50 ?_
    refine Go_icmp_ge d_M_notes_53 (by omega) (by omega) (fun h53 => ?_) (fun h53 => absurd h53 (by omega))
    refine Go_aload d_M_notes_83 lg0 ⟨_, rfl⟩ ?_
    refine Go_dup d_M_notes_84 rfl ?_
    refine Go_get d_M_notes_85 fm_8 ?_
    refine Go_const d_M_notes_88 ?_
    refine Go_iadd d_M_notes_89 ?_
    refine Go_put d_M_notes_90 (wm_8 _) rfl rfl ?_
    exact Go_vretN d_M_notes_93 (by rw [e8, hS1]; rfl)
  · intro i h0 h1 ih S1 hS1
    have e8 : S1 22 8 0 = S 22 8 0 := by rw [hS1]; exact sR_ji (by decide)
    have e0 : S1 22 0 = S 22 0 := by rw [hS1]; exact sR_j (by decide)
    refine Go_iload d_M_notes_49 lg1 ?_
    refine Go_const d_M_notes_50 ?_
    refine Go_icmp_ge d_M_notes_53 (by omega) (by omega) (fun h53 => absurd h53 (by omega)) (fun h53 => ?_)
    refine Go_aload d_M_notes_56 lg0 ⟨_, rfl⟩ ?_
    refine Go_get d_M_notes_57 fm_7 ?_
    refine Go_const d_M_notes_60 ?_
    refine Go_aload d_M_notes_63 lg0 ⟨_, rfl⟩ ?_
    refine Go_get d_M_notes_64 fm_8 ?_
    refine Go_imul d_M_notes_67 ?_
    refine Go_iload d_M_notes_68 lg1 ?_
    refine Go_iadd d_M_notes_69 ?_
    refine Go_aload d_M_notes_70 lg0 ⟨_, rfl⟩ ?_
    refine Go_get d_M_notes_71 fm_0 ?_
    refine Go_iload d_M_notes_74 lg1 ?_
    refine Go_iald d_M_notes_75 am_0 (by omega) ?_
    refine Go_iast d_M_notes_76 am_7 (by omega) ?_
    refine Go_iinc d_M_notes_77 lg1 rfl sa1 ?_
    refine Go_goto d_M_notes_80 ?_
    refine ih _ ?_
    rw [e0, e8, hS1, st3_sR2, show (402 * S 22 8 0 + i).toNat = (402 * S 22 8 0).toNat + i.toNat by omega, cpR_S, show (i + 1).toNat = i.toNat + 1 by omega]
theorem c_M_notes (hu : 0 ≤ S 22 8 0 ∧ S 22 8 0 ≤ 6) : Fn G k_M_notes [oR G 22] S (PN (fun S1 => S1 = noteS S)) := by
  refine Fn.of [some (oR G 22), none] 1 rfl (by decide +kernel) rfl (Nat.le_of_ble_eq_true rfl) (by decide) ?_

  have loop := loopF (fun i => S 22 8 0 = 6 → ∀ S1, S1 = sR S 22 7 (shR (S 22 7) (i - 402).toNat) → Go G k_M_notes 13 [some (oR G 22), some (vI i)] [] S1 (PN (fun S1 => S1 = noteS S))) 402 2412 ?_ ?_
  refine Go_aload d_M_notes_0 lg0 ⟨_, rfl⟩ ?_
  refine Go_get d_M_notes_1 fm_8 ?_
  refine Go_const d_M_notes_4 ?_
  refine Go_icmp_ne d_M_notes_6 (by omega) (by omega) (fun h6 => ?_) (fun h6 => ?_)
  · refine Go.mono (b_M_notes (by omega)) ?_
    rintro r S1 ⟨rfl, rfl⟩
    refine ⟨rfl, ?_⟩
    unfold noteS noteA noteU
    rw [if_neg (by omega), if_neg (by omega)]
  · refine Go_const d_M_notes_9 ?_
    refine Go_istore d_M_notes_12 rfl sa1 ?_
    exact loop 402 (by omega) (by omega) (by omega) S (by rw [show ((402 : Int) - 402).toNat = 0 from rfl, shR_0, sR_id])
  · intro h6 S1 hS1
    refine Go_iload d_M_notes_13 lg1 ?_
    refine Go_const d_M_notes_14 ?_
    refine Go_icmp_ge d_M_notes_17 (by omega) (by omega) (fun h17 => ?_) (fun h17 => absurd h17 (by omega))
    refine Go_aload d_M_notes_42 lg0 ⟨_, rfl⟩ ?_
    refine Go_const d_M_notes_43 ?_
    refine Go_put d_M_notes_44 (wm_8 _) rfl rfl ?_
    refine Go.mono (b_M_notes (by rw [st3_s]; decide)) ?_
    rintro r S2 ⟨rfl, rfl⟩
    refine ⟨rfl, ?_⟩
    rw [st3_s, hS1]
    unfold noteS noteA noteU
    rw [if_pos h6, if_pos h6]
    funext c j i
    by_cases h7 : c = 22 ∧ j = 7
    · obtain ⟨rfl, rfl⟩ := h7
      simp [st3, sR, cpR, shR]
    · by_cases h8 : c = 22 ∧ j = 8
      · obtain ⟨rfl, rfl⟩ := h8
        simp [st3, sR]
        split <;> rfl
      · have g7 : ∀ x, ¬ (c = 22 ∧ j = 8 ∧ i = x) := fun x z => h8 ⟨z.1, z.2.1⟩
        simp only [st3, sR, if_neg h7, if_neg (g7 0)]
  · intro i h0 h1 ih h6 S1 hS1
    refine Go_iload d_M_notes_13 lg1 ?_
    refine Go_const d_M_notes_14 ?_
    refine Go_icmp_ge d_M_notes_17 (by omega) (by omega) (fun h17 => absurd h17 (by omega)) (fun h17 => ?_)
    refine Go_aload d_M_notes_20 lg0 ⟨_, rfl⟩ ?_
    refine Go_get d_M_notes_21 fm_7 ?_
    refine Go_iload d_M_notes_24 lg1 ?_
    refine Go_const d_M_notes_25 ?_
    refine Go_isub d_M_notes_28 ?_
    refine Go_aload d_M_notes_29 lg0 ⟨_, rfl⟩ ?_
    refine Go_get d_M_notes_30 fm_7 ?_
    refine Go_iload d_M_notes_33 lg1 ?_
    refine Go_iald d_M_notes_34 am_7 (by omega) ?_
    refine Go_iast d_M_notes_35 am_7 (by omega) ?_
    refine Go_iinc d_M_notes_36 lg1 rfl sa1 ?_
    refine Go_goto d_M_notes_39 ?_
    refine ih h6 _ ?_
    have e : S1 22 7 i.toNat = S 22 7 ((i - 402).toNat + 402) := by
      rw [hS1, sR_si]
      unfold shR
      rw [if_neg (by omega), show (i - 402).toNat + 402 = i.toNat by omega]
    rw [e, hS1, st3_sR2, shR_S, show (i + 1 - 402).toNat = (i - 402).toNat + 1 by omega]
theorem c_M_goesRound {N : Row} (hN : S 22 0 = N) (h : NR N) (hd : N 5 + N 3 ≤ 79) (hg : 0 ≤ rndGo N ∧ rndGo N ≤ cnt (dumN N (N 3).toNat) (N 5 + N 3).toNat) : Fn G k_M_goesRound [oR G 22] S (PI (fun z S1 => z = rndGo N ∧ S1 = sR S 22 0 (rndN N))) := by
  obtain ⟨hr, i0, i1, i2, i3, i4, i5, i6⟩ := id h
  obtain ⟨d1, d2, d3, d4⟩ := dum_f h (N 3).toNat (by omega)
  have hc0 := cnt_0 (dumN N (N 3).toNat) (N 5 + N 3).toNat
  refine Fn.of [some (oR G 22), none, none, none] 3 rfl (by decide +kernel) rfl (Nat.le_of_ble_eq_true rfl) (by decide) ?_

  have loop2 := loopI (fun k => ∀ S1, S1 = sR S 22 0 (outsN (dumN N (N 3).toNat) k.toNat) → Go G k_M_goesRound 48 [some (oR G 22), some (vI (rndGo N)), some (vI k), none] [] S1 (PI (fun z S1 => z = rndGo N ∧ S1 = sR S 22 0 (rndN N)))) (rndGo N) ?_ ?_
  have loop1 := loopI (fun k => ∀ S1, S1 = sR S 22 0 (dumN N k.toNat) → Go G k_M_goesRound 2 [some (oR G 22), some (vI k), none, none] [] S1 (PI (fun z S1 => z = rndGo N ∧ S1 = sR S 22 0 (rndN N)))) (N 3) ?_ ?_
  refine Go_const d_M_goesRound_0 ?_
  refine Go_istore d_M_goesRound_1 rfl sa1 ?_
  exact loop1 0 (by omega) (by omega) S (by rw [show (0 : Int).toNat = 0 from rfl]; show S = sR S 22 0 N; rw [← hN, sR_id])
  · intro S1 hS1
    have hN1 : S1 22 0 = dumN N (N 3).toNat := by rw [hS1, sR_s]
    have e0 : S1 22 0 0 = N 0 := by rw [hN1]; exact d3 0 (by decide) (by decide) (by decide)
    have e2 : S1 22 0 2 = N 2 := by rw [hN1]; exact d3 2 (by decide) (by decide) (by decide)
    have e3 : S1 22 0 3 = N 3 := by rw [hN1]; exact d3 3 (by decide) (by decide) (by decide)
    have e5 : S1 22 0 5 = N 5 + N 3 := by rw [hN1, d2]; omega
    have hc : cnt (S1 22 0) (S1 22 0 5).toNat = cnt (dumN N (N 3).toNat) (N 5 + N 3).toNat := by rw [e5, hN1]
    refine Go_iload d_M_goesRound_2 lg1 ?_
    refine Go_aload d_M_goesRound_3 lg0 ⟨_, rfl⟩ ?_
    refine Go_get d_M_goesRound_4 fm_0 ?_
    refine Go_const d_M_goesRound_7 ?_
    refine Go_ialdC (k0 := 3) d_M_goesRound_8 am_0 rfl (by decide) ?_
    refine Go_icmp_ge d_M_goesRound_9 (by omega) (by omega) (fun h9 => ?_) (fun h9 => absurd h9 (by omega))
    refine Go_aload d_M_goesRound_31 lg0 ⟨_, rfl⟩ ?_
    refine Go_aload d_M_goesRound_32 lg0 ⟨_, rfl⟩ ?_
    refine Go_get d_M_goesRound_33 fm_0 ?_
    refine Go_const d_M_goesRound_36 ?_
    refine Go_ialdC (k0 := 0) d_M_goesRound_37 am_0 rfl (by decide) ?_
    refine Go_aload d_M_goesRound_38 lg0 ⟨_, rfl⟩ ?_
    refine Go_V0p d_M_goesRound_39 kM (c_M_standing (by omega) (by rw [hN1]; exact d1.1)) (Nat.le_of_ble_eq_true rfl) ?_
    refine Go_V2p d_M_goesRound_42 kM (c_M_share _ _ (by omega) (by omega) (by omega)) (Nat.le_of_ble_eq_true rfl) ?_
    have hgo : shr (S1 22 0) (S1 22 0 0) (cnt (S1 22 0) (S1 22 0 5).toNat) = rndGo N := by
      rw [hc, e0]
      unfold rndGo shr
      rw [e2]
    rw [hgo]
    refine Go_istore d_M_goesRound_45 rfl sa1 ?_
    refine Go_const d_M_goesRound_46 ?_
    refine Go_istore d_M_goesRound_47 rfl sa2 ?_
    exact loop2 0 (by omega) (by omega) S1 (by rw [hS1]; rfl)
  · intro k h0 h1 ih S1 hS1
    obtain ⟨g1, g2, g3, g4⟩ := dum_f h k.toNat (by omega)
    have hN1 : S1 22 0 = dumN N k.toNat := by rw [hS1, sR_s]
    have e3 : S1 22 0 3 = N 3 := by rw [hN1]; exact g3 3 (by decide) (by decide) (by decide)
    have e4 := g1.2.2.2.2.2.1
    have hx := dr_rg (S1 22 0 4)
    refine Go_iload d_M_goesRound_2 lg1 ?_
    refine Go_aload d_M_goesRound_3 lg0 ⟨_, rfl⟩ ?_
    refine Go_get d_M_goesRound_4 fm_0 ?_
    refine Go_const d_M_goesRound_7 ?_
    refine Go_ialdC (k0 := 3) d_M_goesRound_8 am_0 rfl (by decide) ?_
    refine Go_icmp_ge d_M_goesRound_9 (by omega) (by omega) (fun h9 => absurd h9 (by omega)) (fun h9 => ?_)
    refine Go_aload d_M_goesRound_12 lg0 ⟨_, rfl⟩ ?_
    refine Go_const d_M_goesRound_13 ?_
    refine Go_aload d_M_goesRound_15 lg0 ⟨_, rfl⟩ ?_
    refine Go_V0i d_M_goesRound_16 kM (c_M_draws (by rw [hN1]; exact e4)) (Nat.le_of_ble_eq_true rfl) ?_
    rintro z S2 ⟨hz, hS2⟩
    refine Go_const d_M_goesRound_19 ?_
    refine Go_irem d_M_goesRound_21 (by omega) (by omega) ?_
    refine Go_V2n d_M_goesRound_22 kM (c_M_adds _ _ (by rw [hS2, sR_s, hN1, drN_k _ (by decide), g2]; omega)) (Nat.le_of_ble_eq_true rfl) ?_
    rintro S3 hS3
    refine Go_iinc d_M_goesRound_25 lg1 rfl sa1 ?_
    refine Go_goto d_M_goesRound_28 ?_
    refine ih S3 ?_
    rw [hS3, hS2, hz, sR_s, sR_sR, hS1, sR_sR, sR_s, show (k + 1).toNat = k.toNat + 1 by omega]
    rfl
  · intro S1 hS1
    obtain ⟨g1, g2, g3⟩ := outs_f d1 (rndGo N).toNat (by rw [d2, show (N 5 + ((N 3).toNat : Int)).toNat = (N 5 + N 3).toNat by omega]; omega)
    have hN1 : S1 22 0 = outsN (dumN N (N 3).toNat) (rndGo N).toNat := by rw [hS1, sR_s]
    have e6 : S1 22 0 6 = N 6 := by rw [hN1, g2 6 (by decide) (by decide)]; exact d3 6 (by decide) (by decide) (by decide)
    refine Go_iload d_M_goesRound_48 lg2 ?_
    refine Go_iload d_M_goesRound_49 lg1 ?_
    refine Go_icmp_ge d_M_goesRound_50 (by omega) (by omega) (fun h50 => ?_) (fun h50 => absurd h50 (by omega))
    refine Go_aload d_M_goesRound_107 lg0 ⟨_, rfl⟩ ?_
    refine Go_get d_M_goesRound_108 fm_0 ?_
    refine Go_const d_M_goesRound_111 ?_
    refine Go_dup2 d_M_goesRound_113 rfl rfl ?_
    refine Go_ialdC (k0 := 6) d_M_goesRound_114 am_0 rfl (by decide) ?_
    refine Go_const d_M_goesRound_115 ?_
    refine Go_iadd d_M_goesRound_116 ?_
    refine Go_iastC (k0 := 6) d_M_goesRound_117 am_0 rfl (by decide) ?_
    refine Go_iload d_M_goesRound_118 lg1 ?_
    exact Go_iretI d_M_goesRound_119 ⟨rfl, by rw [st3_sR, e6, hS1, sR_sR, sR_s]; rfl⟩
  · intro k h0 h1 ih S1 hS1
    have ed : (N 5 + ((N 3).toNat : Int)).toNat = (N 5 + N 3).toNat := by omega
    obtain ⟨g1, g2, g3⟩ := outs_f d1 k.toNat (by rw [d2, ed]; omega)
    have hN1 : S1 22 0 = outsN (dumN N (N 3).toNat) k.toNat := by rw [hS1, sR_s]
    have e5 : S1 22 0 5 = N 5 + N 3 := by rw [hN1, g2 5 (by decide) (by decide), d2]; omega
    have e4 := g1.2.2.2.2.2.1
    have hx := dr_rg (S1 22 0 4)
    have hcn : cnt (S1 22 0) (S1 22 0 5).toNat = cnt (dumN N (N 3).toNat) (N 5 + N 3).toNat - k := by
      rw [e5, hN1, ← ed, ← d2, g3]; omega
    obtain ⟨i, q1, q2, q3, q4⟩ := out1_i (N := S1 22 0) (by rw [hN1]; exact g1) (by rw [hcn]; omega)
    have hw6 : 0 ≤ S1 22 0 6 := by rw [hN1]; exact g1.2.2.2.2.2.2.2.1
    refine Go_iload d_M_goesRound_48 lg2 ?_
    refine Go_iload d_M_goesRound_49 lg1 ?_
    refine Go_icmp_ge d_M_goesRound_50 (by omega) (by omega) (fun h50 => absurd h50 (by omega)) (fun h50 => ?_)
    refine Go_aload d_M_goesRound_53 lg0 ⟨_, rfl⟩ ?_
    refine Go_aload d_M_goesRound_54 lg0 ⟨_, rfl⟩ ?_
    refine Go_V0i d_M_goesRound_55 kM (c_M_draws (by rw [hN1]; exact e4)) (Nat.le_of_ble_eq_true rfl) ?_
    rintro z S2 ⟨hz, hS2⟩
    have hN2 : S2 22 0 = drN (S1 22 0) := by rw [hS2, sR_s]
    have f5 : S2 22 0 5 = S1 22 0 5 := by rw [hN2]; exact drN_k _ (by decide)
    have hr2 : ∀ k, -2147483648 ≤ S2 22 0 k ∧ S2 22 0 k < 2147483648 := by rw [hN2, hN1]; exact g1.dr.1
    have hc2 : cnt (S2 22 0) (S2 22 0 5).toNat = cnt (S1 22 0) (S1 22 0 5).toNat := by rw [f5, hN2, drN_cnt]
    refine Go_aload d_M_goesRound_58 lg0 ⟨_, rfl⟩ ?_
    refine Go_V0p d_M_goesRound_59 kM (c_M_standing (by omega) hr2) (Nat.le_of_ble_eq_true rfl) ?_
    refine Go_irem d_M_goesRound_62 (by omega) (by omega) ?_
    refine Go_V1p d_M_goesRound_63 kM (c_M_standsAt _ (by rw [hc2]; have := Int.emod_nonneg z (show cnt (S1 22 0) (S1 22 0 5).toNat ≠ 0 by omega); have := Int.emod_lt_of_pos z (show 0 < cnt (S1 22 0) (S1 22 0 5).toNat by omega); omega) (by omega) hr2) (Nat.le_of_ble_eq_true rfl) ?_
    have hsat : sat (S2 22 0) (z % cnt (S2 22 0) (S2 22 0 5).toNat) (S2 22 0 5).toNat = (i : Int) := by rw [hc2, hz, f5, hN2, drN_sat]; exact q4
    rw [hsat]
    refine Go_istore d_M_goesRound_66 rfl sa3 ?_
    refine Go_aload d_M_goesRound_67 lg0 ⟨_, rfl⟩ ?_
    refine Go_get d_M_goesRound_68 fm_0 ?_
    refine Go_const d_M_goesRound_71 ?_
    refine Go_const d_M_goesRound_73 ?_
    refine Go_iload d_M_goesRound_74 lg3 ?_
    refine Go_imul d_M_goesRound_75 ?_
    refine Go_iadd d_M_goesRound_76 ?_
    refine Go_const d_M_goesRound_77 ?_
    refine Go_iadd d_M_goesRound_78 ?_
    refine Go_aload d_M_goesRound_79 lg0 ⟨_, rfl⟩ ?_
    refine Go_get d_M_goesRound_80 fm_0 ?_
    refine Go_const d_M_goesRound_83 ?_
    refine Go_ialdC (k0 := 6) d_M_goesRound_85 am_0 rfl (by decide) ?_
    refine Go_iast d_M_goesRound_86 am_0 (by omega) ?_
    refine Go_aload d_M_goesRound_87 lg0 ⟨_, rfl⟩ ?_
    refine Go_get d_M_goesRound_88 fm_0 ?_
    refine Go_const d_M_goesRound_91 ?_
    refine Go_const d_M_goesRound_93 ?_
    refine Go_iload d_M_goesRound_94 lg3 ?_
    refine Go_imul d_M_goesRound_95 ?_
    refine Go_iadd d_M_goesRound_96 ?_
    refine Go_const d_M_goesRound_97 ?_
    refine Go_iadd d_M_goesRound_98 ?_
    refine Go_iload d_M_goesRound_99 lg2 ?_
    refine Go_iast d_M_goesRound_100 am_0 (by omega) ?_
    refine Go_iinc d_M_goesRound_101 lg2 rfl sa2 ?_
    refine Go_goto d_M_goesRound_104 ?_
    refine fg3 (ih _ ?_)
    rw [goN_st _ _ _ (by omega), hN2, hS2, sR_sR, hS1, sR_sR, sR_s, show (k + 1).toNat = k.toNat + 1 by omega]
    show _ = sR S 22 0 (out1 (outsN (dumN N (N 3).toNat) k.toNat) (k.toNat : Int))
    unfold out1
    rw [hN1] at q4
    rw [q4, show ((k.toNat : Nat) : Int) = k by omega]
end Model2
end
