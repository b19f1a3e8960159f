section
-- ===== PART A: goes FIRST, ahead of the names: the tables' words, and 'selects' of the private methods out of them =====
/-- a private method of a class that the tables say can be made, by its rows of tables_1 -/
def lw_okq (q : MethodName × Nat) : Prop := (q.1.cls ≠ "java/lang/invoke/MethodHandle" ∧ q.1.cls ≠ "java/lang/invoke/VarHandle") ∧ Cond.instantiable q.1.cls q.2 ∈ tables_1 ∧ Cond.privateMethod q.1 ∈ tables_1 ∧ Cond.instanceMethod q.1 ∈ tables_1
theorem lw_p0 : lw_okq (⟨"VoiceWords", "record", "()V"⟩, 5) := ⟨⟨by decide +kernel, by decide +kernel⟩, List.mem_of_getElem? (i := 14) (by decide +kernel), List.mem_of_getElem? (i := 163) (by decide +kernel), List.mem_of_getElem? (i := 164) (by decide +kernel)⟩
theorem lw_p1 : lw_okq (⟨"VoiceWords", "dropOldestState", "()V"⟩, 5) := ⟨⟨by decide +kernel, by decide +kernel⟩, List.mem_of_getElem? (i := 14) (by decide +kernel), List.mem_of_getElem? (i := 167) (by decide +kernel), List.mem_of_getElem? (i := 168) (by decide +kernel)⟩
theorem lw_p2 : lw_okq (⟨"VoiceWords$Text", "step", "()V"⟩, 5) := ⟨⟨by decide +kernel, by decide +kernel⟩, List.mem_of_getElem? (i := 109) (by decide +kernel), List.mem_of_getElem? (i := 255) (by decide +kernel), List.mem_of_getElem? (i := 256) (by decide +kernel)⟩
theorem lw_p3 : lw_okq (⟨"VoiceWords$Text", "kindAt", "(I)I"⟩, 5) := ⟨⟨by decide +kernel, by decide +kernel⟩, List.mem_of_getElem? (i := 109) (by decide +kernel), List.mem_of_getElem? (i := 259) (by decide +kernel), List.mem_of_getElem? (i := 260) (by decide +kernel)⟩
theorem lw_p4 : lw_okq (⟨"VoiceWords$Text", "readItem", "(LVoiceWords$Scene;)Z"⟩, 5) := ⟨⟨by decide +kernel, by decide +kernel⟩, List.mem_of_getElem? (i := 109) (by decide +kernel), List.mem_of_getElem? (i := 263) (by decide +kernel), List.mem_of_getElem? (i := 264) (by decide +kernel)⟩
theorem lw_p5 : lw_okq (⟨"VoiceWords$Text", "isName", "(Ljava/lang/String;)Z"⟩, 5) := ⟨⟨by decide +kernel, by decide +kernel⟩, List.mem_of_getElem? (i := 109) (by decide +kernel), List.mem_of_getElem? (i := 268) (by decide +kernel), List.mem_of_getElem? (i := 269) (by decide +kernel)⟩
theorem lw_p6 : lw_okq (⟨"VoiceWords$Text", "readWord", "(LVoiceWords$Scene;)Z"⟩, 5) := ⟨⟨by decide +kernel, by decide +kernel⟩, List.mem_of_getElem? (i := 109) (by decide +kernel), List.mem_of_getElem? (i := 321) (by decide +kernel), List.mem_of_getElem? (i := 322) (by decide +kernel)⟩
theorem lw_p7 : lw_okq (⟨"VoiceWords$Text", "numberOf", "()I"⟩, 5) := ⟨⟨by decide +kernel, by decide +kernel⟩, List.mem_of_getElem? (i := 109) (by decide +kernel), List.mem_of_getElem? (i := 325) (by decide +kernel), List.mem_of_getElem? (i := 326) (by decide +kernel)⟩
theorem lw_p8 : lw_okq (⟨"VoiceWords$Text", "wayOf", "()I"⟩, 5) := ⟨⟨by decide +kernel, by decide +kernel⟩, List.mem_of_getElem? (i := 109) (by decide +kernel), List.mem_of_getElem? (i := 330) (by decide +kernel), List.mem_of_getElem? (i := 331) (by decide +kernel)⟩
theorem lw_p9 : lw_okq (⟨"VoiceWords$Text", "readShot", "(LVoiceWords$Scene;)Z"⟩, 5) := ⟨⟨by decide +kernel, by decide +kernel⟩, List.mem_of_getElem? (i := 109) (by decide +kernel), List.mem_of_getElem? (i := 342) (by decide +kernel), List.mem_of_getElem? (i := 343) (by decide +kernel)⟩
theorem lw_p10 : lw_okq (⟨"VoiceWords", "isPossiblePlace", "(III)Z"⟩, 5) := ⟨⟨by decide +kernel, by decide +kernel⟩, List.mem_of_getElem? (i := 14) (by decide +kernel), List.mem_of_getElem? (i := 354) (by decide +kernel), List.mem_of_getElem? (i := 355) (by decide +kernel)⟩
theorem lw_p11 : lw_okq (⟨"VoiceWords$Scene", "stepsToLeave", "(LVoiceWords$Word;)I"⟩, 7) := ⟨⟨by decide +kernel, by decide +kernel⟩, List.mem_of_getElem? (i := 22) (by decide +kernel), List.mem_of_getElem? (i := 389) (by decide +kernel), List.mem_of_getElem? (i := 390) (by decide +kernel)⟩
theorem lw_p12 : lw_okq (⟨"VoiceWords$Scene", "cellsMoved", "(I)I"⟩, 7) := ⟨⟨by decide +kernel, by decide +kernel⟩, List.mem_of_getElem? (i := 22) (by decide +kernel), List.mem_of_getElem? (i := 397) (by decide +kernel), List.mem_of_getElem? (i := 398) (by decide +kernel)⟩
theorem lw_p13 : lw_okq (⟨"VoiceWords$Scene", "shareCell", "(LVoiceWords$Word;LVoiceWords$Word;I)Z"⟩, 7) := ⟨⟨by decide +kernel, by decide +kernel⟩, List.mem_of_getElem? (i := 22) (by decide +kernel), List.mem_of_getElem? (i := 405) (by decide +kernel), List.mem_of_getElem? (i := 406) (by decide +kernel)⟩
theorem lw_p14 : lw_okq (⟨"VoiceWordsModel", "act", "()V"⟩, 13) := ⟨⟨by decide +kernel, by decide +kernel⟩, List.mem_of_getElem? (i := 540) (by decide +kernel), List.mem_of_getElem? (i := 601) (by decide +kernel), List.mem_of_getElem? (i := 602) (by decide +kernel)⟩
theorem lw_p15 : lw_okq (⟨"VoiceWordsModel", "makeWord", "(IIIII)I"⟩, 13) := ⟨⟨by decide +kernel, by decide +kernel⟩, List.mem_of_getElem? (i := 540) (by decide +kernel), List.mem_of_getElem? (i := 605) (by decide +kernel), List.mem_of_getElem? (i := 606) (by decide +kernel)⟩
def lw_privs_1 : List (MethodName × Nat) := [(⟨"VoiceWords", "record", "()V"⟩, 5), (⟨"VoiceWords", "dropOldestState", "()V"⟩, 5), (⟨"VoiceWords$Text", "step", "()V"⟩, 5), (⟨"VoiceWords$Text", "kindAt", "(I)I"⟩, 5), (⟨"VoiceWords$Text", "readItem", "(LVoiceWords$Scene;)Z"⟩, 5), (⟨"VoiceWords$Text", "isName", "(Ljava/lang/String;)Z"⟩, 5), (⟨"VoiceWords$Text", "readWord", "(LVoiceWords$Scene;)Z"⟩, 5), (⟨"VoiceWords$Text", "numberOf", "()I"⟩, 5), (⟨"VoiceWords$Text", "wayOf", "()I"⟩, 5), (⟨"VoiceWords$Text", "readShot", "(LVoiceWords$Scene;)Z"⟩, 5), (⟨"VoiceWords", "isPossiblePlace", "(III)Z"⟩, 5), (⟨"VoiceWords$Scene", "stepsToLeave", "(LVoiceWords$Word;)I"⟩, 7), (⟨"VoiceWords$Scene", "cellsMoved", "(I)I"⟩, 7), (⟨"VoiceWords$Scene", "shareCell", "(LVoiceWords$Word;LVoiceWords$Word;I)Z"⟩, 7), (⟨"VoiceWordsModel", "act", "()V"⟩, 13), (⟨"VoiceWordsModel", "makeWord", "(IIIII)I"⟩, 13)]
theorem lw_r1 : ∀ q ∈ lw_privs_1, lw_okq q := List.forall_mem_cons.mpr ⟨lw_p0, List.forall_mem_cons.mpr ⟨lw_p1, List.forall_mem_cons.mpr ⟨lw_p2, List.forall_mem_cons.mpr ⟨lw_p3, List.forall_mem_cons.mpr ⟨lw_p4, List.forall_mem_cons.mpr ⟨lw_p5, List.forall_mem_cons.mpr ⟨lw_p6, List.forall_mem_cons.mpr ⟨lw_p7, List.forall_mem_cons.mpr ⟨lw_p8, List.forall_mem_cons.mpr ⟨lw_p9, List.forall_mem_cons.mpr ⟨lw_p10, List.forall_mem_cons.mpr ⟨lw_p11, List.forall_mem_cons.mpr ⟨lw_p12, List.forall_mem_cons.mpr ⟨lw_p13, List.forall_mem_cons.mpr ⟨lw_p14, List.forall_mem_cons.mpr ⟨lw_p15, fun _ h => absurd h List.not_mem_nil⟩⟩⟩⟩⟩⟩⟩⟩⟩⟩⟩⟩⟩⟩⟩⟩
theorem lw_p16 : lw_okq (⟨"VoiceWordsModel", "set", "(III)V"⟩, 13) := ⟨⟨by decide +kernel, by decide +kernel⟩, List.mem_of_getElem? (i := 540) (by decide +kernel), List.mem_of_getElem? (i := 609) (by decide +kernel), List.mem_of_getElem? (i := 610) (by decide +kernel)⟩
theorem lw_p17 : lw_okq (⟨"VoiceWordsModel", "isWord", "(I)Z"⟩, 13) := ⟨⟨by decide +kernel, by decide +kernel⟩, List.mem_of_getElem? (i := 540) (by decide +kernel), List.mem_of_getElem? (i := 617) (by decide +kernel), List.mem_of_getElem? (i := 618) (by decide +kernel)⟩
theorem lw_p18 : lw_okq (⟨"VoiceWordsModel", "of", "(II)I"⟩, 13) := ⟨⟨by decide +kernel, by decide +kernel⟩, List.mem_of_getElem? (i := 540) (by decide +kernel), List.mem_of_getElem? (i := 625) (by decide +kernel), List.mem_of_getElem? (i := 626) (by decide +kernel)⟩
theorem lw_p19 : lw_okq (⟨"VoiceWordsModel", "takeOff", "(I)V"⟩, 13) := ⟨⟨by decide +kernel, by decide +kernel⟩, List.mem_of_getElem? (i := 540) (by decide +kernel), List.mem_of_getElem? (i := 629) (by decide +kernel), List.mem_of_getElem? (i := 630) (by decide +kernel)⟩
theorem lw_p20 : lw_okq (⟨"VoiceWordsModel", "shotOf", "(I)I"⟩, 13) := ⟨⟨by decide +kernel, by decide +kernel⟩, List.mem_of_getElem? (i := 540) (by decide +kernel), List.mem_of_getElem? (i := 638) (by decide +kernel), List.mem_of_getElem? (i := 639) (by decide +kernel)⟩
theorem lw_p21 : lw_okq (⟨"VoiceWordsModel", "makeShot", "(I)V"⟩, 13) := ⟨⟨by decide +kernel, by decide +kernel⟩, List.mem_of_getElem? (i := 540) (by decide +kernel), List.mem_of_getElem? (i := 642) (by decide +kernel), List.mem_of_getElem? (i := 643) (by decide +kernel)⟩
theorem lw_p22 : lw_okq (⟨"VoiceWordsModel", "hold", "()V"⟩, 13) := ⟨⟨by decide +kernel, by decide +kernel⟩, List.mem_of_getElem? (i := 540) (by decide +kernel), List.mem_of_getElem? (i := 669) (by decide +kernel), List.mem_of_getElem? (i := 670) (by decide +kernel)⟩
theorem lw_p23 : lw_okq (⟨"VoiceWordsModel", "read", "()V"⟩, 13) := ⟨⟨by decide +kernel, by decide +kernel⟩, List.mem_of_getElem? (i := 540) (by decide +kernel), List.mem_of_getElem? (i := 673) (by decide +kernel), List.mem_of_getElem? (i := 674) (by decide +kernel)⟩
theorem lw_p24 : lw_okq (⟨"VoiceWordsModel", "here", "()I"⟩, 13) := ⟨⟨by decide +kernel, by decide +kernel⟩, List.mem_of_getElem? (i := 540) (by decide +kernel), List.mem_of_getElem? (i := 677) (by decide +kernel), List.mem_of_getElem? (i := 678) (by decide +kernel)⟩
theorem lw_p25 : lw_okq (⟨"VoiceWordsModel", "readItem", "()V"⟩, 13) := ⟨⟨by decide +kernel, by decide +kernel⟩, List.mem_of_getElem? (i := 540) (by decide +kernel), List.mem_of_getElem? (i := 688) (by decide +kernel), List.mem_of_getElem? (i := 689) (by decide +kernel)⟩
theorem lw_p26 : lw_okq (⟨"VoiceWordsModel", "accept", "(Z)I"⟩, 13) := ⟨⟨by decide +kernel, by decide +kernel⟩, List.mem_of_getElem? (i := 540) (by decide +kernel), List.mem_of_getElem? (i := 694) (by decide +kernel), List.mem_of_getElem? (i := 695) (by decide +kernel)⟩
theorem lw_p27 : lw_okq (⟨"VoiceWordsModel", "readWord", "()V"⟩, 13) := ⟨⟨by decide +kernel, by decide +kernel⟩, List.mem_of_getElem? (i := 540) (by decide +kernel), List.mem_of_getElem? (i := 698) (by decide +kernel), List.mem_of_getElem? (i := 699) (by decide +kernel)⟩
theorem lw_p28 : lw_okq (⟨"VoiceWordsModel", "number", "(II)I"⟩, 13) := ⟨⟨by decide +kernel, by decide +kernel⟩, List.mem_of_getElem? (i := 540) (by decide +kernel), List.mem_of_getElem? (i := 702) (by decide +kernel), List.mem_of_getElem? (i := 703) (by decide +kernel)⟩
theorem lw_p29 : lw_okq (⟨"VoiceWordsModel", "wayOf", "()I"⟩, 13) := ⟨⟨by decide +kernel, by decide +kernel⟩, List.mem_of_getElem? (i := 540) (by decide +kernel), List.mem_of_getElem? (i := 706) (by decide +kernel), List.mem_of_getElem? (i := 707) (by decide +kernel)⟩
theorem lw_p30 : lw_okq (⟨"VoiceWordsModel", "readShot", "()V"⟩, 13) := ⟨⟨by decide +kernel, by decide +kernel⟩, List.mem_of_getElem? (i := 540) (by decide +kernel), List.mem_of_getElem? (i := 714) (by decide +kernel), List.mem_of_getElem? (i := 715) (by decide +kernel)⟩
theorem lw_p31 : lw_okq (⟨"VoiceWordsModel", "exchange", "()V"⟩, 13) := ⟨⟨by decide +kernel, by decide +kernel⟩, List.mem_of_getElem? (i := 540) (by decide +kernel), List.mem_of_getElem? (i := 718) (by decide +kernel), List.mem_of_getElem? (i := 719) (by decide +kernel)⟩
def lw_privs_2 : List (MethodName × Nat) := [(⟨"VoiceWordsModel", "set", "(III)V"⟩, 13), (⟨"VoiceWordsModel", "isWord", "(I)Z"⟩, 13), (⟨"VoiceWordsModel", "of", "(II)I"⟩, 13), (⟨"VoiceWordsModel", "takeOff", "(I)V"⟩, 13), (⟨"VoiceWordsModel", "shotOf", "(I)I"⟩, 13), (⟨"VoiceWordsModel", "makeShot", "(I)V"⟩, 13), (⟨"VoiceWordsModel", "hold", "()V"⟩, 13), (⟨"VoiceWordsModel", "read", "()V"⟩, 13), (⟨"VoiceWordsModel", "here", "()I"⟩, 13), (⟨"VoiceWordsModel", "readItem", "()V"⟩, 13), (⟨"VoiceWordsModel", "accept", "(Z)I"⟩, 13), (⟨"VoiceWordsModel", "readWord", "()V"⟩, 13), (⟨"VoiceWordsModel", "number", "(II)I"⟩, 13), (⟨"VoiceWordsModel", "wayOf", "()I"⟩, 13), (⟨"VoiceWordsModel", "readShot", "()V"⟩, 13), (⟨"VoiceWordsModel", "exchange", "()V"⟩, 13)]
theorem lw_r2 : ∀ q ∈ lw_privs_2, lw_okq q := List.forall_mem_cons.mpr ⟨lw_p16, List.forall_mem_cons.mpr ⟨lw_p17, List.forall_mem_cons.mpr ⟨lw_p18, List.forall_mem_cons.mpr ⟨lw_p19, List.forall_mem_cons.mpr ⟨lw_p20, List.forall_mem_cons.mpr ⟨lw_p21, List.forall_mem_cons.mpr ⟨lw_p22, List.forall_mem_cons.mpr ⟨lw_p23, List.forall_mem_cons.mpr ⟨lw_p24, List.forall_mem_cons.mpr ⟨lw_p25, List.forall_mem_cons.mpr ⟨lw_p26, List.forall_mem_cons.mpr ⟨lw_p27, List.forall_mem_cons.mpr ⟨lw_p28, List.forall_mem_cons.mpr ⟨lw_p29, List.forall_mem_cons.mpr ⟨lw_p30, List.forall_mem_cons.mpr ⟨lw_p31, fun _ h => absurd h List.not_mem_nil⟩⟩⟩⟩⟩⟩⟩⟩⟩⟩⟩⟩⟩⟩⟩⟩
theorem lw_p32 : lw_okq (⟨"VoiceWordsModel", "isPlace", "(III)Z"⟩, 13) := ⟨⟨by decide +kernel, by decide +kernel⟩, List.mem_of_getElem? (i := 540) (by decide +kernel), List.mem_of_getElem? (i := 726) (by decide +kernel), List.mem_of_getElem? (i := 727) (by decide +kernel)⟩
theorem lw_p33 : lw_okq (⟨"VoiceWordsModel", "lay", "(III)V"⟩, 13) := ⟨⟨by decide +kernel, by decide +kernel⟩, List.mem_of_getElem? (i := 540) (by decide +kernel), List.mem_of_getElem? (i := 731) (by decide +kernel), List.mem_of_getElem? (i := 732) (by decide +kernel)⟩
theorem lw_p34 : lw_okq (⟨"VoiceWordsModel", "meetsAny", "(I)Z"⟩, 13) := ⟨⟨by decide +kernel, by decide +kernel⟩, List.mem_of_getElem? (i := 540) (by decide +kernel), List.mem_of_getElem? (i := 735) (by decide +kernel), List.mem_of_getElem? (i := 736) (by decide +kernel)⟩
theorem lw_p35 : lw_okq (⟨"VoiceWordsModel", "isPut", "(I)Z"⟩, 13) := ⟨⟨by decide +kernel, by decide +kernel⟩, List.mem_of_getElem? (i := 540) (by decide +kernel), List.mem_of_getElem? (i := 739) (by decide +kernel), List.mem_of_getElem? (i := 740) (by decide +kernel)⟩
theorem lw_p36 : lw_okq (⟨"VoiceWordsModel", "meetingOf", "(II)I"⟩, 13) := ⟨⟨by decide +kernel, by decide +kernel⟩, List.mem_of_getElem? (i := 540) (by decide +kernel), List.mem_of_getElem? (i := 743) (by decide +kernel), List.mem_of_getElem? (i := 744) (by decide +kernel)⟩
theorem lw_p37 : lw_okq (⟨"VoiceWordsModel", "isOn", "(II)Z"⟩, 13) := ⟨⟨by decide +kernel, by decide +kernel⟩, List.mem_of_getElem? (i := 540) (by decide +kernel), List.mem_of_getElem? (i := 750) (by decide +kernel), List.mem_of_getElem? (i := 751) (by decide +kernel)⟩
theorem lw_p38 : lw_okq (⟨"VoiceWordsModel", "cut", "(I)I"⟩, 13) := ⟨⟨by decide +kernel, by decide +kernel⟩, List.mem_of_getElem? (i := 540) (by decide +kernel), List.mem_of_getElem? (i := 754) (by decide +kernel), List.mem_of_getElem? (i := 755) (by decide +kernel)⟩
theorem lw_p39 : lw_okq (⟨"VoiceWordsModel", "behind", "(I)I"⟩, 13) := ⟨⟨by decide +kernel, by decide +kernel⟩, List.mem_of_getElem? (i := 540) (by decide +kernel), List.mem_of_getElem? (i := 758) (by decide +kernel), List.mem_of_getElem? (i := 759) (by decide +kernel)⟩
theorem lw_p40 : lw_okq (⟨"VoiceWordsModel", "columnAt", "(II)I"⟩, 13) := ⟨⟨by decide +kernel, by decide +kernel⟩, List.mem_of_getElem? (i := 540) (by decide +kernel), List.mem_of_getElem? (i := 762) (by decide +kernel), List.mem_of_getElem? (i := 763) (by decide +kernel)⟩
theorem lw_p41 : lw_okq (⟨"VoiceWordsModel", "moved", "(II)I"⟩, 13) := ⟨⟨by decide +kernel, by decide +kernel⟩, List.mem_of_getElem? (i := 540) (by decide +kernel), List.mem_of_getElem? (i := 766) (by decide +kernel), List.mem_of_getElem? (i := 767) (by decide +kernel)⟩
theorem lw_p42 : lw_okq (⟨"VoiceWordsModel", "rowAt", "(II)I"⟩, 13) := ⟨⟨by decide +kernel, by decide +kernel⟩, List.mem_of_getElem? (i := 540) (by decide +kernel), List.mem_of_getElem? (i := 771) (by decide +kernel), List.mem_of_getElem? (i := 772) (by decide +kernel)⟩
theorem lw_p43 : lw_okq (⟨"VoiceWordsModel", "meetsAt", "(III)Z"⟩, 13) := ⟨⟨by decide +kernel, by decide +kernel⟩, List.mem_of_getElem? (i := 540) (by decide +kernel), List.mem_of_getElem? (i := 775) (by decide +kernel), List.mem_of_getElem? (i := 776) (by decide +kernel)⟩
theorem lw_p44 : lw_okq (⟨"VoiceWordsModel", "putMany", "()I"⟩, 13) := ⟨⟨by decide +kernel, by decide +kernel⟩, List.mem_of_getElem? (i := 540) (by decide +kernel), List.mem_of_getElem? (i := 782) (by decide +kernel), List.mem_of_getElem? (i := 783) (by decide +kernel)⟩
theorem lw_p45 : lw_okq (⟨"VoiceWordsModel", "nextWord", "()I"⟩, 13) := ⟨⟨by decide +kernel, by decide +kernel⟩, List.mem_of_getElem? (i := 540) (by decide +kernel), List.mem_of_getElem? (i := 794) (by decide +kernel), List.mem_of_getElem? (i := 795) (by decide +kernel)⟩
theorem lw_p46 : lw_okq (⟨"VoiceWordsModel", "laysIn", "(II)Z"⟩, 13) := ⟨⟨by decide +kernel, by decide +kernel⟩, List.mem_of_getElem? (i := 540) (by decide +kernel), List.mem_of_getElem? (i := 801) (by decide +kernel), List.mem_of_getElem? (i := 802) (by decide +kernel)⟩
theorem lw_p47 : lw_okq (⟨"VoiceWordsModel", "meetingPairs", "()I"⟩, 13) := ⟨⟨by decide +kernel, by decide +kernel⟩, List.mem_of_getElem? (i := 540) (by decide +kernel), List.mem_of_getElem? (i := 813) (by decide +kernel), List.mem_of_getElem? (i := 814) (by decide +kernel)⟩
def lw_privs_3 : List (MethodName × Nat) := [(⟨"VoiceWordsModel", "isPlace", "(III)Z"⟩, 13), (⟨"VoiceWordsModel", "lay", "(III)V"⟩, 13), (⟨"VoiceWordsModel", "meetsAny", "(I)Z"⟩, 13), (⟨"VoiceWordsModel", "isPut", "(I)Z"⟩, 13), (⟨"VoiceWordsModel", "meetingOf", "(II)I"⟩, 13), (⟨"VoiceWordsModel", "isOn", "(II)Z"⟩, 13), (⟨"VoiceWordsModel", "cut", "(I)I"⟩, 13), (⟨"VoiceWordsModel", "behind", "(I)I"⟩, 13), (⟨"VoiceWordsModel", "columnAt", "(II)I"⟩, 13), (⟨"VoiceWordsModel", "moved", "(II)I"⟩, 13), (⟨"VoiceWordsModel", "rowAt", "(II)I"⟩, 13), (⟨"VoiceWordsModel", "meetsAt", "(III)Z"⟩, 13), (⟨"VoiceWordsModel", "putMany", "()I"⟩, 13), (⟨"VoiceWordsModel", "nextWord", "()I"⟩, 13), (⟨"VoiceWordsModel", "laysIn", "(II)Z"⟩, 13), (⟨"VoiceWordsModel", "meetingPairs", "()I"⟩, 13)]
theorem lw_r3 : ∀ q ∈ lw_privs_3, lw_okq q := List.forall_mem_cons.mpr ⟨lw_p32, List.forall_mem_cons.mpr ⟨lw_p33, List.forall_mem_cons.mpr ⟨lw_p34, List.forall_mem_cons.mpr ⟨lw_p35, List.forall_mem_cons.mpr ⟨lw_p36, List.forall_mem_cons.mpr ⟨lw_p37, List.forall_mem_cons.mpr ⟨lw_p38, List.forall_mem_cons.mpr ⟨lw_p39, List.forall_mem_cons.mpr ⟨lw_p40, List.forall_mem_cons.mpr ⟨lw_p41, List.forall_mem_cons.mpr ⟨lw_p42, List.forall_mem_cons.mpr ⟨lw_p43, List.forall_mem_cons.mpr ⟨lw_p44, List.forall_mem_cons.mpr ⟨lw_p45, List.forall_mem_cons.mpr ⟨lw_p46, List.forall_mem_cons.mpr ⟨lw_p47, fun _ h => absurd h List.not_mem_nil⟩⟩⟩⟩⟩⟩⟩⟩⟩⟩⟩⟩⟩⟩⟩⟩
theorem lw_p48 : lw_okq (⟨"VoiceWordsModel", "lastOn", "(I)I"⟩, 13) := ⟨⟨by decide +kernel, by decide +kernel⟩, List.mem_of_getElem? (i := 540) (by decide +kernel), List.mem_of_getElem? (i := 821) (by decide +kernel), List.mem_of_getElem? (i := 822) (by decide +kernel)⟩
theorem lw_p49 : lw_okq (⟨"VoiceWordsModel", "wordIn", "(III)I"⟩, 13) := ⟨⟨by decide +kernel, by decide +kernel⟩, List.mem_of_getElem? (i := 540) (by decide +kernel), List.mem_of_getElem? (i := 846) (by decide +kernel), List.mem_of_getElem? (i := 847) (by decide +kernel)⟩
def lw_privs_4 : List (MethodName × Nat) := [(⟨"VoiceWordsModel", "lastOn", "(I)I"⟩, 13), (⟨"VoiceWordsModel", "wordIn", "(III)I"⟩, 13)]
theorem lw_r4 : ∀ q ∈ lw_privs_4, lw_okq q := List.forall_mem_cons.mpr ⟨lw_p48, List.forall_mem_cons.mpr ⟨lw_p49, fun _ h => absurd h List.not_mem_nil⟩⟩
def lw_privs : List (MethodName × Nat) := lw_privs_1 ++ (lw_privs_2 ++ (lw_privs_3 ++ (lw_privs_4)))
def lw_tbl : List Cond := k2_sels lw_privs ++ tables_1
theorem lw_privs_ok : ∀ q ∈ lw_privs, lw_okq q := by
  show ∀ q ∈ lw_privs_1 ++ (lw_privs_2 ++ (lw_privs_3 ++ (lw_privs_4))), lw_okq q
  exact List.forall_mem_append.mpr ⟨lw_r1, List.forall_mem_append.mpr ⟨lw_r2, List.forall_mem_append.mpr ⟨lw_r3, lw_r4⟩⟩⟩
/-- the streams that the claim lets the run draw from -/
abbrev lw_cs : List Choice := [Jvm.Choice.named "NaN.bits"]
theorem lw_bits : nanBits ∈ lw_cs := by first | decide | exact List.mem_cons_self | simp [lw_cs, nanBits]
-- ===== end of PART A; then your names; then what follows =====
end
section
/-! ===== BEGIN words of one list among another's, by their places ===== -/
theorem goodIn_r {big : List Cond} (ws : List Cond) (ps : List Nat) (hp : ws = ps.filterMap (fun i => big[i]?)) (h : ws.all goodWord = true) : GoodIn big ws := by
  intro w hw
  have h1 := List.all_eq_true.mp h w hw
  rw [hp] at hw
  obtain ⟨i, -, hi⟩ := List.mem_filterMap.mp hw
  have hm : w ∈ big := by first | exact List.mem_of_getElem? hi | exact List.getElem?_mem hi
  exact ⟨hm, good_of_word h1⟩
theorem goodIn_app {big a b : List Cond} (ha : GoodIn big a) (hb : GoodIn big b) : GoodIn big (a ++ b) := fun w h => (List.mem_append.mp h).elim (ha w) (hb w)
theorem goodIn_ca {big a b : List Cond} {c : Cond} (ha : GoodIn big (c :: a)) (hb : GoodIn big b) : GoodIn big (c :: (a ++ b)) := fun w h => (List.mem_cons.mp h).elim (fun e => ha w (List.mem_cons.mpr (Or.inl e))) (fun h => (List.mem_append.mp h).elim (fun h => ha w (List.mem_cons.mpr (Or.inr h))) (hb w))
theorem goodIn_sub {big ws : List Cond} (hm : ∀ w ∈ ws, w ∈ big) (h : ws.all goodWord = true) : GoodIn big ws := fun w hw => ⟨hm w hw, good_of_word (List.all_eq_true.mp h w hw)⟩
/-! ===== END ===== -/

/-! ===== BEGIN printed: names, fields, word lists, decode rows ===== -/
def RX0 : String := "VoiceWords$Scene"
def TX0 : u_T := fun k => match k with
  | 0 => ("VoiceWords$Scene", "words", "[LVoiceWords$Word;", true)
  | 1 => ("VoiceWords$Scene", "wordCount", "I", false)
  | 2 => ("VoiceWords$Scene", "shots", "[I", true)
  | 3 => ("VoiceWords$Scene", "shotCount", "I", false)
  | 4 => ("VoiceWords$Scene", "percent", "I", false)
  | 5 => ("VoiceWords$Scene", "trial", "LVoiceWords$Word;", true)
  | _ => ("VoiceWords$Scene", "order", "[I", true)
def tyX0 : Nat → FieldType := fun k => match k with
  | 0 => .array (.object "VoiceWords$Word")
  | 1 => .int
  | 2 => .array .int
  | 3 => .int
  | 4 => .int
  | 5 => .object "VoiceWords$Word"
  | _ => .array .int
abbrev wsX00 : List Cond := u_ws RX0 TX0 7
theorem nmX0 : ∀ a, a < 7 → ∀ b, b < 7 → a ≠ b → (TX0 a).2.1 ≠ (TX0 b).2.1 := by decide +kernel
theorem tyX0_ok : ∀ k, k < 7 → parseFieldDescriptor (TX0 k).2.2.1 = some (tyX0 k) := by decide +kernel
abbrev cX0_init : ByteArray := prog_2_method_1_code
def yX0_init : MethodName := ⟨RX0, "<init>", "()V"⟩
abbrev cX0_copyFrom : ByteArray := prog_2_method_2_code
def yX0_copyFrom : MethodName := ⟨RX0, "copyFrom", "(LVoiceWords$Scene;)V"⟩
abbrev cX0_hasWord : ByteArray := prog_2_method_3_code
def yX0_hasWord : MethodName := ⟨RX0, "hasWord", "(I)Z"⟩
abbrev cX0_hasRoomForWord : ByteArray := prog_2_method_4_code
def yX0_hasRoomForWord : MethodName := ⟨RX0, "hasRoomForWord", "()Z"⟩
abbrev cX0_hasRoomForShot : ByteArray := prog_2_method_5_code
def yX0_hasRoomForShot : MethodName := ⟨RX0, "hasRoomForShot", "()Z"⟩
abbrev cX0_appendWord : ByteArray := prog_2_method_6_code
def yX0_appendWord : MethodName := ⟨RX0, "appendWord", "(IIIII)LVoiceWords$Word;"⟩
abbrev cX0_deleteWord : ByteArray := prog_2_method_7_code
def yX0_deleteWord : MethodName := ⟨RX0, "deleteWord", "(I)V"⟩
abbrev cX0_hasShotIn : ByteArray := prog_2_method_8_code
def yX0_hasShotIn : MethodName := ⟨RX0, "hasShotIn", "(I)Z"⟩
abbrev cX0_insertShot : ByteArray := prog_2_method_9_code
def yX0_insertShot : MethodName := ⟨RX0, "insertShot", "(I)V"⟩
abbrev cX0_deleteShot : ByteArray := prog_2_method_10_code
def yX0_deleteShot : MethodName := ⟨RX0, "deleteShot", "(I)V"⟩
abbrev cX0_countPut : ByteArray := prog_2_method_11_code
def yX0_countPut : MethodName := ⟨RX0, "countPut", "()I"⟩
abbrev cX0_countMeetingPairs : ByteArray := prog_2_method_12_code
def yX0_countMeetingPairs : MethodName := ⟨RX0, "countMeetingPairs", "()I"⟩
abbrev cX0_cellsMoved : ByteArray := prog_2_method_13_code
def yX0_cellsMoved : MethodName := ⟨RX0, "cellsMoved", "(I)I"⟩
abbrev cX0_rowOf : ByteArray := prog_2_method_14_code
def yX0_rowOf : MethodName := ⟨RX0, "rowOf", "(LVoiceWords$Word;I)I"⟩
abbrev cX0_columnOf : ByteArray := prog_2_method_15_code
def yX0_columnOf : MethodName := ⟨RX0, "columnOf", "(LVoiceWords$Word;I)I"⟩
abbrev cX0_goneFrom : ByteArray := prog_2_method_16_code
def yX0_goneFrom : MethodName := ⟨RX0, "goneFrom", "(LVoiceWords$Word;)I"⟩
abbrev cX0_stepsToLeave : ByteArray := prog_2_method_17_code
def yX0_stepsToLeave : MethodName := ⟨RX0, "stepsToLeave", "(LVoiceWords$Word;)I"⟩
abbrev cX0_isVisible : ByteArray := prog_2_method_18_code
def yX0_isVisible : MethodName := ⟨RX0, "isVisible", "(LVoiceWords$Word;I)Z"⟩
abbrev cX0_visibleSet : ByteArray := prog_2_method_19_code
def yX0_visibleSet : MethodName := ⟨RX0, "visibleSet", "(I)I"⟩
abbrev cX0_characterIn : ByteArray := prog_2_method_20_code
def yX0_characterIn : MethodName := ⟨RX0, "characterIn", "(III)I"⟩
abbrev cX0_cellsInRow : ByteArray := prog_2_method_21_code
def yX0_cellsInRow : MethodName := ⟨RX0, "cellsInRow", "(II)J"⟩
abbrev cX0_readingPace : ByteArray := prog_2_method_22_code
def yX0_readingPace : MethodName := ⟨RX0, "readingPace", "(I)I"⟩
abbrev cX0_firstMeeting : ByteArray := prog_2_method_23_code
def yX0_firstMeeting : MethodName := ⟨RX0, "firstMeeting", "(LVoiceWords$Word;LVoiceWords$Word;)I"⟩
abbrev cX0_shareCell : ByteArray := prog_2_method_24_code
def yX0_shareCell : MethodName := ⟨RX0, "shareCell", "(LVoiceWords$Word;LVoiceWords$Word;I)Z"⟩
abbrev cX0_isFree : ByteArray := prog_2_method_25_code
def yX0_isFree : MethodName := ⟨RX0, "isFree", "(IIII)Z"⟩
abbrev cX0_takeAllWords : ByteArray := prog_2_method_26_code
def yX0_takeAllWords : MethodName := ⟨RX0, "takeAllWords", "()V"⟩
abbrev cX0_sortForPutting : ByteArray := prog_2_method_27_code
def yX0_sortForPutting : MethodName := ⟨RX0, "sortForPutting", "()V"⟩
abbrev cX0_comesBefore : ByteArray := prog_2_method_28_code
def yX0_comesBefore : MethodName := ⟨RX0, "comesBefore", "(LVoiceWords$Word;LVoiceWords$Word;)Z"⟩
abbrev cX0_putAtFirstPlace : ByteArray := prog_2_method_29_code
def yX0_putAtFirstPlace : MethodName := ⟨RX0, "putAtFirstPlace", "(I)V"⟩
def RX1 : String := "VoiceWords$Text"
def TX1 : u_T := fun k => match k with
  | 0 => ("VoiceWords$Text", "characters", "[I", true)
  | 1 => ("VoiceWords$Text", "length", "I", false)
  | 2 => ("VoiceWords$Text", "kind", "I", false)
  | 3 => ("VoiceWords$Text", "start", "I", false)
  | _ => ("VoiceWords$Text", "end", "I", false)
def tyX1 : Nat → FieldType := fun k => match k with
  | 0 => .array .int
  | 1 => .int
  | 2 => .int
  | 3 => .int
  | _ => .int
abbrev wsX10 : List Cond := u_ws RX1 TX1 5
theorem nmX1 : ∀ a, a < 5 → ∀ b, b < 5 → a ≠ b → (TX1 a).2.1 ≠ (TX1 b).2.1 := by decide +kernel
theorem tyX1_ok : ∀ k, k < 5 → parseFieldDescriptor (TX1 k).2.2.1 = some (tyX1 k) := by decide +kernel
abbrev cX1_init : ByteArray := prog_3_method_1_code
def yX1_init : MethodName := ⟨RX1, "<init>", "()V"⟩
abbrev cX1_readInto : ByteArray := prog_3_method_2_code
def yX1_readInto : MethodName := ⟨RX1, "readInto", "(LVoiceWords$Scene;)I"⟩
abbrev cX1_readItem : ByteArray := prog_3_method_3_code
def yX1_readItem : MethodName := ⟨RX1, "readItem", "(LVoiceWords$Scene;)Z"⟩
abbrev cX1_readWord : ByteArray := prog_3_method_4_code
def yX1_readWord : MethodName := ⟨RX1, "readWord", "(LVoiceWords$Scene;)Z"⟩
abbrev cX1_readShot : ByteArray := prog_3_method_5_code
def yX1_readShot : MethodName := ⟨RX1, "readShot", "(LVoiceWords$Scene;)Z"⟩
abbrev cX1_step : ByteArray := prog_3_method_6_code
def yX1_step : MethodName := ⟨RX1, "step", "()V"⟩
abbrev cX1_kindAt : ByteArray := prog_3_method_7_code
def yX1_kindAt : MethodName := ⟨RX1, "kindAt", "(I)I"⟩
abbrev cX1_isName : ByteArray := prog_3_method_8_code
def yX1_isName : MethodName := ⟨RX1, "isName", "(Ljava/lang/String;)Z"⟩
abbrev cX1_wayOf : ByteArray := prog_3_method_9_code
def yX1_wayOf : MethodName := ⟨RX1, "wayOf", "()I"⟩
abbrev cX1_numberOf : ByteArray := prog_3_method_10_code
def yX1_numberOf : MethodName := ⟨RX1, "numberOf", "()I"⟩
def RX2 : String := "VoiceWords$Word"
def TX2 : u_T := fun k => match k with
  | 0 => ("VoiceWords$Word", "letters", "[I", true)
  | 1 => ("VoiceWords$Word", "length", "I", false)
  | 2 => ("VoiceWords$Word", "frame", "I", false)
  | 3 => ("VoiceWords$Word", "spoken", "I", false)
  | 4 => ("VoiceWords$Word", "held", "I", false)
  | 5 => ("VoiceWords$Word", "way", "I", false)
  | 6 => ("VoiceWords$Word", "isPut", "Z", false)
  | 7 => ("VoiceWords$Word", "lane", "I", false)
  | _ => ("VoiceWords$Word", "column", "I", false)
def tyX2 : Nat → FieldType := fun k => match k with
  | 0 => .array .int
  | 1 => .int
  | 2 => .int
  | 3 => .int
  | 4 => .int
  | 5 => .int
  | 6 => .boolean
  | 7 => .int
  | _ => .int
abbrev wsX20 : List Cond := u_ws RX2 TX2 9
theorem nmX2 : ∀ a, a < 9 → ∀ b, b < 9 → a ≠ b → (TX2 a).2.1 ≠ (TX2 b).2.1 := by decide +kernel
theorem tyX2_ok : ∀ k, k < 9 → parseFieldDescriptor (TX2 k).2.2.1 = some (tyX2 k) := by decide +kernel
abbrev cX2_init : ByteArray := prog_4_method_1_code
def yX2_init : MethodName := ⟨RX2, "<init>", "()V"⟩
abbrev cX2_copyFrom : ByteArray := prog_4_method_2_code
def yX2_copyFrom : MethodName := ⟨RX2, "copyFrom", "(LVoiceWords$Word;)V"⟩
abbrev cX2_property : ByteArray := prog_4_method_3_code
def yX2_property : MethodName := ⟨RX2, "property", "(I)I"⟩
abbrev cX2_setProperty : ByteArray := prog_4_method_4_code
def yX2_setProperty : MethodName := ⟨RX2, "setProperty", "(II)V"⟩
abbrev cX2_putAt : ByteArray := prog_4_method_5_code
def yX2_putAt : MethodName := ⟨RX2, "putAt", "(II)V"⟩
abbrev cX2_leavesIn : ByteArray := prog_4_method_6_code
def yX2_leavesIn : MethodName := ⟨RX2, "leavesIn", "()I"⟩
abbrev cX2_stepsIn : ByteArray := prog_4_method_7_code
def yX2_stepsIn : MethodName := ⟨RX2, "stepsIn", "(I)I"⟩
abbrev cX2_keepsLane : ByteArray := prog_4_method_8_code
def yX2_keepsLane : MethodName := ⟨RX2, "keepsLane", "()Z"⟩
abbrev cX2_lastColumn : ByteArray := prog_4_method_9_code
def yX2_lastColumn : MethodName := ⟨RX2, "lastColumn", "()I"⟩
abbrev cX2_cellsToLeave : ByteArray := prog_4_method_10_code
def yX2_cellsToLeave : MethodName := ⟨RX2, "cellsToLeave", "()I"⟩
def RX3 : String := "VoiceWords"
def TX3 : u_T := fun k => match k with
  | 0 => ("VoiceWords", "scene", "LVoiceWords$Scene;", true)
  | 1 => ("VoiceWords", "draft", "LVoiceWords$Scene;", true)
  | 2 => ("VoiceWords", "history", "[LVoiceWords$Scene;", true)
  | 3 => ("VoiceWords", "states", "I", false)
  | _ => ("VoiceWords", "text", "LVoiceWords$Text;", true)
def tyX3 : Nat → FieldType := fun k => match k with
  | 0 => .object "VoiceWords$Scene"
  | 1 => .object "VoiceWords$Scene"
  | 2 => .array (.object "VoiceWords$Scene")
  | 3 => .int
  | _ => .object "VoiceWords$Text"
abbrev wsX30 : List Cond := u_ws RX3 TX3 5
theorem nmX3 : ∀ a, a < 5 → ∀ b, b < 5 → a ≠ b → (TX3 a).2.1 ≠ (TX3 b).2.1 := by decide +kernel
theorem tyX3_ok : ∀ k, k < 5 → parseFieldDescriptor (TX3 k).2.2.1 = some (tyX3 k) := by decide +kernel
abbrev cX3_init : ByteArray := prog_1_method_1_code
def yX3_init : MethodName := ⟨RX3, "<init>", "()V"⟩
abbrev cX3_addWord : ByteArray := prog_1_method_2_code
def yX3_addWord : MethodName := ⟨RX3, "addWord", "(IIIII)I"⟩
abbrev cX3_removeWord : ByteArray := prog_1_method_3_code
def yX3_removeWord : MethodName := ⟨RX3, "removeWord", "(I)I"⟩
abbrev cX3_setWord : ByteArray := prog_1_method_4_code
def yX3_setWord : MethodName := ⟨RX3, "setWord", "(III)I"⟩
abbrev cX3_addShot : ByteArray := prog_1_method_5_code
def yX3_addShot : MethodName := ⟨RX3, "addShot", "(I)I"⟩
abbrev cX3_removeShot : ByteArray := prog_1_method_6_code
def yX3_removeShot : MethodName := ⟨RX3, "removeShot", "(I)I"⟩
abbrev cX3_setSpeed : ByteArray := prog_1_method_7_code
def yX3_setSpeed : MethodName := ⟨RX3, "setSpeed", "(I)I"⟩
abbrev cX3_append : ByteArray := prog_1_method_8_code
def yX3_append : MethodName := ⟨RX3, "append", "(I)I"⟩
abbrev cX3_clearText : ByteArray := prog_1_method_9_code
def yX3_clearText : MethodName := ⟨RX3, "clearText", "()I"⟩
abbrev cX3_load : ByteArray := prog_1_method_10_code
def yX3_load : MethodName := ⟨RX3, "load", "()I"⟩
abbrev cX3_put : ByteArray := prog_1_method_11_code
def yX3_put : MethodName := ⟨RX3, "put", "(III)I"⟩
abbrev cX3_take : ByteArray := prog_1_method_12_code
def yX3_take : MethodName := ⟨RX3, "take", "(I)I"⟩
abbrev cX3_putAll : ByteArray := prog_1_method_13_code
def yX3_putAll : MethodName := ⟨RX3, "putAll", "()I"⟩
abbrev cX3_undo : ByteArray := prog_1_method_14_code
def yX3_undo : MethodName := ⟨RX3, "undo", "()I"⟩
abbrev cX3_count : ByteArray := prog_1_method_15_code
def yX3_count : MethodName := ⟨RX3, "count", "(I)I"⟩
abbrev cX3_word : ByteArray := prog_1_method_16_code
def yX3_word : MethodName := ⟨RX3, "word", "(II)I"⟩
abbrev cX3_letter : ByteArray := prog_1_method_17_code
def yX3_letter : MethodName := ⟨RX3, "letter", "(II)I"⟩
abbrev cX3_shot : ByteArray := prog_1_method_18_code
def yX3_shot : MethodName := ⟨RX3, "shot", "(I)I"⟩
abbrev cX3_where : ByteArray := prog_1_method_19_code
def yX3_where : MethodName := ⟨RX3, "where", "(III)I"⟩
abbrev cX3_written : ByteArray := prog_1_method_20_code
def yX3_written : MethodName := ⟨RX3, "written", "(III)I"⟩
abbrev cX3_onScreen : ByteArray := prog_1_method_21_code
def yX3_onScreen : MethodName := ⟨RX3, "onScreen", "(I)I"⟩
abbrev cX3_meeting : ByteArray := prog_1_method_22_code
def yX3_meeting : MethodName := ⟨RX3, "meeting", "(II)I"⟩
abbrev cX3_pace : ByteArray := prog_1_method_23_code
def yX3_pace : MethodName := ⟨RX3, "pace", "(I)I"⟩
abbrev cX3_earliest : ByteArray := prog_1_method_24_code
def yX3_earliest : MethodName := ⟨RX3, "earliest", "(III)I"⟩
abbrev cX3_filled : ByteArray := prog_1_method_25_code
def yX3_filled : MethodName := ⟨RX3, "filled", "(I)I"⟩
abbrev cX3_record : ByteArray := prog_1_method_26_code
def yX3_record : MethodName := ⟨RX3, "record", "()V"⟩
abbrev cX3_dropOldestState : ByteArray := prog_1_method_27_code
def yX3_dropOldestState : MethodName := ⟨RX3, "dropOldestState", "()V"⟩
abbrev cX3_isPossiblePlace : ByteArray := prog_1_method_28_code
def yX3_isPossiblePlace : MethodName := ⟨RX3, "isPossiblePlace", "(III)Z"⟩
abbrev cX3_isBetween : ByteArray := prog_1_method_29_code
def yX3_isBetween : MethodName := ⟨RX3, "isBetween", "(III)Z"⟩
abbrev cX3_isAskedFrame : ByteArray := prog_1_method_30_code
def yX3_isAskedFrame : MethodName := ⟨RX3, "isAskedFrame", "(I)Z"⟩
abbrev cX3_isAllowed : ByteArray := prog_1_method_31_code
def yX3_isAllowed : MethodName := ⟨RX3, "isAllowed", "(II)Z"⟩
def RX4 : String := "VoiceWordsModel"
def TX4 : u_T := fun k => match k with
  | 0 => ("VoiceWordsModel", "thrown", "I", false)
  | 1 => ("VoiceWordsModel", "s", "[I", true)
  | 2 => ("VoiceWordsModel", "aside", "[I", true)
  | 3 => ("VoiceWordsModel", "saved", "[I", true)
  | 4 => ("VoiceWordsModel", "savedMany", "I", false)
  | 5 => ("VoiceWordsModel", "text", "[I", true)
  | 6 => ("VoiceWordsModel", "length", "I", false)
  | 7 => ("VoiceWordsModel", "next", "I", false)
  | 8 => ("VoiceWordsModel", "start", "I", false)
  | 9 => ("VoiceWordsModel", "token", "I", false)
  | 10 => ("VoiceWordsModel", "worth", "J", false)
  | 11 => ("VoiceWordsModel", "isWrong", "Z", false)
  | _ => ("VoiceWordsModel", "isDone", "[Z", true)
def tyX4 : Nat → FieldType := fun k => match k with
  | 0 => .int
  | 1 => .array .int
  | 2 => .array .int
  | 3 => .array .int
  | 4 => .int
  | 5 => .array .int
  | 6 => .int
  | 7 => .int
  | 8 => .int
  | 9 => .int
  | 10 => .long
  | 11 => .boolean
  | _ => .array .boolean
abbrev wsX40 : List Cond := u_ws RX4 TX4 13
theorem nmX4 : ∀ a, a < 13 → ∀ b, b < 13 → a ≠ b → (TX4 a).2.1 ≠ (TX4 b).2.1 := by decide +kernel
theorem tyX4_ok : ∀ k, k < 13 → parseFieldDescriptor (TX4 k).2.2.1 = some (tyX4 k) := by decide +kernel
abbrev cX4_init : ByteArray := prog_6_method_1_code
def yX4_init : MethodName := ⟨RX4, "<init>", "()V"⟩
abbrev cX4_in : ByteArray := prog_6_method_3_code
def yX4_in : MethodName := ⟨RX4, "in", "(JJJ)Z"⟩
abbrev cX4_less : ByteArray := prog_6_method_4_code
def yX4_less : MethodName := ⟨RX4, "less", "(II)I"⟩
abbrev cX4_more : ByteArray := prog_6_method_5_code
def yX4_more : MethodName := ⟨RX4, "more", "(II)I"⟩
abbrev cX4_act : ByteArray := prog_6_method_6_code
def yX4_act : MethodName := ⟨RX4, "act", "()V"⟩
abbrev cX4_isWord : ByteArray := prog_6_method_7_code
def yX4_isWord : MethodName := ⟨RX4, "isWord", "(I)Z"⟩
abbrev cX4_of : ByteArray := prog_6_method_8_code
def yX4_of : MethodName := ⟨RX4, "of", "(II)I"⟩
abbrev cX4_set : ByteArray := prog_6_method_9_code
def yX4_set : MethodName := ⟨RX4, "set", "(III)V"⟩
abbrev cX4_isPut : ByteArray := prog_6_method_10_code
def yX4_isPut : MethodName := ⟨RX4, "isPut", "(I)Z"⟩
abbrev cX4_putMany : ByteArray := prog_6_method_11_code
def yX4_putMany : MethodName := ⟨RX4, "putMany", "()I"⟩
abbrev cX4_behind : ByteArray := prog_6_method_12_code
def yX4_behind : MethodName := ⟨RX4, "behind", "(I)I"⟩
abbrev cX4_cut : ByteArray := prog_6_method_13_code
def yX4_cut : MethodName := ⟨RX4, "cut", "(I)I"⟩
abbrev cX4_moved : ByteArray := prog_6_method_14_code
def yX4_moved : MethodName := ⟨RX4, "moved", "(II)I"⟩
abbrev cX4_rowAt : ByteArray := prog_6_method_15_code
def yX4_rowAt : MethodName := ⟨RX4, "rowAt", "(II)I"⟩
abbrev cX4_columnAt : ByteArray := prog_6_method_16_code
def yX4_columnAt : MethodName := ⟨RX4, "columnAt", "(II)I"⟩
abbrev cX4_isOn : ByteArray := prog_6_method_17_code
def yX4_isOn : MethodName := ⟨RX4, "isOn", "(II)Z"⟩
abbrev cX4_meetsAt : ByteArray := prog_6_method_18_code
def yX4_meetsAt : MethodName := ⟨RX4, "meetsAt", "(III)Z"⟩
abbrev cX4_meetingOf : ByteArray := prog_6_method_19_code
def yX4_meetingOf : MethodName := ⟨RX4, "meetingOf", "(II)I"⟩
abbrev cX4_meetsAny : ByteArray := prog_6_method_20_code
def yX4_meetsAny : MethodName := ⟨RX4, "meetsAny", "(I)Z"⟩
abbrev cX4_makeWord : ByteArray := prog_6_method_21_code
def yX4_makeWord : MethodName := ⟨RX4, "makeWord", "(IIIII)I"⟩
abbrev cX4_isPart : ByteArray := prog_6_method_22_code
def yX4_isPart : MethodName := ⟨RX4, "isPart", "(II)Z"⟩
abbrev cX4_addWord : ByteArray := prog_6_method_23_code
def yX4_addWord : MethodName := ⟨RX4, "addWord", "(IIIII)I"⟩
abbrev cX4_removeWord : ByteArray := prog_6_method_24_code
def yX4_removeWord : MethodName := ⟨RX4, "removeWord", "(I)I"⟩
abbrev cX4_takeOff : ByteArray := prog_6_method_25_code
def yX4_takeOff : MethodName := ⟨RX4, "takeOff", "(I)V"⟩
abbrev cX4_setWord : ByteArray := prog_6_method_26_code
def yX4_setWord : MethodName := ⟨RX4, "setWord", "(III)I"⟩
abbrev cX4_shotOf : ByteArray := prog_6_method_27_code
def yX4_shotOf : MethodName := ⟨RX4, "shotOf", "(I)I"⟩
abbrev cX4_makeShot : ByteArray := prog_6_method_28_code
def yX4_makeShot : MethodName := ⟨RX4, "makeShot", "(I)V"⟩
abbrev cX4_addShot : ByteArray := prog_6_method_29_code
def yX4_addShot : MethodName := ⟨RX4, "addShot", "(I)I"⟩
abbrev cX4_removeShot : ByteArray := prog_6_method_30_code
def yX4_removeShot : MethodName := ⟨RX4, "removeShot", "(I)I"⟩
abbrev cX4_setSpeed : ByteArray := prog_6_method_31_code
def yX4_setSpeed : MethodName := ⟨RX4, "setSpeed", "(I)I"⟩
abbrev cX4_append : ByteArray := prog_6_method_32_code
def yX4_append : MethodName := ⟨RX4, "append", "(I)I"⟩
abbrev cX4_clearText : ByteArray := prog_6_method_33_code
def yX4_clearText : MethodName := ⟨RX4, "clearText", "()I"⟩
abbrev cX4_here : ByteArray := prog_6_method_34_code
def yX4_here : MethodName := ⟨RX4, "here", "()I"⟩
abbrev cX4_read : ByteArray := prog_6_method_35_code
def yX4_read : MethodName := ⟨RX4, "read", "()V"⟩
abbrev cX4_accept : ByteArray := prog_6_method_36_code
def yX4_accept : MethodName := ⟨RX4, "accept", "(Z)I"⟩
abbrev cX4_number : ByteArray := prog_6_method_37_code
def yX4_number : MethodName := ⟨RX4, "number", "(II)I"⟩
abbrev cX4_wayOf : ByteArray := prog_6_method_38_code
def yX4_wayOf : MethodName := ⟨RX4, "wayOf", "()I"⟩
abbrev cX4_readWord : ByteArray := prog_6_method_39_code
def yX4_readWord : MethodName := ⟨RX4, "readWord", "()V"⟩
abbrev cX4_readShot : ByteArray := prog_6_method_40_code
def yX4_readShot : MethodName := ⟨RX4, "readShot", "()V"⟩
abbrev cX4_readItem : ByteArray := prog_6_method_41_code
def yX4_readItem : MethodName := ⟨RX4, "readItem", "()V"⟩
abbrev cX4_exchange : ByteArray := prog_6_method_42_code
def yX4_exchange : MethodName := ⟨RX4, "exchange", "()V"⟩
abbrev cX4_hold : ByteArray := prog_6_method_43_code
def yX4_hold : MethodName := ⟨RX4, "hold", "()V"⟩
abbrev cX4_load : ByteArray := prog_6_method_44_code
def yX4_load : MethodName := ⟨RX4, "load", "()I"⟩
abbrev cX4_isPlace : ByteArray := prog_6_method_45_code
def yX4_isPlace : MethodName := ⟨RX4, "isPlace", "(III)Z"⟩
abbrev cX4_lay : ByteArray := prog_6_method_46_code
def yX4_lay : MethodName := ⟨RX4, "lay", "(III)V"⟩
abbrev cX4_put : ByteArray := prog_6_method_47_code
def yX4_put : MethodName := ⟨RX4, "put", "(III)I"⟩
abbrev cX4_take : ByteArray := prog_6_method_48_code
def yX4_take : MethodName := ⟨RX4, "take", "(I)I"⟩
abbrev cX4_nextWord : ByteArray := prog_6_method_49_code
def yX4_nextWord : MethodName := ⟨RX4, "nextWord", "()I"⟩
abbrev cX4_laneOf : ByteArray := prog_6_method_50_code
def yX4_laneOf : MethodName := ⟨RX4, "laneOf", "(I)I"⟩
abbrev cX4_laysIn : ByteArray := prog_6_method_51_code
def yX4_laysIn : MethodName := ⟨RX4, "laysIn", "(II)Z"⟩
abbrev cX4_putAll : ByteArray := prog_6_method_52_code
def yX4_putAll : MethodName := ⟨RX4, "putAll", "()I"⟩
abbrev cX4_undo : ByteArray := prog_6_method_53_code
def yX4_undo : MethodName := ⟨RX4, "undo", "()I"⟩
abbrev cX4_meetingPairs : ByteArray := prog_6_method_54_code
def yX4_meetingPairs : MethodName := ⟨RX4, "meetingPairs", "()I"⟩
abbrev cX4_count : ByteArray := prog_6_method_55_code
def yX4_count : MethodName := ⟨RX4, "count", "(I)I"⟩
abbrev cX4_lastOn : ByteArray := prog_6_method_56_code
def yX4_lastOn : MethodName := ⟨RX4, "lastOn", "(I)I"⟩
abbrev cX4_word : ByteArray := prog_6_method_57_code
def yX4_word : MethodName := ⟨RX4, "word", "(II)I"⟩
abbrev cX4_letter : ByteArray := prog_6_method_58_code
def yX4_letter : MethodName := ⟨RX4, "letter", "(II)I"⟩
abbrev cX4_shot : ByteArray := prog_6_method_59_code
def yX4_shot : MethodName := ⟨RX4, "shot", "(I)I"⟩
abbrev cX4_isFrame : ByteArray := prog_6_method_60_code
def yX4_isFrame : MethodName := ⟨RX4, "isFrame", "(I)Z"⟩
abbrev cX4_where : ByteArray := prog_6_method_61_code
def yX4_where : MethodName := ⟨RX4, "where", "(III)I"⟩
abbrev cX4_wordIn : ByteArray := prog_6_method_62_code
def yX4_wordIn : MethodName := ⟨RX4, "wordIn", "(III)I"⟩
abbrev cX4_written : ByteArray := prog_6_method_63_code
def yX4_written : MethodName := ⟨RX4, "written", "(III)I"⟩
abbrev cX4_onScreen : ByteArray := prog_6_method_64_code
def yX4_onScreen : MethodName := ⟨RX4, "onScreen", "(I)I"⟩
abbrev cX4_meeting : ByteArray := prog_6_method_65_code
def yX4_meeting : MethodName := ⟨RX4, "meeting", "(II)I"⟩
abbrev cX4_pace : ByteArray := prog_6_method_66_code
def yX4_pace : MethodName := ⟨RX4, "pace", "(I)I"⟩
abbrev cX4_earliest : ByteArray := prog_6_method_67_code
def yX4_earliest : MethodName := ⟨RX4, "earliest", "(III)I"⟩
abbrev cX4_filled : ByteArray := prog_6_method_68_code
def yX4_filled : MethodName := ⟨RX4, "filled", "(I)I"⟩
def RJ13 : String := "java/lang/Long"
def TJ13 : u_T := fun k => match k with
  | _ => ("", "", "", false)
def tyJ13 : Nat → FieldType := fun k => match k with
  | _ => .int
abbrev wsJ130 : List Cond := u_ws RJ13 TJ13 0
theorem nmJ13 : ∀ a, a < 0 → ∀ b, b < 0 → a ≠ b → (TJ13 a).2.1 ≠ (TJ13 b).2.1 := by decide +kernel
theorem tyJ13_ok : ∀ k, k < 0 → parseFieldDescriptor (TJ13 k).2.2.1 = some (tyJ13 k) := by decide +kernel
abbrev cJ13_bitCount_95d88 : ByteArray := prog_7_method_50_code
def yJ13_bitCount_95d88 : MethodName := ⟨RJ13, "bitCount", "(J)I"⟩
def RJ9 : String := "java/lang/Math"
def TJ9 : u_T := fun k => match k with
  | _ => ("", "", "", false)
def tyJ9 : Nat → FieldType := fun k => match k with
  | _ => .int
abbrev wsJ90 : List Cond := u_ws RJ9 TJ9 0
theorem nmJ9 : ∀ a, a < 0 → ∀ b, b < 0 → a ≠ b → (TJ9 a).2.1 ≠ (TJ9 b).2.1 := by decide +kernel
theorem tyJ9_ok : ∀ k, k < 0 → parseFieldDescriptor (TJ9 k).2.2.1 = some (tyJ9 k) := by decide +kernel
abbrev cJ9_max_7cf53 : ByteArray := prog_8_method_65_code
def yJ9_max_7cf53 : MethodName := ⟨RJ9, "max", "(II)I"⟩
abbrev cJ9_min_7cf53 : ByteArray := prog_8_method_69_code
def yJ9_min_7cf53 : MethodName := ⟨RJ9, "min", "(II)I"⟩
def RJ0 : String := "java/lang/String"
def TJ0 : u_T := fun k => match k with
  | _ => ("", "", "", false)
def tyJ0 : Nat → FieldType := fun k => match k with
  | _ => .int
abbrev wsJ00 : List Cond := u_ws RJ0 TJ0 0
theorem nmJ0 : ∀ a, a < 0 → ∀ b, b < 0 → a ≠ b → (TJ0 a).2.1 ≠ (TJ0 b).2.1 := by decide +kernel
theorem tyJ0_ok : ∀ k, k < 0 → parseFieldDescriptor (TJ0 k).2.2.1 = some (tyJ0 k) := by decide +kernel
abbrev cJ0_length_8abf5 : ByteArray := prog_9_method_54_code
def yJ0_length_8abf5 : MethodName := ⟨RJ0, "length", "()I"⟩
abbrev cJ0_charAt_5068e : ByteArray := prog_9_method_56_code
def yJ0_charAt_5068e : MethodName := ⟨RJ0, "charAt", "(I)C"⟩
abbrev cJ0_coder_7d493 : ByteArray := prog_9_method_152_code
def yJ0_coder_7d493 : MethodName := ⟨RJ0, "coder", "()B"⟩
abbrev cJ0_isLatin1_aae02 : ByteArray := prog_9_method_154_code
def yJ0_isLatin1_aae02 : MethodName := ⟨RJ0, "isLatin1", "()Z"⟩
abbrev cJ0_checkIndex_df160 : ByteArray := prog_9_method_155_code
def yJ0_checkIndex_df160 : MethodName := ⟨RJ0, "checkIndex", "(II)V"⟩
def RJ1 : String := "java/lang/StringLatin1"
def TJ1 : u_T := fun k => match k with
  | _ => ("", "", "", false)
def tyJ1 : Nat → FieldType := fun k => match k with
  | _ => .int
abbrev wsJ10 : List Cond := u_ws RJ1 TJ1 0
theorem nmJ1 : ∀ a, a < 0 → ∀ b, b < 0 → a ≠ b → (TJ1 a).2.1 ≠ (TJ1 b).2.1 := by decide +kernel
theorem tyJ1_ok : ∀ k, k < 0 → parseFieldDescriptor (TJ1 k).2.2.1 = some (tyJ1 k) := by decide +kernel
abbrev cJ1_charAt_3b067 : ByteArray := prog_10_method_2_code
def yJ1_charAt_3b067 : MethodName := ⟨RJ1, "charAt", "([BI)C"⟩
def RJ2 : String := "java/lang/StringUTF16"
def TJ2 : u_T := fun k => match k with
  | _ => ("", "", "", false)
def tyJ2 : Nat → FieldType := fun k => match k with
  | _ => .int
abbrev wsJ20 : List Cond := u_ws RJ2 TJ2 0
theorem nmJ2 : ∀ a, a < 0 → ∀ b, b < 0 → a ≠ b → (TJ2 a).2.1 ≠ (TJ2 b).2.1 := by decide +kernel
theorem tyJ2_ok : ∀ k, k < 0 → parseFieldDescriptor (TJ2 k).2.2.1 = some (tyJ2 k) := by decide +kernel
abbrev cJ2_getChar_3b067 : ByteArray := prog_11_method_5_code
def yJ2_getChar_3b067 : MethodName := ⟨RJ2, "getChar", "([BI)C"⟩
abbrev cJ2_length_9d52b : ByteArray := prog_11_method_6_code
def yJ2_length_9d52b : MethodName := ⟨RJ2, "length", "([B)I"⟩
abbrev cJ2_charAt_3b067 : ByteArray := prog_11_method_83_code
def yJ2_charAt_3b067 : MethodName := ⟨RJ2, "charAt", "([BI)C"⟩
abbrev cJ2_checkIndex_2214a : ByteArray := prog_11_method_91_code
def yJ2_checkIndex_2214a : MethodName := ⟨RJ2, "checkIndex", "(I[B)V"⟩
def RJ10 : String := "java/lang/System"
def TJ10 : u_T := fun k => match k with
  | _ => ("", "", "", false)
def tyJ10 : Nat → FieldType := fun k => match k with
  | _ => .int
abbrev wsJ100 : List Cond := u_ws RJ10 TJ10 0
theorem nmJ10 : ∀ a, a < 0 → ∀ b, b < 0 → a ≠ b → (TJ10 a).2.1 ≠ (TJ10 b).2.1 := by decide +kernel
theorem tyJ10_ok : ∀ k, k < 0 → parseFieldDescriptor (TJ10 k).2.2.1 = some (tyJ10 k) := by decide +kernel
def RJ3 : String := "jdk/internal/util/Preconditions"
def TJ3 : u_T := fun k => match k with
  | _ => ("", "", "", false)
def tyJ3 : Nat → FieldType := fun k => match k with
  | _ => .int
abbrev wsJ30 : List Cond := u_ws RJ3 TJ3 0
theorem nmJ3 : ∀ a, a < 0 → ∀ b, b < 0 → a ≠ b → (TJ3 a).2.1 ≠ (TJ3 b).2.1 := by decide +kernel
theorem tyJ3_ok : ∀ k, k < 0 → parseFieldDescriptor (TJ3 k).2.2.1 = some (tyJ3 k) := by decide +kernel
abbrev cJ3_checkIndex_8e157 : ByteArray := prog_13_method_11_code
def yJ3_checkIndex_8e157 : MethodName := ⟨RJ3, "checkIndex", "(IILjava/util/function/BiFunction;)I"⟩
def RL : String := "VoiceWordsLaw"
abbrev cL_law : ByteArray := code
def yL_law : MethodName := ⟨RL, "law", "([I)Z"⟩
def wsX2_init : List Cond := .code yX2_init cX2_init 1 none :: ([.methodLink RX2 3 objectInit, .instanceMethod objectInit, .code objectInit ⟨#[0xb1]⟩ 1 none, .arrayClass .int, .fieldLink RX2 9 "VoiceWords$Word" "letters" "[I"] ++ wsX20)
def wsX0_init : List Cond := .code yX0_init cX0_init 2 none :: ([.methodLink RX0 3 objectInit, .instanceMethod objectInit, .code objectInit ⟨#[0xb1]⟩ 1 none, .classLink RX0 9 RX2, .fieldLink RX0 11 "VoiceWords$Scene" "words" "[LVoiceWords$Word;", .arrayClass .int, .fieldLink RX0 17 "VoiceWords$Scene" "shots" "[I", .fieldLink RX0 21 "VoiceWords$Scene" "percent" "I", .instantiable RX2 9, .initialized RX2, .fieldLink RX0 26 "VoiceWords$Scene" "trial" "LVoiceWords$Word;", .fieldLink RX0 30 "VoiceWords$Scene" "order" "[I", .instanceMethod yX2_init, .code yX2_init cX2_init 1 none, .methodLink RX2 3 objectInit, .fieldLink RX2 9 "VoiceWords$Word" "letters" "[I"] ++ wsX00 ++ wsX20)
def wsX2_copyFrom : List Cond := .code yX2_copyFrom cX2_copyFrom 2 none :: ([.fieldLink RX2 9 "VoiceWords$Word" "letters" "[I", .methodLink RX2 15 arraycopyName, .native arraycopyName, .static arraycopyName, .initialized "java/lang/System", .fieldLink RX2 21 "VoiceWords$Word" "length" "I", .fieldLink RX2 25 "VoiceWords$Word" "frame" "I", .fieldLink RX2 28 "VoiceWords$Word" "spoken" "I", .fieldLink RX2 31 "VoiceWords$Word" "held" "I", .fieldLink RX2 34 "VoiceWords$Word" "way" "I", .fieldLink RX2 37 "VoiceWords$Word" "isPut" "Z", .fieldLink RX2 41 "VoiceWords$Word" "lane" "I", .fieldLink RX2 44 "VoiceWords$Word" "column" "I"] ++ wsX20)
def wsX0_copyFrom : List Cond := .code yX0_copyFrom cX0_copyFrom 3 none :: ([.fieldLink RX0 33 "VoiceWords$Scene" "wordCount" "I", .fieldLink RX0 11 "VoiceWords$Scene" "words" "[LVoiceWords$Word;", .fieldLink RX0 17 "VoiceWords$Scene" "shots" "[I", .methodLink RX0 40 arraycopyName, .native arraycopyName, .static arraycopyName, .initialized "java/lang/System", .fieldLink RX0 46 "VoiceWords$Scene" "shotCount" "I", .fieldLink RX0 21 "VoiceWords$Scene" "percent" "I", .methodLink RX0 36 yX2_copyFrom, .instanceMethod yX2_copyFrom, .selects RX2 yX2_copyFrom yX2_copyFrom, .initialized RX2, .code yX2_copyFrom cX2_copyFrom 2 none, .fieldLink RX2 9 "VoiceWords$Word" "letters" "[I", .methodLink RX2 15 arraycopyName, .fieldLink RX2 21 "VoiceWords$Word" "length" "I", .fieldLink RX2 25 "VoiceWords$Word" "frame" "I", .fieldLink RX2 28 "VoiceWords$Word" "spoken" "I", .fieldLink RX2 31 "VoiceWords$Word" "held" "I", .fieldLink RX2 34 "VoiceWords$Word" "way" "I", .fieldLink RX2 37 "VoiceWords$Word" "isPut" "Z", .fieldLink RX2 41 "VoiceWords$Word" "lane" "I", .fieldLink RX2 44 "VoiceWords$Word" "column" "I"] ++ wsX00 ++ wsX20)
def wsX0_hasWord : List Cond := .code yX0_hasWord cX0_hasWord 2 (some .boolean) :: ([.fieldLink RX0 33 "VoiceWords$Scene" "wordCount" "I"] ++ wsX00)
def wsX0_hasRoomForWord : List Cond := .code yX0_hasRoomForWord cX0_hasRoomForWord 1 (some .boolean) :: ([.fieldLink RX0 33 "VoiceWords$Scene" "wordCount" "I"] ++ wsX00)
def wsX0_hasRoomForShot : List Cond := .code yX0_hasRoomForShot cX0_hasRoomForShot 1 (some .boolean) :: ([.fieldLink RX0 46 "VoiceWords$Scene" "shotCount" "I"] ++ wsX00)
def wsX0_appendWord : List Cond := .code yX0_appendWord cX0_appendWord 8 (some (.object "VoiceWords$Word")) :: ([.fieldLink RX0 11 "VoiceWords$Scene" "words" "[LVoiceWords$Word;", .fieldLink RX0 33 "VoiceWords$Scene" "wordCount" "I", .fieldLink RX0 49 "VoiceWords$Word" "letters" "[I", .fieldLink RX0 52 "VoiceWords$Word" "length" "I", .fieldLink RX0 55 "VoiceWords$Word" "frame" "I", .fieldLink RX0 58 "VoiceWords$Word" "spoken" "I", .fieldLink RX0 61 "VoiceWords$Word" "held" "I", .fieldLink RX0 64 "VoiceWords$Word" "way" "I", .fieldLink RX0 67 "VoiceWords$Word" "isPut" "Z"] ++ wsX00 ++ wsX20)
def wsX0_deleteWord : List Cond := .code yX0_deleteWord cX0_deleteWord 4 none :: ([.fieldLink RX0 11 "VoiceWords$Scene" "words" "[LVoiceWords$Word;", .fieldLink RX0 33 "VoiceWords$Scene" "wordCount" "I"] ++ wsX00)
def wsX0_hasShotIn : List Cond := .code yX0_hasShotIn cX0_hasShotIn 3 (some .boolean) :: ([.fieldLink RX0 46 "VoiceWords$Scene" "shotCount" "I", .fieldLink RX0 17 "VoiceWords$Scene" "shots" "[I"] ++ wsX00)
def wsX0_insertShot : List Cond := .code yX0_insertShot cX0_insertShot 3 none :: ([.fieldLink RX0 46 "VoiceWords$Scene" "shotCount" "I", .fieldLink RX0 17 "VoiceWords$Scene" "shots" "[I"] ++ wsX00)
def wsX0_deleteShot : List Cond := .code yX0_deleteShot cX0_deleteShot 4 none :: ([.fieldLink RX0 46 "VoiceWords$Scene" "shotCount" "I", .fieldLink RX0 17 "VoiceWords$Scene" "shots" "[I"] ++ wsX00)
def wsX0_countPut : List Cond := .code yX0_countPut cX0_countPut 3 (some .int) :: ([.fieldLink RX0 33 "VoiceWords$Scene" "wordCount" "I", .fieldLink RX0 11 "VoiceWords$Scene" "words" "[LVoiceWords$Word;", .fieldLink RX0 67 "VoiceWords$Word" "isPut" "Z"] ++ wsX00 ++ wsX20)
def wsX2_keepsLane : List Cond := .code yX2_keepsLane cX2_keepsLane 1 (some .boolean) :: ([.fieldLink RX2 34 "VoiceWords$Word" "way" "I"] ++ wsX20)
def wsX2_leavesIn : List Cond := .code yX2_leavesIn cX2_leavesIn 1 (some .int) :: ([.fieldLink RX2 25 "VoiceWords$Word" "frame" "I", .fieldLink RX2 28 "VoiceWords$Word" "spoken" "I", .fieldLink RX2 31 "VoiceWords$Word" "held" "I"] ++ wsX20)
def wsX2_cellsToLeave : List Cond := .code yX2_cellsToLeave cX2_cellsToLeave 1 (some .int) :: ([.fieldLink RX2 34 "VoiceWords$Word" "way" "I", .fieldLink RX2 44 "VoiceWords$Word" "column" "I", .fieldLink RX2 21 "VoiceWords$Word" "length" "I", .fieldLink RX2 41 "VoiceWords$Word" "lane" "I"] ++ wsX20)
def wsX0_cellsMoved : List Cond := .code yX0_cellsMoved cX0_cellsMoved 3 (some .int) :: ([.fieldLink RX0 21 "VoiceWords$Scene" "percent" "I", .constantFloat RX0 75 (1120403456)] ++ wsX00)
def wsX0_stepsToLeave : List Cond := .code yX0_stepsToLeave cX0_stepsToLeave 4 (some .int) :: ([.methodLink RX0 103 yX2_cellsToLeave, .instanceMethod yX2_cellsToLeave, .selects RX2 yX2_cellsToLeave yX2_cellsToLeave, .initialized RX2, .code yX2_cellsToLeave cX2_cellsToLeave 1 (some .int), .fieldLink RX2 34 "VoiceWords$Word" "way" "I", .fieldLink RX2 44 "VoiceWords$Word" "column" "I", .fieldLink RX2 21 "VoiceWords$Word" "length" "I", .fieldLink RX2 41 "VoiceWords$Word" "lane" "I", .methodLink RX0 83 yX0_cellsMoved, .instanceMethod yX0_cellsMoved, .selects RX0 yX0_cellsMoved yX0_cellsMoved, .initialized RX0, .code yX0_cellsMoved cX0_cellsMoved 3 (some .int), .fieldLink RX0 21 "VoiceWords$Scene" "percent" "I", .constantFloat RX0 75 (1120403456)] ++ wsX20 ++ wsX00)
def wsX0_goneFrom_r1 : List Cond := [Cond.fieldLink RX0 64 "VoiceWords$Word" "way" "I", Cond.fieldLink RX0 46 "VoiceWords$Scene" "shotCount" "I", Cond.fieldLink RX0 17 "VoiceWords$Scene" "shots" "[I", Cond.fieldLink RX0 55 "VoiceWords$Word" "frame" "I", Cond.methodLink RX0 97 Lib.Math.min.name, Cond.static Lib.Math.min.name, Cond.initialized "java/lang/Math", Cond.code Lib.Math.min.name Lib.Math.min.code 2 (some .int), Cond.methodLink RX0 89 yX2_leavesIn, Cond.instanceMethod yX2_leavesIn, Cond.selects RX2 yX2_leavesIn yX2_leavesIn, Cond.initialized RX2, Cond.code yX2_leavesIn cX2_leavesIn 1 (some .int), Cond.fieldLink RX2 25 "VoiceWords$Word" "frame" "I", Cond.fieldLink RX2 28 "VoiceWords$Word" "spoken" "I", Cond.fieldLink RX2 31 "VoiceWords$Word" "held" "I", Cond.methodLink RX0 93 yX0_stepsToLeave, Cond.instanceMethod yX0_stepsToLeave, Cond.selects RX0 yX0_stepsToLeave yX0_stepsToLeave, Cond.initialized RX0, Cond.code yX0_stepsToLeave cX0_stepsToLeave 4 (some .int), Cond.methodLink RX0 103 yX2_cellsToLeave, Cond.instanceMethod yX2_cellsToLeave, Cond.selects RX2 yX2_cellsToLeave yX2_cellsToLeave]
def wsX0_goneFrom_r2 : List Cond := [Cond.code yX2_cellsToLeave cX2_cellsToLeave 1 (some .int), Cond.fieldLink RX2 34 "VoiceWords$Word" "way" "I", Cond.fieldLink RX2 44 "VoiceWords$Word" "column" "I", Cond.fieldLink RX2 21 "VoiceWords$Word" "length" "I", Cond.fieldLink RX2 41 "VoiceWords$Word" "lane" "I", Cond.methodLink RX0 83 yX0_cellsMoved, Cond.instanceMethod yX0_cellsMoved, Cond.selects RX0 yX0_cellsMoved yX0_cellsMoved, Cond.code yX0_cellsMoved cX0_cellsMoved 3 (some .int), Cond.fieldLink RX0 21 "VoiceWords$Scene" "percent" "I", Cond.constantFloat RX0 75 (1120403456)]
def wsX0_goneFrom : List Cond := .code yX0_goneFrom cX0_goneFrom 4 (some .int) :: ((wsX0_goneFrom_r1 ++ wsX0_goneFrom_r2) ++ wsX20 ++ wsX00)
def wsX2_stepsIn : List Cond := .code yX2_stepsIn cX2_stepsIn 2 (some .int) :: ([.fieldLink RX2 25 "VoiceWords$Word" "frame" "I", .fieldLink RX2 28 "VoiceWords$Word" "spoken" "I", .fieldLink RX2 31 "VoiceWords$Word" "held" "I"] ++ wsX20)
def wsX0_rowOf : List Cond := .code yX0_rowOf cX0_rowOf 3 (some .int) :: ([.fieldLink RX0 64 "VoiceWords$Word" "way" "I", .fieldLink RX0 76 "VoiceWords$Word" "lane" "I", .methodLink RX0 79 yX2_stepsIn, .instanceMethod yX2_stepsIn, .selects RX2 yX2_stepsIn yX2_stepsIn, .initialized RX2, .code yX2_stepsIn cX2_stepsIn 2 (some .int), .fieldLink RX2 25 "VoiceWords$Word" "frame" "I", .fieldLink RX2 28 "VoiceWords$Word" "spoken" "I", .fieldLink RX2 31 "VoiceWords$Word" "held" "I", .methodLink RX0 83 yX0_cellsMoved, .instanceMethod yX0_cellsMoved, .selects RX0 yX0_cellsMoved yX0_cellsMoved, .initialized RX0, .code yX0_cellsMoved cX0_cellsMoved 3 (some .int), .fieldLink RX0 21 "VoiceWords$Scene" "percent" "I", .constantFloat RX0 75 (1120403456)] ++ wsX20 ++ wsX00)
def wsX0_columnOf : List Cond := .code yX0_columnOf cX0_columnOf 3 (some .int) :: ([.fieldLink RX0 64 "VoiceWords$Word" "way" "I", .fieldLink RX0 86 "VoiceWords$Word" "column" "I", .methodLink RX0 79 yX2_stepsIn, .instanceMethod yX2_stepsIn, .selects RX2 yX2_stepsIn yX2_stepsIn, .initialized RX2, .code yX2_stepsIn cX2_stepsIn 2 (some .int), .fieldLink RX2 25 "VoiceWords$Word" "frame" "I", .fieldLink RX2 28 "VoiceWords$Word" "spoken" "I", .fieldLink RX2 31 "VoiceWords$Word" "held" "I", .methodLink RX0 83 yX0_cellsMoved, .instanceMethod yX0_cellsMoved, .selects RX0 yX0_cellsMoved yX0_cellsMoved, .initialized RX0, .code yX0_cellsMoved cX0_cellsMoved 3 (some .int), .fieldLink RX0 21 "VoiceWords$Scene" "percent" "I", .constantFloat RX0 75 (1120403456)] ++ wsX20 ++ wsX00)
def wsX0_shareCell_r1 : List Cond := [Cond.methodLink RX0 120 Lib.Math.max.name, Cond.static Lib.Math.max.name, Cond.initialized "java/lang/Math", Cond.code Lib.Math.max.name Lib.Math.max.code 2 (some .int), Cond.fieldLink RX0 52 "VoiceWords$Word" "length" "I", Cond.methodLink RX0 97 Lib.Math.min.name, Cond.static Lib.Math.min.name, Cond.code Lib.Math.min.name Lib.Math.min.code 2 (some .int), Cond.methodLink RX0 113 yX0_rowOf, Cond.instanceMethod yX0_rowOf, Cond.selects RX0 yX0_rowOf yX0_rowOf, Cond.initialized RX0, Cond.code yX0_rowOf cX0_rowOf 3 (some .int), Cond.fieldLink RX0 64 "VoiceWords$Word" "way" "I", Cond.fieldLink RX0 76 "VoiceWords$Word" "lane" "I", Cond.methodLink RX0 79 yX2_stepsIn, Cond.instanceMethod yX2_stepsIn, Cond.selects RX2 yX2_stepsIn yX2_stepsIn, Cond.initialized RX2, Cond.code yX2_stepsIn cX2_stepsIn 2 (some .int), Cond.fieldLink RX2 25 "VoiceWords$Word" "frame" "I", Cond.fieldLink RX2 28 "VoiceWords$Word" "spoken" "I", Cond.fieldLink RX2 31 "VoiceWords$Word" "held" "I", Cond.methodLink RX0 83 yX0_cellsMoved]
def wsX0_shareCell_r2 : List Cond := [Cond.instanceMethod yX0_cellsMoved, Cond.selects RX0 yX0_cellsMoved yX0_cellsMoved, Cond.code yX0_cellsMoved cX0_cellsMoved 3 (some .int), Cond.fieldLink RX0 21 "VoiceWords$Scene" "percent" "I", Cond.constantFloat RX0 75 (1120403456), Cond.methodLink RX0 117 yX0_columnOf, Cond.instanceMethod yX0_columnOf, Cond.selects RX0 yX0_columnOf yX0_columnOf, Cond.code yX0_columnOf cX0_columnOf 3 (some .int), Cond.fieldLink RX0 86 "VoiceWords$Word" "column" "I"]
def wsX0_shareCell : List Cond := .code yX0_shareCell cX0_shareCell 8 (some .boolean) :: ((wsX0_shareCell_r1 ++ wsX0_shareCell_r2) ++ wsX20 ++ wsX00)
def wsX0_firstMeeting_r1 : List Cond := [Cond.fieldLink RX0 67 "VoiceWords$Word" "isPut" "Z", Cond.fieldLink RX0 76 "VoiceWords$Word" "lane" "I", Cond.fieldLink RX0 55 "VoiceWords$Word" "frame" "I", Cond.methodLink RX0 120 Lib.Math.max.name, Cond.static Lib.Math.max.name, Cond.initialized "java/lang/Math", Cond.code Lib.Math.max.name Lib.Math.max.code 2 (some .int), Cond.methodLink RX0 97 Lib.Math.min.name, Cond.static Lib.Math.min.name, Cond.code Lib.Math.min.name Lib.Math.min.code 2 (some .int), Cond.methodLink RX0 124 yX2_keepsLane, Cond.instanceMethod yX2_keepsLane, Cond.selects RX2 yX2_keepsLane yX2_keepsLane, Cond.initialized RX2, Cond.code yX2_keepsLane cX2_keepsLane 1 (some .boolean), Cond.fieldLink RX2 34 "VoiceWords$Word" "way" "I", Cond.methodLink RX0 106 yX0_goneFrom, Cond.instanceMethod yX0_goneFrom, Cond.selects RX0 yX0_goneFrom yX0_goneFrom, Cond.initialized RX0, Cond.code yX0_goneFrom cX0_goneFrom 4 (some .int), Cond.fieldLink RX0 64 "VoiceWords$Word" "way" "I", Cond.fieldLink RX0 46 "VoiceWords$Scene" "shotCount" "I", Cond.fieldLink RX0 17 "VoiceWords$Scene" "shots" "[I"]
def wsX0_firstMeeting_r2 : List Cond := [Cond.methodLink RX0 89 yX2_leavesIn, Cond.instanceMethod yX2_leavesIn, Cond.selects RX2 yX2_leavesIn yX2_leavesIn, Cond.code yX2_leavesIn cX2_leavesIn 1 (some .int), Cond.fieldLink RX2 25 "VoiceWords$Word" "frame" "I", Cond.fieldLink RX2 28 "VoiceWords$Word" "spoken" "I", Cond.fieldLink RX2 31 "VoiceWords$Word" "held" "I", Cond.methodLink RX0 93 yX0_stepsToLeave, Cond.instanceMethod yX0_stepsToLeave, Cond.selects RX0 yX0_stepsToLeave yX0_stepsToLeave, Cond.code yX0_stepsToLeave cX0_stepsToLeave 4 (some .int), Cond.methodLink RX0 103 yX2_cellsToLeave, Cond.instanceMethod yX2_cellsToLeave, Cond.selects RX2 yX2_cellsToLeave yX2_cellsToLeave, Cond.code yX2_cellsToLeave cX2_cellsToLeave 1 (some .int), Cond.fieldLink RX2 44 "VoiceWords$Word" "column" "I", Cond.fieldLink RX2 21 "VoiceWords$Word" "length" "I", Cond.fieldLink RX2 41 "VoiceWords$Word" "lane" "I", Cond.methodLink RX0 83 yX0_cellsMoved, Cond.instanceMethod yX0_cellsMoved, Cond.selects RX0 yX0_cellsMoved yX0_cellsMoved, Cond.code yX0_cellsMoved cX0_cellsMoved 3 (some .int), Cond.fieldLink RX0 21 "VoiceWords$Scene" "percent" "I", Cond.constantFloat RX0 75 (1120403456)]
def wsX0_firstMeeting_r3 : List Cond := [Cond.methodLink RX0 128 yX0_shareCell, Cond.instanceMethod yX0_shareCell, Cond.selects RX0 yX0_shareCell yX0_shareCell, Cond.code yX0_shareCell cX0_shareCell 8 (some .boolean), Cond.fieldLink RX0 52 "VoiceWords$Word" "length" "I", Cond.methodLink RX0 113 yX0_rowOf, Cond.instanceMethod yX0_rowOf, Cond.selects RX0 yX0_rowOf yX0_rowOf, Cond.code yX0_rowOf cX0_rowOf 3 (some .int), Cond.methodLink RX0 79 yX2_stepsIn, Cond.instanceMethod yX2_stepsIn, Cond.selects RX2 yX2_stepsIn yX2_stepsIn, Cond.code yX2_stepsIn cX2_stepsIn 2 (some .int), Cond.methodLink RX0 117 yX0_columnOf, Cond.instanceMethod yX0_columnOf, Cond.selects RX0 yX0_columnOf yX0_columnOf, Cond.code yX0_columnOf cX0_columnOf 3 (some .int), Cond.fieldLink RX0 86 "VoiceWords$Word" "column" "I"]
def wsX0_firstMeeting : List Cond := .code yX0_firstMeeting cX0_firstMeeting 7 (some .int) :: ((wsX0_firstMeeting_r1 ++ (wsX0_firstMeeting_r2 ++ wsX0_firstMeeting_r3)) ++ wsX20 ++ wsX00)
def wsX0_countMeetingPairs_r1 : List Cond := [Cond.fieldLink RX0 33 "VoiceWords$Scene" "wordCount" "I", Cond.fieldLink RX0 11 "VoiceWords$Scene" "words" "[LVoiceWords$Word;", Cond.methodLink RX0 71 yX0_firstMeeting, Cond.instanceMethod yX0_firstMeeting, Cond.selects RX0 yX0_firstMeeting yX0_firstMeeting, Cond.initialized RX0, Cond.code yX0_firstMeeting cX0_firstMeeting 7 (some .int), Cond.fieldLink RX0 67 "VoiceWords$Word" "isPut" "Z", Cond.fieldLink RX0 76 "VoiceWords$Word" "lane" "I", Cond.fieldLink RX0 55 "VoiceWords$Word" "frame" "I", Cond.methodLink RX0 120 Lib.Math.max.name, Cond.static Lib.Math.max.name, Cond.initialized "java/lang/Math", Cond.code Lib.Math.max.name Lib.Math.max.code 2 (some .int), Cond.methodLink RX0 97 Lib.Math.min.name, Cond.static Lib.Math.min.name, Cond.code Lib.Math.min.name Lib.Math.min.code 2 (some .int), Cond.methodLink RX0 124 yX2_keepsLane, Cond.instanceMethod yX2_keepsLane, Cond.selects RX2 yX2_keepsLane yX2_keepsLane, Cond.initialized RX2, Cond.code yX2_keepsLane cX2_keepsLane 1 (some .boolean), Cond.fieldLink RX2 34 "VoiceWords$Word" "way" "I", Cond.methodLink RX0 106 yX0_goneFrom]
def wsX0_countMeetingPairs_r2 : List Cond := [Cond.instanceMethod yX0_goneFrom, Cond.selects RX0 yX0_goneFrom yX0_goneFrom, Cond.code yX0_goneFrom cX0_goneFrom 4 (some .int), Cond.fieldLink RX0 64 "VoiceWords$Word" "way" "I", Cond.fieldLink RX0 46 "VoiceWords$Scene" "shotCount" "I", Cond.fieldLink RX0 17 "VoiceWords$Scene" "shots" "[I", Cond.methodLink RX0 89 yX2_leavesIn, Cond.instanceMethod yX2_leavesIn, Cond.selects RX2 yX2_leavesIn yX2_leavesIn, Cond.code yX2_leavesIn cX2_leavesIn 1 (some .int), Cond.fieldLink RX2 25 "VoiceWords$Word" "frame" "I", Cond.fieldLink RX2 28 "VoiceWords$Word" "spoken" "I", Cond.fieldLink RX2 31 "VoiceWords$Word" "held" "I", Cond.methodLink RX0 93 yX0_stepsToLeave, Cond.instanceMethod yX0_stepsToLeave, Cond.selects RX0 yX0_stepsToLeave yX0_stepsToLeave, Cond.code yX0_stepsToLeave cX0_stepsToLeave 4 (some .int), Cond.methodLink RX0 103 yX2_cellsToLeave, Cond.instanceMethod yX2_cellsToLeave, Cond.selects RX2 yX2_cellsToLeave yX2_cellsToLeave, Cond.code yX2_cellsToLeave cX2_cellsToLeave 1 (some .int), Cond.fieldLink RX2 44 "VoiceWords$Word" "column" "I", Cond.fieldLink RX2 21 "VoiceWords$Word" "length" "I", Cond.fieldLink RX2 41 "VoiceWords$Word" "lane" "I"]
def wsX0_countMeetingPairs_r3 : List Cond := [Cond.methodLink RX0 83 yX0_cellsMoved, Cond.instanceMethod yX0_cellsMoved, Cond.selects RX0 yX0_cellsMoved yX0_cellsMoved, Cond.code yX0_cellsMoved cX0_cellsMoved 3 (some .int), Cond.fieldLink RX0 21 "VoiceWords$Scene" "percent" "I", Cond.constantFloat RX0 75 (1120403456), Cond.methodLink RX0 128 yX0_shareCell, Cond.instanceMethod yX0_shareCell, Cond.selects RX0 yX0_shareCell yX0_shareCell, Cond.code yX0_shareCell cX0_shareCell 8 (some .boolean), Cond.fieldLink RX0 52 "VoiceWords$Word" "length" "I", Cond.methodLink RX0 113 yX0_rowOf, Cond.instanceMethod yX0_rowOf, Cond.selects RX0 yX0_rowOf yX0_rowOf, Cond.code yX0_rowOf cX0_rowOf 3 (some .int), Cond.methodLink RX0 79 yX2_stepsIn, Cond.instanceMethod yX2_stepsIn, Cond.selects RX2 yX2_stepsIn yX2_stepsIn, Cond.code yX2_stepsIn cX2_stepsIn 2 (some .int), Cond.methodLink RX0 117 yX0_columnOf, Cond.instanceMethod yX0_columnOf, Cond.selects RX0 yX0_columnOf yX0_columnOf, Cond.code yX0_columnOf cX0_columnOf 3 (some .int), Cond.fieldLink RX0 86 "VoiceWords$Word" "column" "I"]
def wsX0_countMeetingPairs : List Cond := .code yX0_countMeetingPairs cX0_countMeetingPairs 4 (some .int) :: ((wsX0_countMeetingPairs_r1 ++ (wsX0_countMeetingPairs_r2 ++ wsX0_countMeetingPairs_r3)) ++ wsX00 ++ wsX20)
def wsX0_isVisible_r1 : List Cond := [Cond.fieldLink RX0 67 "VoiceWords$Word" "isPut" "Z", Cond.fieldLink RX0 55 "VoiceWords$Word" "frame" "I", Cond.methodLink RX0 106 yX0_goneFrom, Cond.instanceMethod yX0_goneFrom, Cond.selects RX0 yX0_goneFrom yX0_goneFrom, Cond.initialized RX0, Cond.code yX0_goneFrom cX0_goneFrom 4 (some .int), Cond.fieldLink RX0 64 "VoiceWords$Word" "way" "I", Cond.fieldLink RX0 46 "VoiceWords$Scene" "shotCount" "I", Cond.fieldLink RX0 17 "VoiceWords$Scene" "shots" "[I", Cond.methodLink RX0 97 Lib.Math.min.name, Cond.static Lib.Math.min.name, Cond.initialized "java/lang/Math", Cond.code Lib.Math.min.name Lib.Math.min.code 2 (some .int), Cond.methodLink RX0 89 yX2_leavesIn, Cond.instanceMethod yX2_leavesIn, Cond.selects RX2 yX2_leavesIn yX2_leavesIn, Cond.initialized RX2, Cond.code yX2_leavesIn cX2_leavesIn 1 (some .int), Cond.fieldLink RX2 25 "VoiceWords$Word" "frame" "I", Cond.fieldLink RX2 28 "VoiceWords$Word" "spoken" "I", Cond.fieldLink RX2 31 "VoiceWords$Word" "held" "I", Cond.methodLink RX0 93 yX0_stepsToLeave, Cond.instanceMethod yX0_stepsToLeave]
def wsX0_isVisible_r2 : List Cond := [Cond.selects RX0 yX0_stepsToLeave yX0_stepsToLeave, Cond.code yX0_stepsToLeave cX0_stepsToLeave 4 (some .int), Cond.methodLink RX0 103 yX2_cellsToLeave, Cond.instanceMethod yX2_cellsToLeave, Cond.selects RX2 yX2_cellsToLeave yX2_cellsToLeave, Cond.code yX2_cellsToLeave cX2_cellsToLeave 1 (some .int), Cond.fieldLink RX2 34 "VoiceWords$Word" "way" "I", Cond.fieldLink RX2 44 "VoiceWords$Word" "column" "I", Cond.fieldLink RX2 21 "VoiceWords$Word" "length" "I", Cond.fieldLink RX2 41 "VoiceWords$Word" "lane" "I", Cond.methodLink RX0 83 yX0_cellsMoved, Cond.instanceMethod yX0_cellsMoved, Cond.selects RX0 yX0_cellsMoved yX0_cellsMoved, Cond.code yX0_cellsMoved cX0_cellsMoved 3 (some .int), Cond.fieldLink RX0 21 "VoiceWords$Scene" "percent" "I", Cond.constantFloat RX0 75 (1120403456)]
def wsX0_isVisible : List Cond := .code yX0_isVisible cX0_isVisible 3 (some .boolean) :: ((wsX0_isVisible_r1 ++ wsX0_isVisible_r2) ++ wsX20 ++ wsX00)
def wsX0_visibleSet_r1 : List Cond := [Cond.fieldLink RX0 33 "VoiceWords$Scene" "wordCount" "I", Cond.fieldLink RX0 11 "VoiceWords$Scene" "words" "[LVoiceWords$Word;", Cond.methodLink RX0 109 yX0_isVisible, Cond.instanceMethod yX0_isVisible, Cond.selects RX0 yX0_isVisible yX0_isVisible, Cond.initialized RX0, Cond.code yX0_isVisible cX0_isVisible 3 (some .boolean), Cond.fieldLink RX0 67 "VoiceWords$Word" "isPut" "Z", Cond.fieldLink RX0 55 "VoiceWords$Word" "frame" "I", Cond.methodLink RX0 106 yX0_goneFrom, Cond.instanceMethod yX0_goneFrom, Cond.selects RX0 yX0_goneFrom yX0_goneFrom, Cond.code yX0_goneFrom cX0_goneFrom 4 (some .int), Cond.fieldLink RX0 64 "VoiceWords$Word" "way" "I", Cond.fieldLink RX0 46 "VoiceWords$Scene" "shotCount" "I", Cond.fieldLink RX0 17 "VoiceWords$Scene" "shots" "[I", Cond.methodLink RX0 97 Lib.Math.min.name, Cond.static Lib.Math.min.name, Cond.initialized "java/lang/Math", Cond.code Lib.Math.min.name Lib.Math.min.code 2 (some .int), Cond.methodLink RX0 89 yX2_leavesIn, Cond.instanceMethod yX2_leavesIn, Cond.selects RX2 yX2_leavesIn yX2_leavesIn, Cond.initialized RX2]
def wsX0_visibleSet_r2 : List Cond := [Cond.code yX2_leavesIn cX2_leavesIn 1 (some .int), Cond.fieldLink RX2 25 "VoiceWords$Word" "frame" "I", Cond.fieldLink RX2 28 "VoiceWords$Word" "spoken" "I", Cond.fieldLink RX2 31 "VoiceWords$Word" "held" "I", Cond.methodLink RX0 93 yX0_stepsToLeave, Cond.instanceMethod yX0_stepsToLeave, Cond.selects RX0 yX0_stepsToLeave yX0_stepsToLeave, Cond.code yX0_stepsToLeave cX0_stepsToLeave 4 (some .int), Cond.methodLink RX0 103 yX2_cellsToLeave, Cond.instanceMethod yX2_cellsToLeave, Cond.selects RX2 yX2_cellsToLeave yX2_cellsToLeave, Cond.code yX2_cellsToLeave cX2_cellsToLeave 1 (some .int), Cond.fieldLink RX2 34 "VoiceWords$Word" "way" "I", Cond.fieldLink RX2 44 "VoiceWords$Word" "column" "I", Cond.fieldLink RX2 21 "VoiceWords$Word" "length" "I", Cond.fieldLink RX2 41 "VoiceWords$Word" "lane" "I", Cond.methodLink RX0 83 yX0_cellsMoved, Cond.instanceMethod yX0_cellsMoved, Cond.selects RX0 yX0_cellsMoved yX0_cellsMoved, Cond.code yX0_cellsMoved cX0_cellsMoved 3 (some .int), Cond.fieldLink RX0 21 "VoiceWords$Scene" "percent" "I", Cond.constantFloat RX0 75 (1120403456)]
def wsX0_visibleSet : List Cond := .code yX0_visibleSet cX0_visibleSet 4 (some .int) :: ((wsX0_visibleSet_r1 ++ wsX0_visibleSet_r2) ++ wsX00 ++ wsX20)
def wsX0_characterIn_r1 : List Cond := [Cond.fieldLink RX0 33 "VoiceWords$Scene" "wordCount" "I", Cond.fieldLink RX0 11 "VoiceWords$Scene" "words" "[LVoiceWords$Word;", Cond.fieldLink RX0 52 "VoiceWords$Word" "length" "I", Cond.fieldLink RX0 49 "VoiceWords$Word" "letters" "[I", Cond.methodLink RX0 109 yX0_isVisible, Cond.instanceMethod yX0_isVisible, Cond.selects RX0 yX0_isVisible yX0_isVisible, Cond.initialized RX0, Cond.code yX0_isVisible cX0_isVisible 3 (some .boolean), Cond.fieldLink RX0 67 "VoiceWords$Word" "isPut" "Z", Cond.fieldLink RX0 55 "VoiceWords$Word" "frame" "I", Cond.methodLink RX0 106 yX0_goneFrom, Cond.instanceMethod yX0_goneFrom, Cond.selects RX0 yX0_goneFrom yX0_goneFrom, Cond.code yX0_goneFrom cX0_goneFrom 4 (some .int), Cond.fieldLink RX0 64 "VoiceWords$Word" "way" "I", Cond.fieldLink RX0 46 "VoiceWords$Scene" "shotCount" "I", Cond.fieldLink RX0 17 "VoiceWords$Scene" "shots" "[I", Cond.methodLink RX0 97 Lib.Math.min.name, Cond.static Lib.Math.min.name, Cond.initialized "java/lang/Math", Cond.code Lib.Math.min.name Lib.Math.min.code 2 (some .int), Cond.methodLink RX0 89 yX2_leavesIn, Cond.instanceMethod yX2_leavesIn]
def wsX0_characterIn_r2 : List Cond := [Cond.selects RX2 yX2_leavesIn yX2_leavesIn, Cond.initialized RX2, Cond.code yX2_leavesIn cX2_leavesIn 1 (some .int), Cond.fieldLink RX2 25 "VoiceWords$Word" "frame" "I", Cond.fieldLink RX2 28 "VoiceWords$Word" "spoken" "I", Cond.fieldLink RX2 31 "VoiceWords$Word" "held" "I", Cond.methodLink RX0 93 yX0_stepsToLeave, Cond.instanceMethod yX0_stepsToLeave, Cond.selects RX0 yX0_stepsToLeave yX0_stepsToLeave, Cond.code yX0_stepsToLeave cX0_stepsToLeave 4 (some .int), Cond.methodLink RX0 103 yX2_cellsToLeave, Cond.instanceMethod yX2_cellsToLeave, Cond.selects RX2 yX2_cellsToLeave yX2_cellsToLeave, Cond.code yX2_cellsToLeave cX2_cellsToLeave 1 (some .int), Cond.fieldLink RX2 34 "VoiceWords$Word" "way" "I", Cond.fieldLink RX2 44 "VoiceWords$Word" "column" "I", Cond.fieldLink RX2 21 "VoiceWords$Word" "length" "I", Cond.fieldLink RX2 41 "VoiceWords$Word" "lane" "I", Cond.methodLink RX0 83 yX0_cellsMoved, Cond.instanceMethod yX0_cellsMoved, Cond.selects RX0 yX0_cellsMoved yX0_cellsMoved, Cond.code yX0_cellsMoved cX0_cellsMoved 3 (some .int), Cond.fieldLink RX0 21 "VoiceWords$Scene" "percent" "I", Cond.constantFloat RX0 75 (1120403456)]
def wsX0_characterIn_r3 : List Cond := [Cond.methodLink RX0 113 yX0_rowOf, Cond.instanceMethod yX0_rowOf, Cond.selects RX0 yX0_rowOf yX0_rowOf, Cond.code yX0_rowOf cX0_rowOf 3 (some .int), Cond.fieldLink RX0 76 "VoiceWords$Word" "lane" "I", Cond.methodLink RX0 79 yX2_stepsIn, Cond.instanceMethod yX2_stepsIn, Cond.selects RX2 yX2_stepsIn yX2_stepsIn, Cond.code yX2_stepsIn cX2_stepsIn 2 (some .int), Cond.methodLink RX0 117 yX0_columnOf, Cond.instanceMethod yX0_columnOf, Cond.selects RX0 yX0_columnOf yX0_columnOf, Cond.code yX0_columnOf cX0_columnOf 3 (some .int), Cond.fieldLink RX0 86 "VoiceWords$Word" "column" "I"]
def wsX0_characterIn : List Cond := .code yX0_characterIn cX0_characterIn 7 (some .int) :: ((wsX0_characterIn_r1 ++ (wsX0_characterIn_r2 ++ wsX0_characterIn_r3)) ++ wsX00 ++ wsX20)
def wsX0_cellsInRow_r1 : List Cond := [Cond.fieldLink RX0 33 "VoiceWords$Scene" "wordCount" "I", Cond.fieldLink RX0 11 "VoiceWords$Scene" "words" "[LVoiceWords$Word;", Cond.fieldLink RX0 52 "VoiceWords$Word" "length" "I", Cond.methodLink RX0 97 Lib.Math.min.name, Cond.static Lib.Math.min.name, Cond.initialized "java/lang/Math", Cond.code Lib.Math.min.name Lib.Math.min.code 2 (some .int), Cond.methodLink RX0 120 Lib.Math.max.name, Cond.static Lib.Math.max.name, Cond.code Lib.Math.max.name Lib.Math.max.code 2 (some .int), Cond.methodLink RX0 109 yX0_isVisible, Cond.instanceMethod yX0_isVisible, Cond.selects RX0 yX0_isVisible yX0_isVisible, Cond.initialized RX0, Cond.code yX0_isVisible cX0_isVisible 3 (some .boolean), Cond.fieldLink RX0 67 "VoiceWords$Word" "isPut" "Z", Cond.fieldLink RX0 55 "VoiceWords$Word" "frame" "I", Cond.methodLink RX0 106 yX0_goneFrom, Cond.instanceMethod yX0_goneFrom, Cond.selects RX0 yX0_goneFrom yX0_goneFrom, Cond.code yX0_goneFrom cX0_goneFrom 4 (some .int), Cond.fieldLink RX0 64 "VoiceWords$Word" "way" "I", Cond.fieldLink RX0 46 "VoiceWords$Scene" "shotCount" "I", Cond.fieldLink RX0 17 "VoiceWords$Scene" "shots" "[I"]
def wsX0_cellsInRow_r2 : List Cond := [Cond.methodLink RX0 89 yX2_leavesIn, Cond.instanceMethod yX2_leavesIn, Cond.selects RX2 yX2_leavesIn yX2_leavesIn, Cond.initialized RX2, Cond.code yX2_leavesIn cX2_leavesIn 1 (some .int), Cond.fieldLink RX2 25 "VoiceWords$Word" "frame" "I", Cond.fieldLink RX2 28 "VoiceWords$Word" "spoken" "I", Cond.fieldLink RX2 31 "VoiceWords$Word" "held" "I", Cond.methodLink RX0 93 yX0_stepsToLeave, Cond.instanceMethod yX0_stepsToLeave, Cond.selects RX0 yX0_stepsToLeave yX0_stepsToLeave, Cond.code yX0_stepsToLeave cX0_stepsToLeave 4 (some .int), Cond.methodLink RX0 103 yX2_cellsToLeave, Cond.instanceMethod yX2_cellsToLeave, Cond.selects RX2 yX2_cellsToLeave yX2_cellsToLeave, Cond.code yX2_cellsToLeave cX2_cellsToLeave 1 (some .int), Cond.fieldLink RX2 34 "VoiceWords$Word" "way" "I", Cond.fieldLink RX2 44 "VoiceWords$Word" "column" "I", Cond.fieldLink RX2 21 "VoiceWords$Word" "length" "I", Cond.fieldLink RX2 41 "VoiceWords$Word" "lane" "I", Cond.methodLink RX0 83 yX0_cellsMoved, Cond.instanceMethod yX0_cellsMoved, Cond.selects RX0 yX0_cellsMoved yX0_cellsMoved, Cond.code yX0_cellsMoved cX0_cellsMoved 3 (some .int)]
def wsX0_cellsInRow_r3 : List Cond := [Cond.fieldLink RX0 21 "VoiceWords$Scene" "percent" "I", Cond.constantFloat RX0 75 (1120403456), Cond.methodLink RX0 113 yX0_rowOf, Cond.instanceMethod yX0_rowOf, Cond.selects RX0 yX0_rowOf yX0_rowOf, Cond.code yX0_rowOf cX0_rowOf 3 (some .int), Cond.fieldLink RX0 76 "VoiceWords$Word" "lane" "I", Cond.methodLink RX0 79 yX2_stepsIn, Cond.instanceMethod yX2_stepsIn, Cond.selects RX2 yX2_stepsIn yX2_stepsIn, Cond.code yX2_stepsIn cX2_stepsIn 2 (some .int), Cond.methodLink RX0 117 yX0_columnOf, Cond.instanceMethod yX0_columnOf, Cond.selects RX0 yX0_columnOf yX0_columnOf, Cond.code yX0_columnOf cX0_columnOf 3 (some .int), Cond.fieldLink RX0 86 "VoiceWords$Word" "column" "I"]
def wsX0_cellsInRow : List Cond := .code yX0_cellsInRow cX0_cellsInRow 10 (some .long) :: ((wsX0_cellsInRow_r1 ++ (wsX0_cellsInRow_r2 ++ wsX0_cellsInRow_r3)) ++ wsX00 ++ wsX20)
def wsX0_readingPace : List Cond := .code yX0_readingPace cX0_readingPace 5 (some .int) :: ([.fieldLink RX0 33 "VoiceWords$Scene" "wordCount" "I", .fieldLink RX0 11 "VoiceWords$Scene" "words" "[LVoiceWords$Word;", .fieldLink RX0 58 "VoiceWords$Word" "spoken" "I", .fieldLink RX0 55 "VoiceWords$Word" "frame" "I", .fieldLink RX0 52 "VoiceWords$Word" "length" "I", .constantFloat RX0 123 (1103626240)] ++ wsX00 ++ wsX20)
def wsX2_putAt : List Cond := .code yX2_putAt cX2_putAt 3 none :: ([.fieldLink RX2 37 "VoiceWords$Word" "isPut" "Z", .fieldLink RX2 41 "VoiceWords$Word" "lane" "I", .fieldLink RX2 44 "VoiceWords$Word" "column" "I"] ++ wsX20)
def wsX0_isFree_r1 : List Cond := [Cond.fieldLink RX0 26 "VoiceWords$Scene" "trial" "LVoiceWords$Word;", Cond.fieldLink RX0 11 "VoiceWords$Scene" "words" "[LVoiceWords$Word;", Cond.fieldLink RX0 55 "VoiceWords$Word" "frame" "I", Cond.fieldLink RX0 33 "VoiceWords$Scene" "wordCount" "I", Cond.methodLink RX0 36 yX2_copyFrom, Cond.instanceMethod yX2_copyFrom, Cond.selects RX2 yX2_copyFrom yX2_copyFrom, Cond.initialized RX2, Cond.code yX2_copyFrom cX2_copyFrom 2 none, Cond.fieldLink RX2 9 "VoiceWords$Word" "letters" "[I", Cond.methodLink RX2 15 arraycopyName, Cond.native arraycopyName, Cond.static arraycopyName, Cond.initialized "java/lang/System", Cond.fieldLink RX2 21 "VoiceWords$Word" "length" "I", Cond.fieldLink RX2 25 "VoiceWords$Word" "frame" "I", Cond.fieldLink RX2 28 "VoiceWords$Word" "spoken" "I", Cond.fieldLink RX2 31 "VoiceWords$Word" "held" "I", Cond.fieldLink RX2 34 "VoiceWords$Word" "way" "I", Cond.fieldLink RX2 37 "VoiceWords$Word" "isPut" "Z", Cond.fieldLink RX2 41 "VoiceWords$Word" "lane" "I", Cond.fieldLink RX2 44 "VoiceWords$Word" "column" "I", Cond.methodLink RX0 132 yX2_putAt, Cond.instanceMethod yX2_putAt]
def wsX0_isFree_r2 : List Cond := [Cond.selects RX2 yX2_putAt yX2_putAt, Cond.code yX2_putAt cX2_putAt 3 none, Cond.methodLink RX0 71 yX0_firstMeeting, Cond.instanceMethod yX0_firstMeeting, Cond.selects RX0 yX0_firstMeeting yX0_firstMeeting, Cond.initialized RX0, Cond.code yX0_firstMeeting cX0_firstMeeting 7 (some .int), Cond.fieldLink RX0 67 "VoiceWords$Word" "isPut" "Z", Cond.fieldLink RX0 76 "VoiceWords$Word" "lane" "I", Cond.methodLink RX0 120 Lib.Math.max.name, Cond.static Lib.Math.max.name, Cond.initialized "java/lang/Math", Cond.code Lib.Math.max.name Lib.Math.max.code 2 (some .int), Cond.methodLink RX0 97 Lib.Math.min.name, Cond.static Lib.Math.min.name, Cond.code Lib.Math.min.name Lib.Math.min.code 2 (some .int), Cond.methodLink RX0 124 yX2_keepsLane, Cond.instanceMethod yX2_keepsLane, Cond.selects RX2 yX2_keepsLane yX2_keepsLane, Cond.code yX2_keepsLane cX2_keepsLane 1 (some .boolean), Cond.methodLink RX0 106 yX0_goneFrom, Cond.instanceMethod yX0_goneFrom, Cond.selects RX0 yX0_goneFrom yX0_goneFrom, Cond.code yX0_goneFrom cX0_goneFrom 4 (some .int)]
def wsX0_isFree_r3 : List Cond := [Cond.fieldLink RX0 64 "VoiceWords$Word" "way" "I", Cond.fieldLink RX0 46 "VoiceWords$Scene" "shotCount" "I", Cond.fieldLink RX0 17 "VoiceWords$Scene" "shots" "[I", Cond.methodLink RX0 89 yX2_leavesIn, Cond.instanceMethod yX2_leavesIn, Cond.selects RX2 yX2_leavesIn yX2_leavesIn, Cond.code yX2_leavesIn cX2_leavesIn 1 (some .int), Cond.methodLink RX0 93 yX0_stepsToLeave, Cond.instanceMethod yX0_stepsToLeave, Cond.selects RX0 yX0_stepsToLeave yX0_stepsToLeave, Cond.code yX0_stepsToLeave cX0_stepsToLeave 4 (some .int), Cond.methodLink RX0 103 yX2_cellsToLeave, Cond.instanceMethod yX2_cellsToLeave, Cond.selects RX2 yX2_cellsToLeave yX2_cellsToLeave, Cond.code yX2_cellsToLeave cX2_cellsToLeave 1 (some .int), Cond.methodLink RX0 83 yX0_cellsMoved, Cond.instanceMethod yX0_cellsMoved, Cond.selects RX0 yX0_cellsMoved yX0_cellsMoved, Cond.code yX0_cellsMoved cX0_cellsMoved 3 (some .int), Cond.fieldLink RX0 21 "VoiceWords$Scene" "percent" "I", Cond.constantFloat RX0 75 (1120403456), Cond.methodLink RX0 128 yX0_shareCell, Cond.instanceMethod yX0_shareCell, Cond.selects RX0 yX0_shareCell yX0_shareCell]
def wsX0_isFree_r4 : List Cond := [Cond.code yX0_shareCell cX0_shareCell 8 (some .boolean), Cond.fieldLink RX0 52 "VoiceWords$Word" "length" "I", Cond.methodLink RX0 113 yX0_rowOf, Cond.instanceMethod yX0_rowOf, Cond.selects RX0 yX0_rowOf yX0_rowOf, Cond.code yX0_rowOf cX0_rowOf 3 (some .int), Cond.methodLink RX0 79 yX2_stepsIn, Cond.instanceMethod yX2_stepsIn, Cond.selects RX2 yX2_stepsIn yX2_stepsIn, Cond.code yX2_stepsIn cX2_stepsIn 2 (some .int), Cond.methodLink RX0 117 yX0_columnOf, Cond.instanceMethod yX0_columnOf, Cond.selects RX0 yX0_columnOf yX0_columnOf, Cond.code yX0_columnOf cX0_columnOf 3 (some .int), Cond.fieldLink RX0 86 "VoiceWords$Word" "column" "I"]
def wsX0_isFree : List Cond := .code yX0_isFree cX0_isFree 6 (some .boolean) :: ((wsX0_isFree_r1 ++ (wsX0_isFree_r2 ++ (wsX0_isFree_r3 ++ wsX0_isFree_r4))) ++ wsX00 ++ wsX20)
def wsX0_takeAllWords : List Cond := .code yX0_takeAllWords cX0_takeAllWords 2 none :: ([.fieldLink RX0 33 "VoiceWords$Scene" "wordCount" "I", .fieldLink RX0 11 "VoiceWords$Scene" "words" "[LVoiceWords$Word;", .fieldLink RX0 67 "VoiceWords$Word" "isPut" "Z"] ++ wsX00 ++ wsX20)
def wsX0_comesBefore : List Cond := .code yX0_comesBefore cX0_comesBefore 2 (some .boolean) :: ([.fieldLink RX0 55 "VoiceWords$Word" "frame" "I", .fieldLink RX0 52 "VoiceWords$Word" "length" "I"] ++ wsX20)
def wsX0_sortForPutting : List Cond := .code yX0_sortForPutting cX0_sortForPutting 3 none :: ([.fieldLink RX0 33 "VoiceWords$Scene" "wordCount" "I", .fieldLink RX0 11 "VoiceWords$Scene" "words" "[LVoiceWords$Word;", .fieldLink RX0 30 "VoiceWords$Scene" "order" "[I", .methodLink RX0 136 yX0_comesBefore, .static yX0_comesBefore, .initialized RX0, .code yX0_comesBefore cX0_comesBefore 2 (some .boolean), .fieldLink RX0 55 "VoiceWords$Word" "frame" "I", .fieldLink RX0 52 "VoiceWords$Word" "length" "I"] ++ wsX00 ++ wsX20)
def wsX2_lastColumn : List Cond := .code yX2_lastColumn cX2_lastColumn 1 (some .int) :: ([.fieldLink RX2 21 "VoiceWords$Word" "length" "I"] ++ wsX20)
def wsX0_putAtFirstPlace_r1 : List Cond := [Cond.fieldLink RX0 11 "VoiceWords$Scene" "words" "[LVoiceWords$Word;", Cond.fieldLink RX0 55 "VoiceWords$Word" "frame" "I", Cond.methodLink RX0 140 yX2_lastColumn, Cond.instanceMethod yX2_lastColumn, Cond.selects RX2 yX2_lastColumn yX2_lastColumn, Cond.initialized RX2, Cond.code yX2_lastColumn cX2_lastColumn 1 (some .int), Cond.fieldLink RX2 21 "VoiceWords$Word" "length" "I", Cond.methodLink RX0 146 yX0_isFree, Cond.instanceMethod yX0_isFree, Cond.selects RX0 yX0_isFree yX0_isFree, Cond.initialized RX0, Cond.code yX0_isFree cX0_isFree 6 (some .boolean), Cond.fieldLink RX0 26 "VoiceWords$Scene" "trial" "LVoiceWords$Word;", Cond.fieldLink RX0 33 "VoiceWords$Scene" "wordCount" "I", Cond.methodLink RX0 36 yX2_copyFrom, Cond.instanceMethod yX2_copyFrom, Cond.selects RX2 yX2_copyFrom yX2_copyFrom, Cond.code yX2_copyFrom cX2_copyFrom 2 none, Cond.fieldLink RX2 9 "VoiceWords$Word" "letters" "[I", Cond.methodLink RX2 15 arraycopyName, Cond.native arraycopyName, Cond.static arraycopyName, Cond.initialized "java/lang/System"]
def wsX0_putAtFirstPlace_r2 : List Cond := [Cond.fieldLink RX2 25 "VoiceWords$Word" "frame" "I", Cond.fieldLink RX2 28 "VoiceWords$Word" "spoken" "I", Cond.fieldLink RX2 31 "VoiceWords$Word" "held" "I", Cond.fieldLink RX2 34 "VoiceWords$Word" "way" "I", Cond.fieldLink RX2 37 "VoiceWords$Word" "isPut" "Z", Cond.fieldLink RX2 41 "VoiceWords$Word" "lane" "I", Cond.fieldLink RX2 44 "VoiceWords$Word" "column" "I", Cond.methodLink RX0 132 yX2_putAt, Cond.instanceMethod yX2_putAt, Cond.selects RX2 yX2_putAt yX2_putAt, Cond.code yX2_putAt cX2_putAt 3 none, Cond.methodLink RX0 71 yX0_firstMeeting, Cond.instanceMethod yX0_firstMeeting, Cond.selects RX0 yX0_firstMeeting yX0_firstMeeting, Cond.code yX0_firstMeeting cX0_firstMeeting 7 (some .int), Cond.fieldLink RX0 67 "VoiceWords$Word" "isPut" "Z", Cond.fieldLink RX0 76 "VoiceWords$Word" "lane" "I", Cond.methodLink RX0 120 Lib.Math.max.name, Cond.static Lib.Math.max.name, Cond.initialized "java/lang/Math", Cond.code Lib.Math.max.name Lib.Math.max.code 2 (some .int), Cond.methodLink RX0 97 Lib.Math.min.name, Cond.static Lib.Math.min.name, Cond.code Lib.Math.min.name Lib.Math.min.code 2 (some .int)]
def wsX0_putAtFirstPlace_r3 : List Cond := [Cond.methodLink RX0 124 yX2_keepsLane, Cond.instanceMethod yX2_keepsLane, Cond.selects RX2 yX2_keepsLane yX2_keepsLane, Cond.code yX2_keepsLane cX2_keepsLane 1 (some .boolean), Cond.methodLink RX0 106 yX0_goneFrom, Cond.instanceMethod yX0_goneFrom, Cond.selects RX0 yX0_goneFrom yX0_goneFrom, Cond.code yX0_goneFrom cX0_goneFrom 4 (some .int), Cond.fieldLink RX0 64 "VoiceWords$Word" "way" "I", Cond.fieldLink RX0 46 "VoiceWords$Scene" "shotCount" "I", Cond.fieldLink RX0 17 "VoiceWords$Scene" "shots" "[I", Cond.methodLink RX0 89 yX2_leavesIn, Cond.instanceMethod yX2_leavesIn, Cond.selects RX2 yX2_leavesIn yX2_leavesIn, Cond.code yX2_leavesIn cX2_leavesIn 1 (some .int), Cond.methodLink RX0 93 yX0_stepsToLeave, Cond.instanceMethod yX0_stepsToLeave, Cond.selects RX0 yX0_stepsToLeave yX0_stepsToLeave, Cond.code yX0_stepsToLeave cX0_stepsToLeave 4 (some .int), Cond.methodLink RX0 103 yX2_cellsToLeave, Cond.instanceMethod yX2_cellsToLeave, Cond.selects RX2 yX2_cellsToLeave yX2_cellsToLeave, Cond.code yX2_cellsToLeave cX2_cellsToLeave 1 (some .int), Cond.methodLink RX0 83 yX0_cellsMoved]
def wsX0_putAtFirstPlace_r4 : List Cond := [Cond.instanceMethod yX0_cellsMoved, Cond.selects RX0 yX0_cellsMoved yX0_cellsMoved, Cond.code yX0_cellsMoved cX0_cellsMoved 3 (some .int), Cond.fieldLink RX0 21 "VoiceWords$Scene" "percent" "I", Cond.constantFloat RX0 75 (1120403456), Cond.methodLink RX0 128 yX0_shareCell, Cond.instanceMethod yX0_shareCell, Cond.selects RX0 yX0_shareCell yX0_shareCell, Cond.code yX0_shareCell cX0_shareCell 8 (some .boolean), Cond.fieldLink RX0 52 "VoiceWords$Word" "length" "I", Cond.methodLink RX0 113 yX0_rowOf, Cond.instanceMethod yX0_rowOf, Cond.selects RX0 yX0_rowOf yX0_rowOf, Cond.code yX0_rowOf cX0_rowOf 3 (some .int), Cond.methodLink RX0 79 yX2_stepsIn, Cond.instanceMethod yX2_stepsIn, Cond.selects RX2 yX2_stepsIn yX2_stepsIn, Cond.code yX2_stepsIn cX2_stepsIn 2 (some .int), Cond.methodLink RX0 117 yX0_columnOf, Cond.instanceMethod yX0_columnOf, Cond.selects RX0 yX0_columnOf yX0_columnOf, Cond.code yX0_columnOf cX0_columnOf 3 (some .int), Cond.fieldLink RX0 86 "VoiceWords$Word" "column" "I"]
def wsX0_putAtFirstPlace : List Cond := .code yX0_putAtFirstPlace cX0_putAtFirstPlace 8 none :: ((wsX0_putAtFirstPlace_r1 ++ (wsX0_putAtFirstPlace_r2 ++ (wsX0_putAtFirstPlace_r3 ++ wsX0_putAtFirstPlace_r4))) ++ wsX00 ++ wsX20)
def wsX1_init : List Cond := .code yX1_init cX1_init 1 none :: ([.methodLink RX1 3 objectInit, .instanceMethod objectInit, .code objectInit ⟨#[0xb1]⟩ 1 none, .arrayClass .int, .fieldLink RX1 9 "VoiceWords$Text" "characters" "[I"] ++ wsX10)
def wsX1_kindAt : List Cond := .code yX1_kindAt cX1_kindAt 3 (some .int) :: ([.fieldLink RX1 93 "VoiceWords$Text" "length" "I", .fieldLink RX1 9 "VoiceWords$Text" "characters" "[I"] ++ wsX10)
def wsX1_step : List Cond := .code yX1_step cX1_step 1 none :: ([.fieldLink RX1 15 "VoiceWords$Text" "end" "I", .fieldLink RX1 29 "VoiceWords$Text" "start" "I", .fieldLink RX1 93 "VoiceWords$Text" "length" "I", .fieldLink RX1 9 "VoiceWords$Text" "characters" "[I", .fieldLink RX1 22 "VoiceWords$Text" "kind" "I", .methodLink RX1 96 yX1_kindAt, .instanceMethod yX1_kindAt, .selects RX1 yX1_kindAt yX1_kindAt, .initialized RX1, .code yX1_kindAt cX1_kindAt 3 (some .int)] ++ wsX10)
def wsJ0_coder_7d493 : List Cond := .code yJ0_coder_7d493 cJ0_coder_7d493 1 (some .byte) :: ([.fieldLink RJ0 38 "java/lang/String" "COMPACT_STRINGS" "Z", .fieldLink RJ0 15 "java/lang/String" "coder" "B"])
def wsJ0_length_8abf5 : List Cond := .code yJ0_length_8abf5 cJ0_length_8abf5 1 (some .int) :: ([.fieldLink RJ0 9 "java/lang/String" "value" "[B", .methodLink RJ0 335 yJ0_coder_7d493, .instanceMethod yJ0_coder_7d493, .selects RJ0 yJ0_coder_7d493 yJ0_coder_7d493, .initialized RJ0, .code yJ0_coder_7d493 cJ0_coder_7d493 1 (some .byte), .fieldLink RJ0 38 "java/lang/String" "COMPACT_STRINGS" "Z", .fieldLink RJ0 15 "java/lang/String" "coder" "B"])
def wsJ0_isLatin1_aae02 : List Cond := .code yJ0_isLatin1_aae02 cJ0_isLatin1_aae02 1 (some .boolean) :: ([.fieldLink RJ0 38 "java/lang/String" "COMPACT_STRINGS" "Z", .fieldLink RJ0 15 "java/lang/String" "coder" "B"])
def wsJ3_checkIndex_8e157 : List Cond := .code yJ3_checkIndex_8e157 cJ3_checkIndex_8e157 3 (some .int) :: ([])
def wsJ0_checkIndex_df160 : List Cond := .code yJ0_checkIndex_df160 cJ0_checkIndex_df160 2 none :: ([.fieldLink RJ0 1053 "jdk/internal/util/Preconditions" "SIOOBE_FORMATTER" "Ljava/util/function/BiFunction;", .methodLink RJ0 1059 yJ3_checkIndex_8e157, .static yJ3_checkIndex_8e157, .initialized RJ3, .code yJ3_checkIndex_8e157 cJ3_checkIndex_8e157 3 (some .int)])
def wsJ1_charAt_3b067 : List Cond := .code yJ1_charAt_3b067 cJ1_charAt_3b067 2 (some .char) :: ([.methodLink RJ1 9 yJ0_checkIndex_df160, .static yJ0_checkIndex_df160, .initialized RJ0, .code yJ0_checkIndex_df160 cJ0_checkIndex_df160 2 none, .fieldLink RJ0 1053 "jdk/internal/util/Preconditions" "SIOOBE_FORMATTER" "Ljava/util/function/BiFunction;", .methodLink RJ0 1059 yJ3_checkIndex_8e157, .static yJ3_checkIndex_8e157, .initialized RJ3, .code yJ3_checkIndex_8e157 cJ3_checkIndex_8e157 3 (some .int)])
def wsJ2_length_9d52b : List Cond := .code yJ2_length_9d52b cJ2_length_9d52b 1 (some .int) :: ([])
def wsJ2_checkIndex_2214a : List Cond := .code yJ2_checkIndex_2214a cJ2_checkIndex_2214a 2 none :: ([.methodLink RJ2 48 yJ2_length_9d52b, .static yJ2_length_9d52b, .initialized RJ2, .code yJ2_length_9d52b cJ2_length_9d52b 1 (some .int), .methodLink RJ2 414 yJ0_checkIndex_df160, .static yJ0_checkIndex_df160, .initialized RJ0, .code yJ0_checkIndex_df160 cJ0_checkIndex_df160 2 none, .fieldLink RJ0 1053 "jdk/internal/util/Preconditions" "SIOOBE_FORMATTER" "Ljava/util/function/BiFunction;", .methodLink RJ0 1059 yJ3_checkIndex_8e157, .static yJ3_checkIndex_8e157, .initialized RJ3, .code yJ3_checkIndex_8e157 cJ3_checkIndex_8e157 3 (some .int)])
def wsJ2_getChar_3b067 : List Cond := .code yJ2_getChar_3b067 cJ2_getChar_3b067 2 (some .char) :: ([.fieldLink RJ2 44 "java/lang/StringUTF16" "$assertionsDisabled" "Z", .fieldLink RJ2 59 "java/lang/StringUTF16" "HI_BYTE_SHIFT" "I", .fieldLink RJ2 63 "java/lang/StringUTF16" "LO_BYTE_SHIFT" "I", .methodLink RJ2 48 yJ2_length_9d52b, .static yJ2_length_9d52b, .initialized RJ2, .code yJ2_length_9d52b cJ2_length_9d52b 1 (some .int)])
def wsJ2_charAt_3b067 : List Cond := .code yJ2_charAt_3b067 cJ2_charAt_3b067 2 (some .char) :: ([.methodLink RJ2 67 yJ2_checkIndex_2214a, .static yJ2_checkIndex_2214a, .initialized RJ2, .code yJ2_checkIndex_2214a cJ2_checkIndex_2214a 2 none, .methodLink RJ2 48 yJ2_length_9d52b, .static yJ2_length_9d52b, .code yJ2_length_9d52b cJ2_length_9d52b 1 (some .int), .methodLink RJ2 414 yJ0_checkIndex_df160, .static yJ0_checkIndex_df160, .initialized RJ0, .code yJ0_checkIndex_df160 cJ0_checkIndex_df160 2 none, .fieldLink RJ0 1053 "jdk/internal/util/Preconditions" "SIOOBE_FORMATTER" "Ljava/util/function/BiFunction;", .methodLink RJ0 1059 yJ3_checkIndex_8e157, .static yJ3_checkIndex_8e157, .initialized RJ3, .code yJ3_checkIndex_8e157 cJ3_checkIndex_8e157 3 (some .int), .methodLink RJ2 71 yJ2_getChar_3b067, .static yJ2_getChar_3b067, .code yJ2_getChar_3b067 cJ2_getChar_3b067 2 (some .char), .fieldLink RJ2 44 "java/lang/StringUTF16" "$assertionsDisabled" "Z", .fieldLink RJ2 59 "java/lang/StringUTF16" "HI_BYTE_SHIFT" "I", .fieldLink RJ2 63 "java/lang/StringUTF16" "LO_BYTE_SHIFT" "I"])
def wsJ0_charAt_5068e_r1 : List Cond := [Cond.fieldLink RJ0 9 "java/lang/String" "value" "[B", Cond.methodLink RJ0 492 yJ0_isLatin1_aae02, Cond.instanceMethod yJ0_isLatin1_aae02, Cond.selects RJ0 yJ0_isLatin1_aae02 yJ0_isLatin1_aae02, Cond.initialized RJ0, Cond.code yJ0_isLatin1_aae02 cJ0_isLatin1_aae02 1 (some .boolean), Cond.fieldLink RJ0 38 "java/lang/String" "COMPACT_STRINGS" "Z", Cond.fieldLink RJ0 15 "java/lang/String" "coder" "B", Cond.methodLink RJ0 495 yJ1_charAt_3b067, Cond.static yJ1_charAt_3b067, Cond.initialized RJ1, Cond.code yJ1_charAt_3b067 cJ1_charAt_3b067 2 (some .char), Cond.methodLink RJ1 9 yJ0_checkIndex_df160, Cond.static yJ0_checkIndex_df160, Cond.code yJ0_checkIndex_df160 cJ0_checkIndex_df160 2 none, Cond.fieldLink RJ0 1053 "jdk/internal/util/Preconditions" "SIOOBE_FORMATTER" "Ljava/util/function/BiFunction;", Cond.methodLink RJ0 1059 yJ3_checkIndex_8e157, Cond.static yJ3_checkIndex_8e157, Cond.initialized RJ3, Cond.code yJ3_checkIndex_8e157 cJ3_checkIndex_8e157 3 (some .int), Cond.methodLink RJ0 498 yJ2_charAt_3b067, Cond.static yJ2_charAt_3b067, Cond.initialized RJ2, Cond.code yJ2_charAt_3b067 cJ2_charAt_3b067 2 (some .char)]
def wsJ0_charAt_5068e_r2 : List Cond := [Cond.methodLink RJ2 67 yJ2_checkIndex_2214a, Cond.static yJ2_checkIndex_2214a, Cond.code yJ2_checkIndex_2214a cJ2_checkIndex_2214a 2 none, Cond.methodLink RJ2 48 yJ2_length_9d52b, Cond.static yJ2_length_9d52b, Cond.code yJ2_length_9d52b cJ2_length_9d52b 1 (some .int), Cond.methodLink RJ2 414 yJ0_checkIndex_df160, Cond.methodLink RJ2 71 yJ2_getChar_3b067, Cond.static yJ2_getChar_3b067, Cond.code yJ2_getChar_3b067 cJ2_getChar_3b067 2 (some .char), Cond.fieldLink RJ2 44 "java/lang/StringUTF16" "$assertionsDisabled" "Z", Cond.fieldLink RJ2 59 "java/lang/StringUTF16" "HI_BYTE_SHIFT" "I", Cond.fieldLink RJ2 63 "java/lang/StringUTF16" "LO_BYTE_SHIFT" "I"]
def wsJ0_charAt_5068e : List Cond := .code yJ0_charAt_5068e cJ0_charAt_5068e 2 (some .char) :: ((wsJ0_charAt_5068e_r1 ++ wsJ0_charAt_5068e_r2))
def wsX1_isName_r1 : List Cond := [Cond.fieldLink RX1 22 "VoiceWords$Text" "kind" "I", Cond.fieldLink RX1 15 "VoiceWords$Text" "end" "I", Cond.fieldLink RX1 29 "VoiceWords$Text" "start" "I", Cond.fieldLink RX1 9 "VoiceWords$Text" "characters" "[I", Cond.methodLink RX1 100 yJ0_length_8abf5, Cond.instanceMethod yJ0_length_8abf5, Cond.selects RJ0 yJ0_length_8abf5 yJ0_length_8abf5, Cond.initialized RJ0, Cond.code yJ0_length_8abf5 cJ0_length_8abf5 1 (some .int), Cond.fieldLink RJ0 9 "java/lang/String" "value" "[B", Cond.methodLink RJ0 335 yJ0_coder_7d493, Cond.instanceMethod yJ0_coder_7d493, Cond.selects RJ0 yJ0_coder_7d493 yJ0_coder_7d493, Cond.code yJ0_coder_7d493 cJ0_coder_7d493 1 (some .byte), Cond.fieldLink RJ0 38 "java/lang/String" "COMPACT_STRINGS" "Z", Cond.fieldLink RJ0 15 "java/lang/String" "coder" "B", Cond.methodLink RX1 104 yJ0_charAt_5068e, Cond.instanceMethod yJ0_charAt_5068e, Cond.selects RJ0 yJ0_charAt_5068e yJ0_charAt_5068e, Cond.code yJ0_charAt_5068e cJ0_charAt_5068e 2 (some .char), Cond.methodLink RJ0 492 yJ0_isLatin1_aae02, Cond.instanceMethod yJ0_isLatin1_aae02, Cond.selects RJ0 yJ0_isLatin1_aae02 yJ0_isLatin1_aae02, Cond.code yJ0_isLatin1_aae02 cJ0_isLatin1_aae02 1 (some .boolean)]
def wsX1_isName_r2 : List Cond := [Cond.methodLink RJ0 495 yJ1_charAt_3b067, Cond.static yJ1_charAt_3b067, Cond.initialized RJ1, Cond.code yJ1_charAt_3b067 cJ1_charAt_3b067 2 (some .char), Cond.methodLink RJ1 9 yJ0_checkIndex_df160, Cond.static yJ0_checkIndex_df160, Cond.code yJ0_checkIndex_df160 cJ0_checkIndex_df160 2 none, Cond.fieldLink RJ0 1053 "jdk/internal/util/Preconditions" "SIOOBE_FORMATTER" "Ljava/util/function/BiFunction;", Cond.methodLink RJ0 1059 yJ3_checkIndex_8e157, Cond.static yJ3_checkIndex_8e157, Cond.initialized RJ3, Cond.code yJ3_checkIndex_8e157 cJ3_checkIndex_8e157 3 (some .int), Cond.methodLink RJ0 498 yJ2_charAt_3b067, Cond.static yJ2_charAt_3b067, Cond.initialized RJ2, Cond.code yJ2_charAt_3b067 cJ2_charAt_3b067 2 (some .char), Cond.methodLink RJ2 67 yJ2_checkIndex_2214a, Cond.static yJ2_checkIndex_2214a, Cond.code yJ2_checkIndex_2214a cJ2_checkIndex_2214a 2 none, Cond.methodLink RJ2 48 yJ2_length_9d52b, Cond.static yJ2_length_9d52b, Cond.code yJ2_length_9d52b cJ2_length_9d52b 1 (some .int), Cond.methodLink RJ2 414 yJ0_checkIndex_df160, Cond.methodLink RJ2 71 yJ2_getChar_3b067]
def wsX1_isName_r3 : List Cond := [Cond.static yJ2_getChar_3b067, Cond.code yJ2_getChar_3b067 cJ2_getChar_3b067 2 (some .char), Cond.fieldLink RJ2 44 "java/lang/StringUTF16" "$assertionsDisabled" "Z", Cond.fieldLink RJ2 59 "java/lang/StringUTF16" "HI_BYTE_SHIFT" "I", Cond.fieldLink RJ2 63 "java/lang/StringUTF16" "LO_BYTE_SHIFT" "I"]
def wsX1_isName : List Cond := .code yX1_isName cX1_isName 3 (some .boolean) :: ((wsX1_isName_r1 ++ (wsX1_isName_r2 ++ wsX1_isName_r3)) ++ wsX10)
def wsX1_numberOf : List Cond := .code yX1_numberOf cX1_numberOf 3 (some .int) :: ([.fieldLink RX1 22 "VoiceWords$Text" "kind" "I", .fieldLink RX1 9 "VoiceWords$Text" "characters" "[I", .fieldLink RX1 29 "VoiceWords$Text" "start" "I", .fieldLink RX1 15 "VoiceWords$Text" "end" "I"] ++ wsX10)
def wsX3_isBetween : List Cond := .code yX3_isBetween cX3_isBetween 3 (some .boolean) :: ([])
def wsX3_isAllowed : List Cond := .code yX3_isAllowed cX3_isAllowed 2 (some .boolean) :: ([.methodLink RX3 34 yX3_isBetween, .static yX3_isBetween, .initialized RX3, .code yX3_isBetween cX3_isBetween 3 (some .boolean)])
def wsX1_wayOf_r1 : List Cond := [Cond.methodLink RX1 34 yX1_isName, Cond.instanceMethod yX1_isName, Cond.selects RX1 yX1_isName yX1_isName, Cond.initialized RX1, Cond.code yX1_isName cX1_isName 3 (some .boolean), Cond.fieldLink RX1 22 "VoiceWords$Text" "kind" "I", Cond.fieldLink RX1 15 "VoiceWords$Text" "end" "I", Cond.fieldLink RX1 29 "VoiceWords$Text" "start" "I", Cond.fieldLink RX1 9 "VoiceWords$Text" "characters" "[I", Cond.methodLink RX1 100 yJ0_length_8abf5, Cond.instanceMethod yJ0_length_8abf5, Cond.selects RJ0 yJ0_length_8abf5 yJ0_length_8abf5, Cond.initialized RJ0, Cond.code yJ0_length_8abf5 cJ0_length_8abf5 1 (some .int), Cond.fieldLink RJ0 9 "java/lang/String" "value" "[B", Cond.methodLink RJ0 335 yJ0_coder_7d493, Cond.instanceMethod yJ0_coder_7d493, Cond.selects RJ0 yJ0_coder_7d493 yJ0_coder_7d493, Cond.code yJ0_coder_7d493 cJ0_coder_7d493 1 (some .byte), Cond.fieldLink RJ0 38 "java/lang/String" "COMPACT_STRINGS" "Z", Cond.fieldLink RJ0 15 "java/lang/String" "coder" "B", Cond.methodLink RX1 104 yJ0_charAt_5068e, Cond.instanceMethod yJ0_charAt_5068e, Cond.selects RJ0 yJ0_charAt_5068e yJ0_charAt_5068e]
def wsX1_wayOf_r2 : List Cond := [Cond.code yJ0_charAt_5068e cJ0_charAt_5068e 2 (some .char), Cond.methodLink RJ0 492 yJ0_isLatin1_aae02, Cond.instanceMethod yJ0_isLatin1_aae02, Cond.selects RJ0 yJ0_isLatin1_aae02 yJ0_isLatin1_aae02, Cond.code yJ0_isLatin1_aae02 cJ0_isLatin1_aae02 1 (some .boolean), Cond.methodLink RJ0 495 yJ1_charAt_3b067, Cond.static yJ1_charAt_3b067, Cond.initialized RJ1, Cond.code yJ1_charAt_3b067 cJ1_charAt_3b067 2 (some .char), Cond.methodLink RJ1 9 yJ0_checkIndex_df160, Cond.static yJ0_checkIndex_df160, Cond.code yJ0_checkIndex_df160 cJ0_checkIndex_df160 2 none, Cond.fieldLink RJ0 1053 "jdk/internal/util/Preconditions" "SIOOBE_FORMATTER" "Ljava/util/function/BiFunction;", Cond.methodLink RJ0 1059 yJ3_checkIndex_8e157, Cond.static yJ3_checkIndex_8e157, Cond.initialized RJ3, Cond.code yJ3_checkIndex_8e157 cJ3_checkIndex_8e157 3 (some .int), Cond.methodLink RJ0 498 yJ2_charAt_3b067, Cond.static yJ2_charAt_3b067, Cond.initialized RJ2, Cond.code yJ2_charAt_3b067 cJ2_charAt_3b067 2 (some .char), Cond.methodLink RJ2 67 yJ2_checkIndex_2214a, Cond.static yJ2_checkIndex_2214a, Cond.code yJ2_checkIndex_2214a cJ2_checkIndex_2214a 2 none]
def wsX1_wayOf_r3 : List Cond := [Cond.methodLink RJ2 48 yJ2_length_9d52b, Cond.static yJ2_length_9d52b, Cond.code yJ2_length_9d52b cJ2_length_9d52b 1 (some .int), Cond.methodLink RJ2 414 yJ0_checkIndex_df160, Cond.methodLink RJ2 71 yJ2_getChar_3b067, Cond.static yJ2_getChar_3b067, Cond.code yJ2_getChar_3b067 cJ2_getChar_3b067 2 (some .char), Cond.fieldLink RJ2 44 "java/lang/StringUTF16" "$assertionsDisabled" "Z", Cond.fieldLink RJ2 59 "java/lang/StringUTF16" "HI_BYTE_SHIFT" "I", Cond.fieldLink RJ2 63 "java/lang/StringUTF16" "LO_BYTE_SHIFT" "I"]
def wsX1_wayOf : List Cond := .code yX1_wayOf cX1_wayOf 1 (some .int) :: ((wsX1_wayOf_r1 ++ (wsX1_wayOf_r2 ++ wsX1_wayOf_r3)) ++ wsX10)
def wsX1_readWord_r1 : List Cond := [Cond.fieldLink RX1 29 "VoiceWords$Text" "start" "I", Cond.fieldLink RX1 15 "VoiceWords$Text" "end" "I", Cond.fieldLink RX1 22 "VoiceWords$Text" "kind" "I", Cond.fieldLink RX1 9 "VoiceWords$Text" "characters" "[I", Cond.fieldLink RX1 70 "VoiceWords$Word" "letters" "[I", Cond.methodLink RX1 75 arraycopyName, Cond.native arraycopyName, Cond.static arraycopyName, Cond.initialized "java/lang/System", Cond.methodLink RX1 19 yX1_step, Cond.instanceMethod yX1_step, Cond.selects RX1 yX1_step yX1_step, Cond.initialized RX1, Cond.code yX1_step cX1_step 1 none, Cond.fieldLink RX1 93 "VoiceWords$Text" "length" "I", Cond.methodLink RX1 96 yX1_kindAt, Cond.instanceMethod yX1_kindAt, Cond.selects RX1 yX1_kindAt yX1_kindAt, Cond.code yX1_kindAt cX1_kindAt 3 (some .int), Cond.methodLink RX1 55 yX1_numberOf, Cond.instanceMethod yX1_numberOf, Cond.selects RX1 yX1_numberOf yX1_numberOf, Cond.code yX1_numberOf cX1_numberOf 3 (some .int), Cond.static yX3_isAllowed]
def wsX1_readWord_r2 : List Cond := [Cond.initialized RX3, Cond.code yX3_isAllowed cX3_isAllowed 2 (some .boolean), Cond.methodLink RX3 34 yX3_isBetween, Cond.static yX3_isBetween, Cond.code yX3_isBetween cX3_isBetween 3 (some .boolean), Cond.methodLink RX1 63 yX1_wayOf, Cond.instanceMethod yX1_wayOf, Cond.selects RX1 yX1_wayOf yX1_wayOf, Cond.code yX1_wayOf cX1_wayOf 1 (some .int), Cond.methodLink RX1 34 yX1_isName, Cond.instanceMethod yX1_isName, Cond.selects RX1 yX1_isName yX1_isName, Cond.code yX1_isName cX1_isName 3 (some .boolean), Cond.methodLink RX1 100 yJ0_length_8abf5, Cond.instanceMethod yJ0_length_8abf5, Cond.selects RJ0 yJ0_length_8abf5 yJ0_length_8abf5, Cond.initialized RJ0, Cond.code yJ0_length_8abf5 cJ0_length_8abf5 1 (some .int), Cond.fieldLink RJ0 9 "java/lang/String" "value" "[B", Cond.methodLink RJ0 335 yJ0_coder_7d493, Cond.instanceMethod yJ0_coder_7d493, Cond.selects RJ0 yJ0_coder_7d493 yJ0_coder_7d493, Cond.code yJ0_coder_7d493 cJ0_coder_7d493 1 (some .byte), Cond.fieldLink RJ0 38 "java/lang/String" "COMPACT_STRINGS" "Z"]
def wsX1_readWord_r3 : List Cond := [Cond.fieldLink RJ0 15 "java/lang/String" "coder" "B", Cond.methodLink RX1 104 yJ0_charAt_5068e, Cond.instanceMethod yJ0_charAt_5068e, Cond.selects RJ0 yJ0_charAt_5068e yJ0_charAt_5068e, Cond.code yJ0_charAt_5068e cJ0_charAt_5068e 2 (some .char), Cond.methodLink RJ0 492 yJ0_isLatin1_aae02, Cond.instanceMethod yJ0_isLatin1_aae02, Cond.selects RJ0 yJ0_isLatin1_aae02 yJ0_isLatin1_aae02, Cond.code yJ0_isLatin1_aae02 cJ0_isLatin1_aae02 1 (some .boolean), Cond.methodLink RJ0 495 yJ1_charAt_3b067, Cond.static yJ1_charAt_3b067, Cond.initialized RJ1, Cond.code yJ1_charAt_3b067 cJ1_charAt_3b067 2 (some .char), Cond.methodLink RJ1 9 yJ0_checkIndex_df160, Cond.static yJ0_checkIndex_df160, Cond.code yJ0_checkIndex_df160 cJ0_checkIndex_df160 2 none, Cond.fieldLink RJ0 1053 "jdk/internal/util/Preconditions" "SIOOBE_FORMATTER" "Ljava/util/function/BiFunction;", Cond.methodLink RJ0 1059 yJ3_checkIndex_8e157, Cond.static yJ3_checkIndex_8e157, Cond.initialized RJ3, Cond.code yJ3_checkIndex_8e157 cJ3_checkIndex_8e157 3 (some .int), Cond.methodLink RJ0 498 yJ2_charAt_3b067, Cond.static yJ2_charAt_3b067, Cond.initialized RJ2]
def wsX1_readWord_r4 : List Cond := [Cond.code yJ2_charAt_3b067 cJ2_charAt_3b067 2 (some .char), Cond.methodLink RJ2 67 yJ2_checkIndex_2214a, Cond.static yJ2_checkIndex_2214a, Cond.code yJ2_checkIndex_2214a cJ2_checkIndex_2214a 2 none, Cond.methodLink RJ2 48 yJ2_length_9d52b, Cond.static yJ2_length_9d52b, Cond.code yJ2_length_9d52b cJ2_length_9d52b 1 (some .int), Cond.methodLink RJ2 414 yJ0_checkIndex_df160, Cond.methodLink RJ2 71 yJ2_getChar_3b067, Cond.static yJ2_getChar_3b067, Cond.code yJ2_getChar_3b067 cJ2_getChar_3b067 2 (some .char), Cond.fieldLink RJ2 44 "java/lang/StringUTF16" "$assertionsDisabled" "Z", Cond.fieldLink RJ2 59 "java/lang/StringUTF16" "HI_BYTE_SHIFT" "I", Cond.fieldLink RJ2 63 "java/lang/StringUTF16" "LO_BYTE_SHIFT" "I", Cond.methodLink RX1 66 yX0_appendWord, Cond.instanceMethod yX0_appendWord, Cond.selects RX0 yX0_appendWord yX0_appendWord, Cond.initialized RX0, Cond.code yX0_appendWord cX0_appendWord 8 (some (.object "VoiceWords$Word")), Cond.fieldLink RX0 11 "VoiceWords$Scene" "words" "[LVoiceWords$Word;", Cond.fieldLink RX0 33 "VoiceWords$Scene" "wordCount" "I", Cond.fieldLink RX0 49 "VoiceWords$Word" "letters" "[I", Cond.fieldLink RX0 52 "VoiceWords$Word" "length" "I", Cond.fieldLink RX0 55 "VoiceWords$Word" "frame" "I"]
def wsX1_readWord_r5 : List Cond := [Cond.fieldLink RX0 58 "VoiceWords$Word" "spoken" "I", Cond.fieldLink RX0 61 "VoiceWords$Word" "held" "I", Cond.fieldLink RX0 64 "VoiceWords$Word" "way" "I", Cond.fieldLink RX0 67 "VoiceWords$Word" "isPut" "Z"]
def wsX1_readWord : List Cond := .code yX1_readWord cX1_readWord 9 (some .boolean) :: ((wsX1_readWord_r1 ++ (wsX1_readWord_r2 ++ (wsX1_readWord_r3 ++ (wsX1_readWord_r4 ++ wsX1_readWord_r5)))) ++ wsX10 ++ wsX20 ++ wsX00)
def wsX1_readShot_r1 : List Cond := [Cond.fieldLink RX1 22 "VoiceWords$Text" "kind" "I", Cond.methodLink RX1 19 yX1_step, Cond.instanceMethod yX1_step, Cond.selects RX1 yX1_step yX1_step, Cond.initialized RX1, Cond.code yX1_step cX1_step 1 none, Cond.fieldLink RX1 15 "VoiceWords$Text" "end" "I", Cond.fieldLink RX1 29 "VoiceWords$Text" "start" "I", Cond.fieldLink RX1 93 "VoiceWords$Text" "length" "I", Cond.fieldLink RX1 9 "VoiceWords$Text" "characters" "[I", Cond.methodLink RX1 96 yX1_kindAt, Cond.instanceMethod yX1_kindAt, Cond.selects RX1 yX1_kindAt yX1_kindAt, Cond.code yX1_kindAt cX1_kindAt 3 (some .int), Cond.methodLink RX1 55 yX1_numberOf, Cond.instanceMethod yX1_numberOf, Cond.selects RX1 yX1_numberOf yX1_numberOf, Cond.code yX1_numberOf cX1_numberOf 3 (some .int), Cond.static yX3_isBetween, Cond.initialized RX3, Cond.code yX3_isBetween cX3_isBetween 3 (some .boolean), Cond.methodLink RX1 85 yX0_hasShotIn, Cond.instanceMethod yX0_hasShotIn, Cond.selects RX0 yX0_hasShotIn yX0_hasShotIn]
def wsX1_readShot_r2 : List Cond := [Cond.initialized RX0, Cond.code yX0_hasShotIn cX0_hasShotIn 3 (some .boolean), Cond.fieldLink RX0 46 "VoiceWords$Scene" "shotCount" "I", Cond.fieldLink RX0 17 "VoiceWords$Scene" "shots" "[I", Cond.methodLink RX1 89 yX0_insertShot, Cond.instanceMethod yX0_insertShot, Cond.selects RX0 yX0_insertShot yX0_insertShot, Cond.code yX0_insertShot cX0_insertShot 3 none]
def wsX1_readShot : List Cond := .code yX1_readShot cX1_readShot 3 (some .boolean) :: ((wsX1_readShot_r1 ++ wsX1_readShot_r2) ++ wsX10 ++ wsX00)
def wsX1_readItem_r1 : List Cond := [Cond.methodLink RX1 34 yX1_isName, Cond.instanceMethod yX1_isName, Cond.selects RX1 yX1_isName yX1_isName, Cond.initialized RX1, Cond.code yX1_isName cX1_isName 3 (some .boolean), Cond.fieldLink RX1 22 "VoiceWords$Text" "kind" "I", Cond.fieldLink RX1 15 "VoiceWords$Text" "end" "I", Cond.fieldLink RX1 29 "VoiceWords$Text" "start" "I", Cond.fieldLink RX1 9 "VoiceWords$Text" "characters" "[I", Cond.methodLink RX1 100 yJ0_length_8abf5, Cond.instanceMethod yJ0_length_8abf5, Cond.selects RJ0 yJ0_length_8abf5 yJ0_length_8abf5, Cond.initialized RJ0, Cond.code yJ0_length_8abf5 cJ0_length_8abf5 1 (some .int), Cond.fieldLink RJ0 9 "java/lang/String" "value" "[B", Cond.methodLink RJ0 335 yJ0_coder_7d493, Cond.instanceMethod yJ0_coder_7d493, Cond.selects RJ0 yJ0_coder_7d493 yJ0_coder_7d493, Cond.code yJ0_coder_7d493 cJ0_coder_7d493 1 (some .byte), Cond.fieldLink RJ0 38 "java/lang/String" "COMPACT_STRINGS" "Z", Cond.fieldLink RJ0 15 "java/lang/String" "coder" "B", Cond.methodLink RX1 104 yJ0_charAt_5068e, Cond.instanceMethod yJ0_charAt_5068e, Cond.selects RJ0 yJ0_charAt_5068e yJ0_charAt_5068e]
def wsX1_readItem_r2 : List Cond := [Cond.code yJ0_charAt_5068e cJ0_charAt_5068e 2 (some .char), Cond.methodLink RJ0 492 yJ0_isLatin1_aae02, Cond.instanceMethod yJ0_isLatin1_aae02, Cond.selects RJ0 yJ0_isLatin1_aae02 yJ0_isLatin1_aae02, Cond.code yJ0_isLatin1_aae02 cJ0_isLatin1_aae02 1 (some .boolean), Cond.methodLink RJ0 495 yJ1_charAt_3b067, Cond.static yJ1_charAt_3b067, Cond.initialized RJ1, Cond.code yJ1_charAt_3b067 cJ1_charAt_3b067 2 (some .char), Cond.methodLink RJ1 9 yJ0_checkIndex_df160, Cond.static yJ0_checkIndex_df160, Cond.code yJ0_checkIndex_df160 cJ0_checkIndex_df160 2 none, Cond.fieldLink RJ0 1053 "jdk/internal/util/Preconditions" "SIOOBE_FORMATTER" "Ljava/util/function/BiFunction;", Cond.methodLink RJ0 1059 yJ3_checkIndex_8e157, Cond.static yJ3_checkIndex_8e157, Cond.initialized RJ3, Cond.code yJ3_checkIndex_8e157 cJ3_checkIndex_8e157 3 (some .int), Cond.methodLink RJ0 498 yJ2_charAt_3b067, Cond.static yJ2_charAt_3b067, Cond.initialized RJ2, Cond.code yJ2_charAt_3b067 cJ2_charAt_3b067 2 (some .char), Cond.methodLink RJ2 67 yJ2_checkIndex_2214a, Cond.static yJ2_checkIndex_2214a, Cond.code yJ2_checkIndex_2214a cJ2_checkIndex_2214a 2 none]
def wsX1_readItem_r3 : List Cond := [Cond.methodLink RJ2 48 yJ2_length_9d52b, Cond.static yJ2_length_9d52b, Cond.code yJ2_length_9d52b cJ2_length_9d52b 1 (some .int), Cond.methodLink RJ2 414 yJ0_checkIndex_df160, Cond.methodLink RJ2 71 yJ2_getChar_3b067, Cond.static yJ2_getChar_3b067, Cond.code yJ2_getChar_3b067 cJ2_getChar_3b067 2 (some .char), Cond.fieldLink RJ2 44 "java/lang/StringUTF16" "$assertionsDisabled" "Z", Cond.fieldLink RJ2 59 "java/lang/StringUTF16" "HI_BYTE_SHIFT" "I", Cond.fieldLink RJ2 63 "java/lang/StringUTF16" "LO_BYTE_SHIFT" "I", Cond.methodLink RX1 38 yX0_hasRoomForWord, Cond.instanceMethod yX0_hasRoomForWord, Cond.selects RX0 yX0_hasRoomForWord yX0_hasRoomForWord, Cond.initialized RX0, Cond.code yX0_hasRoomForWord cX0_hasRoomForWord 1 (some .boolean), Cond.fieldLink RX0 33 "VoiceWords$Scene" "wordCount" "I", Cond.methodLink RX1 44 yX1_readWord, Cond.instanceMethod yX1_readWord, Cond.selects RX1 yX1_readWord yX1_readWord, Cond.code yX1_readWord cX1_readWord 9 (some .boolean), Cond.fieldLink RX1 70 "VoiceWords$Word" "letters" "[I", Cond.methodLink RX1 75 arraycopyName, Cond.native arraycopyName, Cond.static arraycopyName]
def wsX1_readItem_r4 : List Cond := [Cond.initialized "java/lang/System", Cond.methodLink RX1 19 yX1_step, Cond.instanceMethod yX1_step, Cond.selects RX1 yX1_step yX1_step, Cond.code yX1_step cX1_step 1 none, Cond.fieldLink RX1 93 "VoiceWords$Text" "length" "I", Cond.methodLink RX1 96 yX1_kindAt, Cond.instanceMethod yX1_kindAt, Cond.selects RX1 yX1_kindAt yX1_kindAt, Cond.code yX1_kindAt cX1_kindAt 3 (some .int), Cond.methodLink RX1 55 yX1_numberOf, Cond.instanceMethod yX1_numberOf, Cond.selects RX1 yX1_numberOf yX1_numberOf, Cond.code yX1_numberOf cX1_numberOf 3 (some .int), Cond.static yX3_isAllowed, Cond.initialized RX3, Cond.code yX3_isAllowed cX3_isAllowed 2 (some .boolean), Cond.methodLink RX3 34 yX3_isBetween, Cond.static yX3_isBetween, Cond.code yX3_isBetween cX3_isBetween 3 (some .boolean), Cond.methodLink RX1 63 yX1_wayOf, Cond.instanceMethod yX1_wayOf, Cond.selects RX1 yX1_wayOf yX1_wayOf, Cond.code yX1_wayOf cX1_wayOf 1 (some .int)]
def wsX1_readItem_r5 : List Cond := [Cond.methodLink RX1 66 yX0_appendWord, Cond.instanceMethod yX0_appendWord, Cond.selects RX0 yX0_appendWord yX0_appendWord, Cond.code yX0_appendWord cX0_appendWord 8 (some (.object "VoiceWords$Word")), Cond.fieldLink RX0 11 "VoiceWords$Scene" "words" "[LVoiceWords$Word;", Cond.fieldLink RX0 49 "VoiceWords$Word" "letters" "[I", Cond.fieldLink RX0 52 "VoiceWords$Word" "length" "I", Cond.fieldLink RX0 55 "VoiceWords$Word" "frame" "I", Cond.fieldLink RX0 58 "VoiceWords$Word" "spoken" "I", Cond.fieldLink RX0 61 "VoiceWords$Word" "held" "I", Cond.fieldLink RX0 64 "VoiceWords$Word" "way" "I", Cond.fieldLink RX0 67 "VoiceWords$Word" "isPut" "Z", Cond.methodLink RX1 49 yX0_hasRoomForShot, Cond.instanceMethod yX0_hasRoomForShot, Cond.selects RX0 yX0_hasRoomForShot yX0_hasRoomForShot, Cond.code yX0_hasRoomForShot cX0_hasRoomForShot 1 (some .boolean), Cond.fieldLink RX0 46 "VoiceWords$Scene" "shotCount" "I", Cond.methodLink RX1 52 yX1_readShot, Cond.instanceMethod yX1_readShot, Cond.selects RX1 yX1_readShot yX1_readShot, Cond.code yX1_readShot cX1_readShot 3 (some .boolean), Cond.methodLink RX1 85 yX0_hasShotIn, Cond.instanceMethod yX0_hasShotIn, Cond.selects RX0 yX0_hasShotIn yX0_hasShotIn]
def wsX1_readItem_r6 : List Cond := [Cond.code yX0_hasShotIn cX0_hasShotIn 3 (some .boolean), Cond.fieldLink RX0 17 "VoiceWords$Scene" "shots" "[I", Cond.methodLink RX1 89 yX0_insertShot, Cond.instanceMethod yX0_insertShot, Cond.selects RX0 yX0_insertShot yX0_insertShot, Cond.code yX0_insertShot cX0_insertShot 3 none]
def wsX1_readItem : List Cond := .code yX1_readItem cX1_readItem 2 (some .boolean) :: ((wsX1_readItem_r1 ++ (wsX1_readItem_r2 ++ (wsX1_readItem_r3 ++ (wsX1_readItem_r4 ++ (wsX1_readItem_r5 ++ wsX1_readItem_r6))))) ++ wsX10 ++ wsX00 ++ wsX20)
def wsX1_readInto_r1 : List Cond := [Cond.fieldLink RX1 15 "VoiceWords$Text" "end" "I", Cond.fieldLink RX1 22 "VoiceWords$Text" "kind" "I", Cond.fieldLink RX1 29 "VoiceWords$Text" "start" "I", Cond.methodLink RX1 19 yX1_step, Cond.instanceMethod yX1_step, Cond.selects RX1 yX1_step yX1_step, Cond.initialized RX1, Cond.code yX1_step cX1_step 1 none, Cond.fieldLink RX1 93 "VoiceWords$Text" "length" "I", Cond.fieldLink RX1 9 "VoiceWords$Text" "characters" "[I", Cond.methodLink RX1 96 yX1_kindAt, Cond.instanceMethod yX1_kindAt, Cond.selects RX1 yX1_kindAt yX1_kindAt, Cond.code yX1_kindAt cX1_kindAt 3 (some .int), Cond.methodLink RX1 25 yX1_readItem, Cond.instanceMethod yX1_readItem, Cond.selects RX1 yX1_readItem yX1_readItem, Cond.code yX1_readItem cX1_readItem 2 (some .boolean), Cond.methodLink RX1 34 yX1_isName, Cond.instanceMethod yX1_isName, Cond.selects RX1 yX1_isName yX1_isName, Cond.code yX1_isName cX1_isName 3 (some .boolean), Cond.methodLink RX1 100 yJ0_length_8abf5, Cond.instanceMethod yJ0_length_8abf5]
def wsX1_readInto_r2 : List Cond := [Cond.selects RJ0 yJ0_length_8abf5 yJ0_length_8abf5, Cond.initialized RJ0, Cond.code yJ0_length_8abf5 cJ0_length_8abf5 1 (some .int), Cond.fieldLink RJ0 9 "java/lang/String" "value" "[B", Cond.methodLink RJ0 335 yJ0_coder_7d493, Cond.instanceMethod yJ0_coder_7d493, Cond.selects RJ0 yJ0_coder_7d493 yJ0_coder_7d493, Cond.code yJ0_coder_7d493 cJ0_coder_7d493 1 (some .byte), Cond.fieldLink RJ0 38 "java/lang/String" "COMPACT_STRINGS" "Z", Cond.fieldLink RJ0 15 "java/lang/String" "coder" "B", Cond.methodLink RX1 104 yJ0_charAt_5068e, Cond.instanceMethod yJ0_charAt_5068e, Cond.selects RJ0 yJ0_charAt_5068e yJ0_charAt_5068e, Cond.code yJ0_charAt_5068e cJ0_charAt_5068e 2 (some .char), Cond.methodLink RJ0 492 yJ0_isLatin1_aae02, Cond.instanceMethod yJ0_isLatin1_aae02, Cond.selects RJ0 yJ0_isLatin1_aae02 yJ0_isLatin1_aae02, Cond.code yJ0_isLatin1_aae02 cJ0_isLatin1_aae02 1 (some .boolean), Cond.methodLink RJ0 495 yJ1_charAt_3b067, Cond.static yJ1_charAt_3b067, Cond.initialized RJ1, Cond.code yJ1_charAt_3b067 cJ1_charAt_3b067 2 (some .char), Cond.methodLink RJ1 9 yJ0_checkIndex_df160, Cond.static yJ0_checkIndex_df160]
def wsX1_readInto_r3 : List Cond := [Cond.code yJ0_checkIndex_df160 cJ0_checkIndex_df160 2 none, Cond.fieldLink RJ0 1053 "jdk/internal/util/Preconditions" "SIOOBE_FORMATTER" "Ljava/util/function/BiFunction;", Cond.methodLink RJ0 1059 yJ3_checkIndex_8e157, Cond.static yJ3_checkIndex_8e157, Cond.initialized RJ3, Cond.code yJ3_checkIndex_8e157 cJ3_checkIndex_8e157 3 (some .int), Cond.methodLink RJ0 498 yJ2_charAt_3b067, Cond.static yJ2_charAt_3b067, Cond.initialized RJ2, Cond.code yJ2_charAt_3b067 cJ2_charAt_3b067 2 (some .char), Cond.methodLink RJ2 67 yJ2_checkIndex_2214a, Cond.static yJ2_checkIndex_2214a, Cond.code yJ2_checkIndex_2214a cJ2_checkIndex_2214a 2 none, Cond.methodLink RJ2 48 yJ2_length_9d52b, Cond.static yJ2_length_9d52b, Cond.code yJ2_length_9d52b cJ2_length_9d52b 1 (some .int), Cond.methodLink RJ2 414 yJ0_checkIndex_df160, Cond.methodLink RJ2 71 yJ2_getChar_3b067, Cond.static yJ2_getChar_3b067, Cond.code yJ2_getChar_3b067 cJ2_getChar_3b067 2 (some .char), Cond.fieldLink RJ2 44 "java/lang/StringUTF16" "$assertionsDisabled" "Z", Cond.fieldLink RJ2 59 "java/lang/StringUTF16" "HI_BYTE_SHIFT" "I", Cond.fieldLink RJ2 63 "java/lang/StringUTF16" "LO_BYTE_SHIFT" "I", Cond.methodLink RX1 38 yX0_hasRoomForWord]
def wsX1_readInto_r4 : List Cond := [Cond.instanceMethod yX0_hasRoomForWord, Cond.selects RX0 yX0_hasRoomForWord yX0_hasRoomForWord, Cond.initialized RX0, Cond.code yX0_hasRoomForWord cX0_hasRoomForWord 1 (some .boolean), Cond.fieldLink RX0 33 "VoiceWords$Scene" "wordCount" "I", Cond.methodLink RX1 44 yX1_readWord, Cond.instanceMethod yX1_readWord, Cond.selects RX1 yX1_readWord yX1_readWord, Cond.code yX1_readWord cX1_readWord 9 (some .boolean), Cond.fieldLink RX1 70 "VoiceWords$Word" "letters" "[I", Cond.methodLink RX1 75 arraycopyName, Cond.native arraycopyName, Cond.static arraycopyName, Cond.initialized "java/lang/System", Cond.methodLink RX1 55 yX1_numberOf, Cond.instanceMethod yX1_numberOf, Cond.selects RX1 yX1_numberOf yX1_numberOf, Cond.code yX1_numberOf cX1_numberOf 3 (some .int), Cond.static yX3_isAllowed, Cond.initialized RX3, Cond.code yX3_isAllowed cX3_isAllowed 2 (some .boolean), Cond.methodLink RX3 34 yX3_isBetween, Cond.static yX3_isBetween, Cond.code yX3_isBetween cX3_isBetween 3 (some .boolean)]
def wsX1_readInto_r5 : List Cond := [Cond.methodLink RX1 63 yX1_wayOf, Cond.instanceMethod yX1_wayOf, Cond.selects RX1 yX1_wayOf yX1_wayOf, Cond.code yX1_wayOf cX1_wayOf 1 (some .int), Cond.methodLink RX1 66 yX0_appendWord, Cond.instanceMethod yX0_appendWord, Cond.selects RX0 yX0_appendWord yX0_appendWord, Cond.code yX0_appendWord cX0_appendWord 8 (some (.object "VoiceWords$Word")), Cond.fieldLink RX0 11 "VoiceWords$Scene" "words" "[LVoiceWords$Word;", Cond.fieldLink RX0 49 "VoiceWords$Word" "letters" "[I", Cond.fieldLink RX0 52 "VoiceWords$Word" "length" "I", Cond.fieldLink RX0 55 "VoiceWords$Word" "frame" "I", Cond.fieldLink RX0 58 "VoiceWords$Word" "spoken" "I", Cond.fieldLink RX0 61 "VoiceWords$Word" "held" "I", Cond.fieldLink RX0 64 "VoiceWords$Word" "way" "I", Cond.fieldLink RX0 67 "VoiceWords$Word" "isPut" "Z", Cond.methodLink RX1 49 yX0_hasRoomForShot, Cond.instanceMethod yX0_hasRoomForShot, Cond.selects RX0 yX0_hasRoomForShot yX0_hasRoomForShot, Cond.code yX0_hasRoomForShot cX0_hasRoomForShot 1 (some .boolean), Cond.fieldLink RX0 46 "VoiceWords$Scene" "shotCount" "I", Cond.methodLink RX1 52 yX1_readShot, Cond.instanceMethod yX1_readShot, Cond.selects RX1 yX1_readShot yX1_readShot]
def wsX1_readInto_r6 : List Cond := [Cond.code yX1_readShot cX1_readShot 3 (some .boolean), Cond.methodLink RX1 85 yX0_hasShotIn, Cond.instanceMethod yX0_hasShotIn, Cond.selects RX0 yX0_hasShotIn yX0_hasShotIn, Cond.code yX0_hasShotIn cX0_hasShotIn 3 (some .boolean), Cond.fieldLink RX0 17 "VoiceWords$Scene" "shots" "[I", Cond.methodLink RX1 89 yX0_insertShot, Cond.instanceMethod yX0_insertShot, Cond.selects RX0 yX0_insertShot yX0_insertShot, Cond.code yX0_insertShot cX0_insertShot 3 none]
def wsX1_readInto : List Cond := .code yX1_readInto cX1_readInto 3 (some .int) :: ((wsX1_readInto_r1 ++ (wsX1_readInto_r2 ++ (wsX1_readInto_r3 ++ (wsX1_readInto_r4 ++ (wsX1_readInto_r5 ++ wsX1_readInto_r6))))) ++ wsX10 ++ wsX00 ++ wsX20)
def wsX2_property : List Cond := .code yX2_property cX2_property 2 (some .int) :: ([.fieldLink RX2 25 "VoiceWords$Word" "frame" "I", .fieldLink RX2 28 "VoiceWords$Word" "spoken" "I", .fieldLink RX2 31 "VoiceWords$Word" "held" "I", .fieldLink RX2 34 "VoiceWords$Word" "way" "I"] ++ wsX20)
def wsX2_setProperty : List Cond := .code yX2_setProperty cX2_setProperty 3 none :: ([.fieldLink RX2 25 "VoiceWords$Word" "frame" "I", .fieldLink RX2 28 "VoiceWords$Word" "spoken" "I", .fieldLink RX2 31 "VoiceWords$Word" "held" "I", .fieldLink RX2 34 "VoiceWords$Word" "way" "I"] ++ wsX20)
def wsX3_init_r1 : List Cond := [Cond.methodLink RX3 1 objectInit, Cond.instanceMethod objectInit, Cond.code objectInit ⟨#[0xb1]⟩ 1 none, Cond.classLink RX3 7 RX0, Cond.instantiable RX0 7, Cond.initialized RX0, Cond.fieldLink RX3 10 "VoiceWords" "scene" "LVoiceWords$Scene;", Cond.fieldLink RX3 16 "VoiceWords" "draft" "LVoiceWords$Scene;", Cond.fieldLink RX3 19 "VoiceWords" "history" "[LVoiceWords$Scene;", Cond.fieldLink RX3 23 "VoiceWords" "states" "I", Cond.classLink RX3 27 RX1, Cond.instantiable RX1 5, Cond.initialized RX1, Cond.fieldLink RX3 30 "VoiceWords" "text" "LVoiceWords$Text;", Cond.methodLink RX3 9 yX0_init, Cond.instanceMethod yX0_init, Cond.code yX0_init cX0_init 2 none, Cond.methodLink RX0 3 objectInit, Cond.classLink RX0 9 RX2, Cond.fieldLink RX0 11 "VoiceWords$Scene" "words" "[LVoiceWords$Word;", Cond.arrayClass .int, Cond.fieldLink RX0 17 "VoiceWords$Scene" "shots" "[I", Cond.fieldLink RX0 21 "VoiceWords$Scene" "percent" "I", Cond.instantiable RX2 9]
def wsX3_init_r2 : List Cond := [Cond.initialized RX2, Cond.fieldLink RX0 26 "VoiceWords$Scene" "trial" "LVoiceWords$Word;", Cond.fieldLink RX0 30 "VoiceWords$Scene" "order" "[I", Cond.instanceMethod yX2_init, Cond.code yX2_init cX2_init 1 none, Cond.methodLink RX2 3 objectInit, Cond.fieldLink RX2 9 "VoiceWords$Word" "letters" "[I", Cond.instanceMethod yX1_init, Cond.code yX1_init cX1_init 1 none, Cond.methodLink RX1 3 objectInit, Cond.fieldLink RX1 9 "VoiceWords$Text" "characters" "[I"]
def wsX3_init : List Cond := .code yX3_init cX3_init 2 none :: ((wsX3_init_r1 ++ wsX3_init_r2) ++ wsX00 ++ wsX30 ++ wsX10 ++ wsX20)
def wsX3_dropOldestState : List Cond := .code yX3_dropOldestState cX3_dropOldestState 3 none :: ([.fieldLink RX3 19 "VoiceWords" "history" "[LVoiceWords$Scene;", .fieldLink RX3 23 "VoiceWords" "states" "I"] ++ wsX30)
def wsX3_record_r1 : List Cond := [Cond.fieldLink RX3 23 "VoiceWords" "states" "I", Cond.fieldLink RX3 19 "VoiceWords" "history" "[LVoiceWords$Scene;", Cond.fieldLink RX3 10 "VoiceWords" "scene" "LVoiceWords$Scene;", Cond.methodLink RX3 202 yX3_dropOldestState, Cond.instanceMethod yX3_dropOldestState, Cond.selects RX3 yX3_dropOldestState yX3_dropOldestState, Cond.initialized RX3, Cond.code yX3_dropOldestState cX3_dropOldestState 3 none, Cond.methodLink RX3 107 yX0_copyFrom, Cond.instanceMethod yX0_copyFrom, Cond.selects RX0 yX0_copyFrom yX0_copyFrom, Cond.initialized RX0, Cond.code yX0_copyFrom cX0_copyFrom 3 none, Cond.fieldLink RX0 33 "VoiceWords$Scene" "wordCount" "I", Cond.fieldLink RX0 11 "VoiceWords$Scene" "words" "[LVoiceWords$Word;", Cond.fieldLink RX0 17 "VoiceWords$Scene" "shots" "[I", Cond.methodLink RX0 40 arraycopyName, Cond.native arraycopyName, Cond.static arraycopyName, Cond.initialized "java/lang/System", Cond.fieldLink RX0 46 "VoiceWords$Scene" "shotCount" "I", Cond.fieldLink RX0 21 "VoiceWords$Scene" "percent" "I", Cond.methodLink RX0 36 yX2_copyFrom, Cond.instanceMethod yX2_copyFrom]
def wsX3_record_r2 : List Cond := [Cond.selects RX2 yX2_copyFrom yX2_copyFrom, Cond.initialized RX2, Cond.code yX2_copyFrom cX2_copyFrom 2 none, Cond.fieldLink RX2 9 "VoiceWords$Word" "letters" "[I", Cond.methodLink RX2 15 arraycopyName, Cond.fieldLink RX2 21 "VoiceWords$Word" "length" "I", Cond.fieldLink RX2 25 "VoiceWords$Word" "frame" "I", Cond.fieldLink RX2 28 "VoiceWords$Word" "spoken" "I", Cond.fieldLink RX2 31 "VoiceWords$Word" "held" "I", Cond.fieldLink RX2 34 "VoiceWords$Word" "way" "I", Cond.fieldLink RX2 37 "VoiceWords$Word" "isPut" "Z", Cond.fieldLink RX2 41 "VoiceWords$Word" "lane" "I", Cond.fieldLink RX2 44 "VoiceWords$Word" "column" "I"]
def wsX3_record : List Cond := .code yX3_record cX3_record 1 none :: ((wsX3_record_r1 ++ wsX3_record_r2) ++ wsX30 ++ wsX00 ++ wsX20)
def wsX3_addWord_r1 : List Cond := [Cond.fieldLink RX3 10 "VoiceWords" "scene" "LVoiceWords$Scene;", Cond.fieldLink RX3 53 "VoiceWords$Scene" "wordCount" "I", Cond.methodLink RX3 34 yX3_isBetween, Cond.static yX3_isBetween, Cond.initialized RX3, Cond.code yX3_isBetween cX3_isBetween 3 (some .boolean), Cond.methodLink RX3 38 yX3_isAllowed, Cond.static yX3_isAllowed, Cond.code yX3_isAllowed cX3_isAllowed 2 (some .boolean), Cond.methodLink RX3 42 yX0_hasRoomForWord, Cond.instanceMethod yX0_hasRoomForWord, Cond.selects RX0 yX0_hasRoomForWord yX0_hasRoomForWord, Cond.initialized RX0, Cond.code yX0_hasRoomForWord cX0_hasRoomForWord 1 (some .boolean), Cond.fieldLink RX0 33 "VoiceWords$Scene" "wordCount" "I", Cond.methodLink RX3 46 yX3_record, Cond.instanceMethod yX3_record, Cond.selects RX3 yX3_record yX3_record, Cond.code yX3_record cX3_record 1 none, Cond.fieldLink RX3 23 "VoiceWords" "states" "I", Cond.fieldLink RX3 19 "VoiceWords" "history" "[LVoiceWords$Scene;", Cond.methodLink RX3 202 yX3_dropOldestState, Cond.instanceMethod yX3_dropOldestState, Cond.selects RX3 yX3_dropOldestState yX3_dropOldestState]
def wsX3_addWord_r2 : List Cond := [Cond.code yX3_dropOldestState cX3_dropOldestState 3 none, Cond.methodLink RX3 107 yX0_copyFrom, Cond.instanceMethod yX0_copyFrom, Cond.selects RX0 yX0_copyFrom yX0_copyFrom, Cond.code yX0_copyFrom cX0_copyFrom 3 none, Cond.fieldLink RX0 11 "VoiceWords$Scene" "words" "[LVoiceWords$Word;", Cond.fieldLink RX0 17 "VoiceWords$Scene" "shots" "[I", Cond.methodLink RX0 40 arraycopyName, Cond.native arraycopyName, Cond.static arraycopyName, Cond.initialized "java/lang/System", Cond.fieldLink RX0 46 "VoiceWords$Scene" "shotCount" "I", Cond.fieldLink RX0 21 "VoiceWords$Scene" "percent" "I", Cond.methodLink RX0 36 yX2_copyFrom, Cond.instanceMethod yX2_copyFrom, Cond.selects RX2 yX2_copyFrom yX2_copyFrom, Cond.initialized RX2, Cond.code yX2_copyFrom cX2_copyFrom 2 none, Cond.fieldLink RX2 9 "VoiceWords$Word" "letters" "[I", Cond.methodLink RX2 15 arraycopyName, Cond.fieldLink RX2 21 "VoiceWords$Word" "length" "I", Cond.fieldLink RX2 25 "VoiceWords$Word" "frame" "I", Cond.fieldLink RX2 28 "VoiceWords$Word" "spoken" "I", Cond.fieldLink RX2 31 "VoiceWords$Word" "held" "I"]
def wsX3_addWord_r3 : List Cond := [Cond.fieldLink RX2 34 "VoiceWords$Word" "way" "I", Cond.fieldLink RX2 37 "VoiceWords$Word" "isPut" "Z", Cond.fieldLink RX2 41 "VoiceWords$Word" "lane" "I", Cond.fieldLink RX2 44 "VoiceWords$Word" "column" "I", Cond.methodLink RX3 49 yX0_appendWord, Cond.instanceMethod yX0_appendWord, Cond.selects RX0 yX0_appendWord yX0_appendWord, Cond.code yX0_appendWord cX0_appendWord 8 (some (.object "VoiceWords$Word")), Cond.fieldLink RX0 49 "VoiceWords$Word" "letters" "[I", Cond.fieldLink RX0 52 "VoiceWords$Word" "length" "I", Cond.fieldLink RX0 55 "VoiceWords$Word" "frame" "I", Cond.fieldLink RX0 58 "VoiceWords$Word" "spoken" "I", Cond.fieldLink RX0 61 "VoiceWords$Word" "held" "I", Cond.fieldLink RX0 64 "VoiceWords$Word" "way" "I", Cond.fieldLink RX0 67 "VoiceWords$Word" "isPut" "Z"]
def wsX3_addWord : List Cond := .code yX3_addWord cX3_addWord 6 (some .int) :: ((wsX3_addWord_r1 ++ (wsX3_addWord_r2 ++ wsX3_addWord_r3)) ++ wsX30 ++ wsX00 ++ wsX20)
def wsX3_removeWord_r1 : List Cond := [Cond.fieldLink RX3 10 "VoiceWords" "scene" "LVoiceWords$Scene;", Cond.fieldLink RX3 53 "VoiceWords$Scene" "wordCount" "I", Cond.methodLink RX3 56 yX0_hasWord, Cond.instanceMethod yX0_hasWord, Cond.selects RX0 yX0_hasWord yX0_hasWord, Cond.initialized RX0, Cond.code yX0_hasWord cX0_hasWord 2 (some .boolean), Cond.fieldLink RX0 33 "VoiceWords$Scene" "wordCount" "I", Cond.methodLink RX3 46 yX3_record, Cond.instanceMethod yX3_record, Cond.selects RX3 yX3_record yX3_record, Cond.initialized RX3, Cond.code yX3_record cX3_record 1 none, Cond.fieldLink RX3 23 "VoiceWords" "states" "I", Cond.fieldLink RX3 19 "VoiceWords" "history" "[LVoiceWords$Scene;", Cond.methodLink RX3 202 yX3_dropOldestState, Cond.instanceMethod yX3_dropOldestState, Cond.selects RX3 yX3_dropOldestState yX3_dropOldestState, Cond.code yX3_dropOldestState cX3_dropOldestState 3 none, Cond.methodLink RX3 107 yX0_copyFrom, Cond.instanceMethod yX0_copyFrom, Cond.selects RX0 yX0_copyFrom yX0_copyFrom, Cond.code yX0_copyFrom cX0_copyFrom 3 none, Cond.fieldLink RX0 11 "VoiceWords$Scene" "words" "[LVoiceWords$Word;"]
def wsX3_removeWord_r2 : List Cond := [Cond.fieldLink RX0 17 "VoiceWords$Scene" "shots" "[I", Cond.methodLink RX0 40 arraycopyName, Cond.native arraycopyName, Cond.static arraycopyName, Cond.initialized "java/lang/System", Cond.fieldLink RX0 46 "VoiceWords$Scene" "shotCount" "I", Cond.fieldLink RX0 21 "VoiceWords$Scene" "percent" "I", Cond.methodLink RX0 36 yX2_copyFrom, Cond.instanceMethod yX2_copyFrom, Cond.selects RX2 yX2_copyFrom yX2_copyFrom, Cond.initialized RX2, Cond.code yX2_copyFrom cX2_copyFrom 2 none, Cond.fieldLink RX2 9 "VoiceWords$Word" "letters" "[I", Cond.methodLink RX2 15 arraycopyName, Cond.fieldLink RX2 21 "VoiceWords$Word" "length" "I", Cond.fieldLink RX2 25 "VoiceWords$Word" "frame" "I", Cond.fieldLink RX2 28 "VoiceWords$Word" "spoken" "I", Cond.fieldLink RX2 31 "VoiceWords$Word" "held" "I", Cond.fieldLink RX2 34 "VoiceWords$Word" "way" "I", Cond.fieldLink RX2 37 "VoiceWords$Word" "isPut" "Z", Cond.fieldLink RX2 41 "VoiceWords$Word" "lane" "I", Cond.fieldLink RX2 44 "VoiceWords$Word" "column" "I", Cond.methodLink RX3 60 yX0_deleteWord, Cond.instanceMethod yX0_deleteWord]
def wsX3_removeWord_r3 : List Cond := [Cond.selects RX0 yX0_deleteWord yX0_deleteWord, Cond.code yX0_deleteWord cX0_deleteWord 4 none]
def wsX3_removeWord : List Cond := .code yX3_removeWord cX3_removeWord 2 (some .int) :: ((wsX3_removeWord_r1 ++ (wsX3_removeWord_r2 ++ wsX3_removeWord_r3)) ++ wsX30 ++ wsX00 ++ wsX20)
def wsX3_setWord_r1 : List Cond := [Cond.fieldLink RX3 10 "VoiceWords" "scene" "LVoiceWords$Scene;", Cond.fieldLink RX3 64 "VoiceWords$Scene" "words" "[LVoiceWords$Word;", Cond.fieldLink RX3 78 "VoiceWords$Word" "isPut" "Z", Cond.methodLink RX3 56 yX0_hasWord, Cond.instanceMethod yX0_hasWord, Cond.selects RX0 yX0_hasWord yX0_hasWord, Cond.initialized RX0, Cond.code yX0_hasWord cX0_hasWord 2 (some .boolean), Cond.fieldLink RX0 33 "VoiceWords$Scene" "wordCount" "I", Cond.methodLink RX3 38 yX3_isAllowed, Cond.static yX3_isAllowed, Cond.initialized RX3, Cond.code yX3_isAllowed cX3_isAllowed 2 (some .boolean), Cond.methodLink RX3 34 yX3_isBetween, Cond.static yX3_isBetween, Cond.code yX3_isBetween cX3_isBetween 3 (some .boolean), Cond.methodLink RX3 46 yX3_record, Cond.instanceMethod yX3_record, Cond.selects RX3 yX3_record yX3_record, Cond.code yX3_record cX3_record 1 none, Cond.fieldLink RX3 23 "VoiceWords" "states" "I", Cond.fieldLink RX3 19 "VoiceWords" "history" "[LVoiceWords$Scene;", Cond.methodLink RX3 202 yX3_dropOldestState, Cond.instanceMethod yX3_dropOldestState]
def wsX3_setWord_r2 : List Cond := [Cond.selects RX3 yX3_dropOldestState yX3_dropOldestState, Cond.code yX3_dropOldestState cX3_dropOldestState 3 none, Cond.methodLink RX3 107 yX0_copyFrom, Cond.instanceMethod yX0_copyFrom, Cond.selects RX0 yX0_copyFrom yX0_copyFrom, Cond.code yX0_copyFrom cX0_copyFrom 3 none, Cond.fieldLink RX0 11 "VoiceWords$Scene" "words" "[LVoiceWords$Word;", Cond.fieldLink RX0 17 "VoiceWords$Scene" "shots" "[I", Cond.methodLink RX0 40 arraycopyName, Cond.native arraycopyName, Cond.static arraycopyName, Cond.initialized "java/lang/System", Cond.fieldLink RX0 46 "VoiceWords$Scene" "shotCount" "I", Cond.fieldLink RX0 21 "VoiceWords$Scene" "percent" "I", Cond.methodLink RX0 36 yX2_copyFrom, Cond.instanceMethod yX2_copyFrom, Cond.selects RX2 yX2_copyFrom yX2_copyFrom, Cond.initialized RX2, Cond.code yX2_copyFrom cX2_copyFrom 2 none, Cond.fieldLink RX2 9 "VoiceWords$Word" "letters" "[I", Cond.methodLink RX2 15 arraycopyName, Cond.fieldLink RX2 21 "VoiceWords$Word" "length" "I", Cond.fieldLink RX2 25 "VoiceWords$Word" "frame" "I", Cond.fieldLink RX2 28 "VoiceWords$Word" "spoken" "I"]
def wsX3_setWord_r3 : List Cond := [Cond.fieldLink RX2 31 "VoiceWords$Word" "held" "I", Cond.fieldLink RX2 34 "VoiceWords$Word" "way" "I", Cond.fieldLink RX2 37 "VoiceWords$Word" "isPut" "Z", Cond.fieldLink RX2 41 "VoiceWords$Word" "lane" "I", Cond.fieldLink RX2 44 "VoiceWords$Word" "column" "I", Cond.methodLink RX3 68 yX2_property, Cond.instanceMethod yX2_property, Cond.selects RX2 yX2_property yX2_property, Cond.code yX2_property cX2_property 2 (some .int), Cond.methodLink RX3 74 yX2_setProperty, Cond.instanceMethod yX2_setProperty, Cond.selects RX2 yX2_setProperty yX2_setProperty, Cond.code yX2_setProperty cX2_setProperty 3 none]
def wsX3_setWord : List Cond := .code yX3_setWord cX3_setWord 6 (some .int) :: ((wsX3_setWord_r1 ++ (wsX3_setWord_r2 ++ wsX3_setWord_r3)) ++ wsX30 ++ wsX00 ++ wsX20)
def wsX3_addShot_r1 : List Cond := [Cond.fieldLink RX3 10 "VoiceWords" "scene" "LVoiceWords$Scene;", Cond.fieldLink RX3 91 "VoiceWords$Scene" "shotCount" "I", Cond.methodLink RX3 34 yX3_isBetween, Cond.static yX3_isBetween, Cond.initialized RX3, Cond.code yX3_isBetween cX3_isBetween 3 (some .boolean), Cond.methodLink RX3 82 yX0_hasShotIn, Cond.instanceMethod yX0_hasShotIn, Cond.selects RX0 yX0_hasShotIn yX0_hasShotIn, Cond.initialized RX0, Cond.code yX0_hasShotIn cX0_hasShotIn 3 (some .boolean), Cond.fieldLink RX0 46 "VoiceWords$Scene" "shotCount" "I", Cond.fieldLink RX0 17 "VoiceWords$Scene" "shots" "[I", Cond.methodLink RX3 85 yX0_hasRoomForShot, Cond.instanceMethod yX0_hasRoomForShot, Cond.selects RX0 yX0_hasRoomForShot yX0_hasRoomForShot, Cond.code yX0_hasRoomForShot cX0_hasRoomForShot 1 (some .boolean), Cond.methodLink RX3 46 yX3_record, Cond.instanceMethod yX3_record, Cond.selects RX3 yX3_record yX3_record, Cond.code yX3_record cX3_record 1 none, Cond.fieldLink RX3 23 "VoiceWords" "states" "I", Cond.fieldLink RX3 19 "VoiceWords" "history" "[LVoiceWords$Scene;", Cond.methodLink RX3 202 yX3_dropOldestState]
def wsX3_addShot_r2 : List Cond := [Cond.instanceMethod yX3_dropOldestState, Cond.selects RX3 yX3_dropOldestState yX3_dropOldestState, Cond.code yX3_dropOldestState cX3_dropOldestState 3 none, Cond.methodLink RX3 107 yX0_copyFrom, Cond.instanceMethod yX0_copyFrom, Cond.selects RX0 yX0_copyFrom yX0_copyFrom, Cond.code yX0_copyFrom cX0_copyFrom 3 none, Cond.fieldLink RX0 33 "VoiceWords$Scene" "wordCount" "I", Cond.fieldLink RX0 11 "VoiceWords$Scene" "words" "[LVoiceWords$Word;", Cond.methodLink RX0 40 arraycopyName, Cond.native arraycopyName, Cond.static arraycopyName, Cond.initialized "java/lang/System", Cond.fieldLink RX0 21 "VoiceWords$Scene" "percent" "I", Cond.methodLink RX0 36 yX2_copyFrom, Cond.instanceMethod yX2_copyFrom, Cond.selects RX2 yX2_copyFrom yX2_copyFrom, Cond.initialized RX2, Cond.code yX2_copyFrom cX2_copyFrom 2 none, Cond.fieldLink RX2 9 "VoiceWords$Word" "letters" "[I", Cond.methodLink RX2 15 arraycopyName, Cond.fieldLink RX2 21 "VoiceWords$Word" "length" "I", Cond.fieldLink RX2 25 "VoiceWords$Word" "frame" "I", Cond.fieldLink RX2 28 "VoiceWords$Word" "spoken" "I"]
def wsX3_addShot_r3 : List Cond := [Cond.fieldLink RX2 31 "VoiceWords$Word" "held" "I", Cond.fieldLink RX2 34 "VoiceWords$Word" "way" "I", Cond.fieldLink RX2 37 "VoiceWords$Word" "isPut" "Z", Cond.fieldLink RX2 41 "VoiceWords$Word" "lane" "I", Cond.fieldLink RX2 44 "VoiceWords$Word" "column" "I", Cond.methodLink RX3 88 yX0_insertShot, Cond.instanceMethod yX0_insertShot, Cond.selects RX0 yX0_insertShot yX0_insertShot, Cond.code yX0_insertShot cX0_insertShot 3 none]
def wsX3_addShot : List Cond := .code yX3_addShot cX3_addShot 2 (some .int) :: ((wsX3_addShot_r1 ++ (wsX3_addShot_r2 ++ wsX3_addShot_r3)) ++ wsX30 ++ wsX00 ++ wsX20)
def wsX3_removeShot_r1 : List Cond := [Cond.fieldLink RX3 10 "VoiceWords" "scene" "LVoiceWords$Scene;", Cond.fieldLink RX3 91 "VoiceWords$Scene" "shotCount" "I", Cond.methodLink RX3 34 yX3_isBetween, Cond.static yX3_isBetween, Cond.initialized RX3, Cond.code yX3_isBetween cX3_isBetween 3 (some .boolean), Cond.methodLink RX3 82 yX0_hasShotIn, Cond.instanceMethod yX0_hasShotIn, Cond.selects RX0 yX0_hasShotIn yX0_hasShotIn, Cond.initialized RX0, Cond.code yX0_hasShotIn cX0_hasShotIn 3 (some .boolean), Cond.fieldLink RX0 46 "VoiceWords$Scene" "shotCount" "I", Cond.fieldLink RX0 17 "VoiceWords$Scene" "shots" "[I", Cond.methodLink RX3 46 yX3_record, Cond.instanceMethod yX3_record, Cond.selects RX3 yX3_record yX3_record, Cond.code yX3_record cX3_record 1 none, Cond.fieldLink RX3 23 "VoiceWords" "states" "I", Cond.fieldLink RX3 19 "VoiceWords" "history" "[LVoiceWords$Scene;", Cond.methodLink RX3 202 yX3_dropOldestState, Cond.instanceMethod yX3_dropOldestState, Cond.selects RX3 yX3_dropOldestState yX3_dropOldestState, Cond.code yX3_dropOldestState cX3_dropOldestState 3 none, Cond.methodLink RX3 107 yX0_copyFrom]
def wsX3_removeShot_r2 : List Cond := [Cond.instanceMethod yX0_copyFrom, Cond.selects RX0 yX0_copyFrom yX0_copyFrom, Cond.code yX0_copyFrom cX0_copyFrom 3 none, Cond.fieldLink RX0 33 "VoiceWords$Scene" "wordCount" "I", Cond.fieldLink RX0 11 "VoiceWords$Scene" "words" "[LVoiceWords$Word;", Cond.methodLink RX0 40 arraycopyName, Cond.native arraycopyName, Cond.static arraycopyName, Cond.initialized "java/lang/System", Cond.fieldLink RX0 21 "VoiceWords$Scene" "percent" "I", Cond.methodLink RX0 36 yX2_copyFrom, Cond.instanceMethod yX2_copyFrom, Cond.selects RX2 yX2_copyFrom yX2_copyFrom, Cond.initialized RX2, Cond.code yX2_copyFrom cX2_copyFrom 2 none, Cond.fieldLink RX2 9 "VoiceWords$Word" "letters" "[I", Cond.methodLink RX2 15 arraycopyName, Cond.fieldLink RX2 21 "VoiceWords$Word" "length" "I", Cond.fieldLink RX2 25 "VoiceWords$Word" "frame" "I", Cond.fieldLink RX2 28 "VoiceWords$Word" "spoken" "I", Cond.fieldLink RX2 31 "VoiceWords$Word" "held" "I", Cond.fieldLink RX2 34 "VoiceWords$Word" "way" "I", Cond.fieldLink RX2 37 "VoiceWords$Word" "isPut" "Z", Cond.fieldLink RX2 41 "VoiceWords$Word" "lane" "I"]
def wsX3_removeShot_r3 : List Cond := [Cond.fieldLink RX2 44 "VoiceWords$Word" "column" "I", Cond.methodLink RX3 94 yX0_deleteShot, Cond.instanceMethod yX0_deleteShot, Cond.selects RX0 yX0_deleteShot yX0_deleteShot, Cond.code yX0_deleteShot cX0_deleteShot 4 none]
def wsX3_removeShot : List Cond := .code yX3_removeShot cX3_removeShot 2 (some .int) :: ((wsX3_removeShot_r1 ++ (wsX3_removeShot_r2 ++ wsX3_removeShot_r3)) ++ wsX30 ++ wsX00 ++ wsX20)
def wsX3_setSpeed_r1 : List Cond := [Cond.fieldLink RX3 10 "VoiceWords" "scene" "LVoiceWords$Scene;", Cond.fieldLink RX3 97 "VoiceWords$Scene" "percent" "I", Cond.methodLink RX3 34 yX3_isBetween, Cond.static yX3_isBetween, Cond.initialized RX3, Cond.code yX3_isBetween cX3_isBetween 3 (some .boolean), Cond.methodLink RX3 46 yX3_record, Cond.instanceMethod yX3_record, Cond.selects RX3 yX3_record yX3_record, Cond.code yX3_record cX3_record 1 none, Cond.fieldLink RX3 23 "VoiceWords" "states" "I", Cond.fieldLink RX3 19 "VoiceWords" "history" "[LVoiceWords$Scene;", Cond.methodLink RX3 202 yX3_dropOldestState, Cond.instanceMethod yX3_dropOldestState, Cond.selects RX3 yX3_dropOldestState yX3_dropOldestState, Cond.code yX3_dropOldestState cX3_dropOldestState 3 none, Cond.methodLink RX3 107 yX0_copyFrom, Cond.instanceMethod yX0_copyFrom, Cond.selects RX0 yX0_copyFrom yX0_copyFrom, Cond.initialized RX0, Cond.code yX0_copyFrom cX0_copyFrom 3 none, Cond.fieldLink RX0 33 "VoiceWords$Scene" "wordCount" "I", Cond.fieldLink RX0 11 "VoiceWords$Scene" "words" "[LVoiceWords$Word;", Cond.fieldLink RX0 17 "VoiceWords$Scene" "shots" "[I"]
def wsX3_setSpeed_r2 : List Cond := [Cond.methodLink RX0 40 arraycopyName, Cond.native arraycopyName, Cond.static arraycopyName, Cond.initialized "java/lang/System", Cond.fieldLink RX0 46 "VoiceWords$Scene" "shotCount" "I", Cond.fieldLink RX0 21 "VoiceWords$Scene" "percent" "I", Cond.methodLink RX0 36 yX2_copyFrom, Cond.instanceMethod yX2_copyFrom, Cond.selects RX2 yX2_copyFrom yX2_copyFrom, Cond.initialized RX2, Cond.code yX2_copyFrom cX2_copyFrom 2 none, Cond.fieldLink RX2 9 "VoiceWords$Word" "letters" "[I", Cond.methodLink RX2 15 arraycopyName, Cond.fieldLink RX2 21 "VoiceWords$Word" "length" "I", Cond.fieldLink RX2 25 "VoiceWords$Word" "frame" "I", Cond.fieldLink RX2 28 "VoiceWords$Word" "spoken" "I", Cond.fieldLink RX2 31 "VoiceWords$Word" "held" "I", Cond.fieldLink RX2 34 "VoiceWords$Word" "way" "I", Cond.fieldLink RX2 37 "VoiceWords$Word" "isPut" "Z", Cond.fieldLink RX2 41 "VoiceWords$Word" "lane" "I", Cond.fieldLink RX2 44 "VoiceWords$Word" "column" "I"]
def wsX3_setSpeed : List Cond := .code yX3_setSpeed cX3_setSpeed 3 (some .int) :: ((wsX3_setSpeed_r1 ++ wsX3_setSpeed_r2) ++ wsX30 ++ wsX00 ++ wsX20)
def wsX3_append : List Cond := .code yX3_append cX3_append 2 (some .int) :: ([.fieldLink RX3 30 "VoiceWords" "text" "LVoiceWords$Text;", .fieldLink RX3 100 "VoiceWords$Text" "length" "I", .fieldLink RX3 103 "VoiceWords$Text" "characters" "[I", .methodLink RX3 34 yX3_isBetween, .static yX3_isBetween, .initialized RX3, .code yX3_isBetween cX3_isBetween 3 (some .boolean)] ++ wsX30 ++ wsX10)
def wsX3_clearText : List Cond := .code yX3_clearText cX3_clearText 2 (some .int) :: ([.fieldLink RX3 30 "VoiceWords" "text" "LVoiceWords$Text;", .fieldLink RX3 100 "VoiceWords$Text" "length" "I"] ++ wsX30 ++ wsX10)
def wsX3_load_r1 : List Cond := [Cond.fieldLink RX3 16 "VoiceWords" "draft" "LVoiceWords$Scene;", Cond.fieldLink RX3 10 "VoiceWords" "scene" "LVoiceWords$Scene;", Cond.fieldLink RX3 30 "VoiceWords" "text" "LVoiceWords$Text;", Cond.fieldLink RX3 100 "VoiceWords$Text" "length" "I", Cond.methodLink RX3 107 yX0_copyFrom, Cond.instanceMethod yX0_copyFrom, Cond.selects RX0 yX0_copyFrom yX0_copyFrom, Cond.initialized RX0, Cond.code yX0_copyFrom cX0_copyFrom 3 none, Cond.fieldLink RX0 33 "VoiceWords$Scene" "wordCount" "I", Cond.fieldLink RX0 11 "VoiceWords$Scene" "words" "[LVoiceWords$Word;", Cond.fieldLink RX0 17 "VoiceWords$Scene" "shots" "[I", Cond.methodLink RX0 40 arraycopyName, Cond.native arraycopyName, Cond.static arraycopyName, Cond.initialized "java/lang/System", Cond.fieldLink RX0 46 "VoiceWords$Scene" "shotCount" "I", Cond.fieldLink RX0 21 "VoiceWords$Scene" "percent" "I", Cond.methodLink RX0 36 yX2_copyFrom, Cond.instanceMethod yX2_copyFrom, Cond.selects RX2 yX2_copyFrom yX2_copyFrom, Cond.initialized RX2, Cond.code yX2_copyFrom cX2_copyFrom 2 none, Cond.fieldLink RX2 9 "VoiceWords$Word" "letters" "[I"]
def wsX3_load_r2 : List Cond := [Cond.methodLink RX2 15 arraycopyName, Cond.fieldLink RX2 21 "VoiceWords$Word" "length" "I", Cond.fieldLink RX2 25 "VoiceWords$Word" "frame" "I", Cond.fieldLink RX2 28 "VoiceWords$Word" "spoken" "I", Cond.fieldLink RX2 31 "VoiceWords$Word" "held" "I", Cond.fieldLink RX2 34 "VoiceWords$Word" "way" "I", Cond.fieldLink RX2 37 "VoiceWords$Word" "isPut" "Z", Cond.fieldLink RX2 41 "VoiceWords$Word" "lane" "I", Cond.fieldLink RX2 44 "VoiceWords$Word" "column" "I", Cond.methodLink RX3 111 yX1_readInto, Cond.instanceMethod yX1_readInto, Cond.selects RX1 yX1_readInto yX1_readInto, Cond.initialized RX1, Cond.code yX1_readInto cX1_readInto 3 (some .int), Cond.fieldLink RX1 15 "VoiceWords$Text" "end" "I", Cond.fieldLink RX1 22 "VoiceWords$Text" "kind" "I", Cond.fieldLink RX1 29 "VoiceWords$Text" "start" "I", Cond.methodLink RX1 19 yX1_step, Cond.instanceMethod yX1_step, Cond.selects RX1 yX1_step yX1_step, Cond.code yX1_step cX1_step 1 none, Cond.fieldLink RX1 93 "VoiceWords$Text" "length" "I", Cond.fieldLink RX1 9 "VoiceWords$Text" "characters" "[I", Cond.methodLink RX1 96 yX1_kindAt]
def wsX3_load_r3 : List Cond := [Cond.instanceMethod yX1_kindAt, Cond.selects RX1 yX1_kindAt yX1_kindAt, Cond.code yX1_kindAt cX1_kindAt 3 (some .int), Cond.methodLink RX1 25 yX1_readItem, Cond.instanceMethod yX1_readItem, Cond.selects RX1 yX1_readItem yX1_readItem, Cond.code yX1_readItem cX1_readItem 2 (some .boolean), Cond.methodLink RX1 34 yX1_isName, Cond.instanceMethod yX1_isName, Cond.selects RX1 yX1_isName yX1_isName, Cond.code yX1_isName cX1_isName 3 (some .boolean), Cond.methodLink RX1 100 yJ0_length_8abf5, Cond.instanceMethod yJ0_length_8abf5, Cond.selects RJ0 yJ0_length_8abf5 yJ0_length_8abf5, Cond.initialized RJ0, Cond.code yJ0_length_8abf5 cJ0_length_8abf5 1 (some .int), Cond.fieldLink RJ0 9 "java/lang/String" "value" "[B", Cond.methodLink RJ0 335 yJ0_coder_7d493, Cond.instanceMethod yJ0_coder_7d493, Cond.selects RJ0 yJ0_coder_7d493 yJ0_coder_7d493, Cond.code yJ0_coder_7d493 cJ0_coder_7d493 1 (some .byte), Cond.fieldLink RJ0 38 "java/lang/String" "COMPACT_STRINGS" "Z", Cond.fieldLink RJ0 15 "java/lang/String" "coder" "B", Cond.methodLink RX1 104 yJ0_charAt_5068e]
def wsX3_load_r4 : List Cond := [Cond.instanceMethod yJ0_charAt_5068e, Cond.selects RJ0 yJ0_charAt_5068e yJ0_charAt_5068e, Cond.code yJ0_charAt_5068e cJ0_charAt_5068e 2 (some .char), Cond.methodLink RJ0 492 yJ0_isLatin1_aae02, Cond.instanceMethod yJ0_isLatin1_aae02, Cond.selects RJ0 yJ0_isLatin1_aae02 yJ0_isLatin1_aae02, Cond.code yJ0_isLatin1_aae02 cJ0_isLatin1_aae02 1 (some .boolean), Cond.methodLink RJ0 495 yJ1_charAt_3b067, Cond.static yJ1_charAt_3b067, Cond.initialized RJ1, Cond.code yJ1_charAt_3b067 cJ1_charAt_3b067 2 (some .char), Cond.methodLink RJ1 9 yJ0_checkIndex_df160, Cond.static yJ0_checkIndex_df160, Cond.code yJ0_checkIndex_df160 cJ0_checkIndex_df160 2 none, Cond.fieldLink RJ0 1053 "jdk/internal/util/Preconditions" "SIOOBE_FORMATTER" "Ljava/util/function/BiFunction;", Cond.methodLink RJ0 1059 yJ3_checkIndex_8e157, Cond.static yJ3_checkIndex_8e157, Cond.initialized RJ3, Cond.code yJ3_checkIndex_8e157 cJ3_checkIndex_8e157 3 (some .int), Cond.methodLink RJ0 498 yJ2_charAt_3b067, Cond.static yJ2_charAt_3b067, Cond.initialized RJ2, Cond.code yJ2_charAt_3b067 cJ2_charAt_3b067 2 (some .char), Cond.methodLink RJ2 67 yJ2_checkIndex_2214a]
def wsX3_load_r5 : List Cond := [Cond.static yJ2_checkIndex_2214a, Cond.code yJ2_checkIndex_2214a cJ2_checkIndex_2214a 2 none, Cond.methodLink RJ2 48 yJ2_length_9d52b, Cond.static yJ2_length_9d52b, Cond.code yJ2_length_9d52b cJ2_length_9d52b 1 (some .int), Cond.methodLink RJ2 414 yJ0_checkIndex_df160, Cond.methodLink RJ2 71 yJ2_getChar_3b067, Cond.static yJ2_getChar_3b067, Cond.code yJ2_getChar_3b067 cJ2_getChar_3b067 2 (some .char), Cond.fieldLink RJ2 44 "java/lang/StringUTF16" "$assertionsDisabled" "Z", Cond.fieldLink RJ2 59 "java/lang/StringUTF16" "HI_BYTE_SHIFT" "I", Cond.fieldLink RJ2 63 "java/lang/StringUTF16" "LO_BYTE_SHIFT" "I", Cond.methodLink RX1 38 yX0_hasRoomForWord, Cond.instanceMethod yX0_hasRoomForWord, Cond.selects RX0 yX0_hasRoomForWord yX0_hasRoomForWord, Cond.code yX0_hasRoomForWord cX0_hasRoomForWord 1 (some .boolean), Cond.methodLink RX1 44 yX1_readWord, Cond.instanceMethod yX1_readWord, Cond.selects RX1 yX1_readWord yX1_readWord, Cond.code yX1_readWord cX1_readWord 9 (some .boolean), Cond.fieldLink RX1 70 "VoiceWords$Word" "letters" "[I", Cond.methodLink RX1 75 arraycopyName, Cond.methodLink RX1 55 yX1_numberOf, Cond.instanceMethod yX1_numberOf]
def wsX3_load_r6 : List Cond := [Cond.selects RX1 yX1_numberOf yX1_numberOf, Cond.code yX1_numberOf cX1_numberOf 3 (some .int), Cond.static yX3_isAllowed, Cond.initialized RX3, Cond.code yX3_isAllowed cX3_isAllowed 2 (some .boolean), Cond.methodLink RX3 34 yX3_isBetween, Cond.static yX3_isBetween, Cond.code yX3_isBetween cX3_isBetween 3 (some .boolean), Cond.methodLink RX1 63 yX1_wayOf, Cond.instanceMethod yX1_wayOf, Cond.selects RX1 yX1_wayOf yX1_wayOf, Cond.code yX1_wayOf cX1_wayOf 1 (some .int), Cond.methodLink RX1 66 yX0_appendWord, Cond.instanceMethod yX0_appendWord, Cond.selects RX0 yX0_appendWord yX0_appendWord, Cond.code yX0_appendWord cX0_appendWord 8 (some (.object "VoiceWords$Word")), Cond.fieldLink RX0 49 "VoiceWords$Word" "letters" "[I", Cond.fieldLink RX0 52 "VoiceWords$Word" "length" "I", Cond.fieldLink RX0 55 "VoiceWords$Word" "frame" "I", Cond.fieldLink RX0 58 "VoiceWords$Word" "spoken" "I", Cond.fieldLink RX0 61 "VoiceWords$Word" "held" "I", Cond.fieldLink RX0 64 "VoiceWords$Word" "way" "I", Cond.fieldLink RX0 67 "VoiceWords$Word" "isPut" "Z", Cond.methodLink RX1 49 yX0_hasRoomForShot]
def wsX3_load_r7 : List Cond := [Cond.instanceMethod yX0_hasRoomForShot, Cond.selects RX0 yX0_hasRoomForShot yX0_hasRoomForShot, Cond.code yX0_hasRoomForShot cX0_hasRoomForShot 1 (some .boolean), Cond.methodLink RX1 52 yX1_readShot, Cond.instanceMethod yX1_readShot, Cond.selects RX1 yX1_readShot yX1_readShot, Cond.code yX1_readShot cX1_readShot 3 (some .boolean), Cond.methodLink RX1 85 yX0_hasShotIn, Cond.instanceMethod yX0_hasShotIn, Cond.selects RX0 yX0_hasShotIn yX0_hasShotIn, Cond.code yX0_hasShotIn cX0_hasShotIn 3 (some .boolean), Cond.methodLink RX1 89 yX0_insertShot, Cond.instanceMethod yX0_insertShot, Cond.selects RX0 yX0_insertShot yX0_insertShot, Cond.code yX0_insertShot cX0_insertShot 3 none, Cond.methodLink RX3 46 yX3_record, Cond.instanceMethod yX3_record, Cond.selects RX3 yX3_record yX3_record, Cond.code yX3_record cX3_record 1 none, Cond.fieldLink RX3 23 "VoiceWords" "states" "I", Cond.fieldLink RX3 19 "VoiceWords" "history" "[LVoiceWords$Scene;", Cond.methodLink RX3 202 yX3_dropOldestState, Cond.instanceMethod yX3_dropOldestState, Cond.selects RX3 yX3_dropOldestState yX3_dropOldestState]
def wsX3_load_r8 : List Cond := [Cond.code yX3_dropOldestState cX3_dropOldestState 3 none]
def wsX3_load : List Cond := .code yX3_load cX3_load 2 (some .int) :: ((wsX3_load_r1 ++ (wsX3_load_r2 ++ (wsX3_load_r3 ++ (wsX3_load_r4 ++ (wsX3_load_r5 ++ (wsX3_load_r6 ++ (wsX3_load_r7 ++ wsX3_load_r8))))))) ++ wsX30 ++ wsX10 ++ wsX00 ++ wsX20)
def wsX3_isPossiblePlace : List Cond := .code yX3_isPossiblePlace cX3_isPossiblePlace 4 (some .boolean) :: ([.fieldLink RX3 10 "VoiceWords" "scene" "LVoiceWords$Scene;", .fieldLink RX3 64 "VoiceWords$Scene" "words" "[LVoiceWords$Word;", .methodLink RX3 56 yX0_hasWord, .instanceMethod yX0_hasWord, .selects RX0 yX0_hasWord yX0_hasWord, .initialized RX0, .code yX0_hasWord cX0_hasWord 2 (some .boolean), .fieldLink RX0 33 "VoiceWords$Scene" "wordCount" "I", .methodLink RX3 34 yX3_isBetween, .static yX3_isBetween, .initialized RX3, .code yX3_isBetween cX3_isBetween 3 (some .boolean), .methodLink RX3 205 yX2_lastColumn, .instanceMethod yX2_lastColumn, .selects RX2 yX2_lastColumn yX2_lastColumn, .initialized RX2, .code yX2_lastColumn cX2_lastColumn 1 (some .int), .fieldLink RX2 21 "VoiceWords$Word" "length" "I"] ++ wsX30 ++ wsX00 ++ wsX20)
def wsX3_put_r1 : List Cond := [Cond.fieldLink RX3 10 "VoiceWords" "scene" "LVoiceWords$Scene;", Cond.fieldLink RX3 64 "VoiceWords$Scene" "words" "[LVoiceWords$Word;", Cond.fieldLink RX3 118 "VoiceWords$Word" "frame" "I", Cond.methodLink RX3 115 yX3_isPossiblePlace, Cond.instanceMethod yX3_isPossiblePlace, Cond.selects RX3 yX3_isPossiblePlace yX3_isPossiblePlace, Cond.initialized RX3, Cond.code yX3_isPossiblePlace cX3_isPossiblePlace 4 (some .boolean), Cond.methodLink RX3 56 yX0_hasWord, Cond.instanceMethod yX0_hasWord, Cond.selects RX0 yX0_hasWord yX0_hasWord, Cond.initialized RX0, Cond.code yX0_hasWord cX0_hasWord 2 (some .boolean), Cond.fieldLink RX0 33 "VoiceWords$Scene" "wordCount" "I", Cond.methodLink RX3 34 yX3_isBetween, Cond.static yX3_isBetween, Cond.code yX3_isBetween cX3_isBetween 3 (some .boolean), Cond.methodLink RX3 205 yX2_lastColumn, Cond.instanceMethod yX2_lastColumn, Cond.selects RX2 yX2_lastColumn yX2_lastColumn, Cond.initialized RX2, Cond.code yX2_lastColumn cX2_lastColumn 1 (some .int), Cond.fieldLink RX2 21 "VoiceWords$Word" "length" "I", Cond.methodLink RX3 121 yX0_isFree]
def wsX3_put_r2 : List Cond := [Cond.instanceMethod yX0_isFree, Cond.selects RX0 yX0_isFree yX0_isFree, Cond.code yX0_isFree cX0_isFree 6 (some .boolean), Cond.fieldLink RX0 26 "VoiceWords$Scene" "trial" "LVoiceWords$Word;", Cond.fieldLink RX0 11 "VoiceWords$Scene" "words" "[LVoiceWords$Word;", Cond.fieldLink RX0 55 "VoiceWords$Word" "frame" "I", Cond.methodLink RX0 36 yX2_copyFrom, Cond.instanceMethod yX2_copyFrom, Cond.selects RX2 yX2_copyFrom yX2_copyFrom, Cond.code yX2_copyFrom cX2_copyFrom 2 none, Cond.fieldLink RX2 9 "VoiceWords$Word" "letters" "[I", Cond.methodLink RX2 15 arraycopyName, Cond.native arraycopyName, Cond.static arraycopyName, Cond.initialized "java/lang/System", Cond.fieldLink RX2 25 "VoiceWords$Word" "frame" "I", Cond.fieldLink RX2 28 "VoiceWords$Word" "spoken" "I", Cond.fieldLink RX2 31 "VoiceWords$Word" "held" "I", Cond.fieldLink RX2 34 "VoiceWords$Word" "way" "I", Cond.fieldLink RX2 37 "VoiceWords$Word" "isPut" "Z", Cond.fieldLink RX2 41 "VoiceWords$Word" "lane" "I", Cond.fieldLink RX2 44 "VoiceWords$Word" "column" "I", Cond.methodLink RX0 132 yX2_putAt, Cond.instanceMethod yX2_putAt]
def wsX3_put_r3 : List Cond := [Cond.selects RX2 yX2_putAt yX2_putAt, Cond.code yX2_putAt cX2_putAt 3 none, Cond.methodLink RX0 71 yX0_firstMeeting, Cond.instanceMethod yX0_firstMeeting, Cond.selects RX0 yX0_firstMeeting yX0_firstMeeting, Cond.code yX0_firstMeeting cX0_firstMeeting 7 (some .int), Cond.fieldLink RX0 67 "VoiceWords$Word" "isPut" "Z", Cond.fieldLink RX0 76 "VoiceWords$Word" "lane" "I", Cond.methodLink RX0 120 Lib.Math.max.name, Cond.static Lib.Math.max.name, Cond.initialized "java/lang/Math", Cond.code Lib.Math.max.name Lib.Math.max.code 2 (some .int), Cond.methodLink RX0 97 Lib.Math.min.name, Cond.static Lib.Math.min.name, Cond.code Lib.Math.min.name Lib.Math.min.code 2 (some .int), Cond.methodLink RX0 124 yX2_keepsLane, Cond.instanceMethod yX2_keepsLane, Cond.selects RX2 yX2_keepsLane yX2_keepsLane, Cond.code yX2_keepsLane cX2_keepsLane 1 (some .boolean), Cond.methodLink RX0 106 yX0_goneFrom, Cond.instanceMethod yX0_goneFrom, Cond.selects RX0 yX0_goneFrom yX0_goneFrom, Cond.code yX0_goneFrom cX0_goneFrom 4 (some .int), Cond.fieldLink RX0 64 "VoiceWords$Word" "way" "I"]
def wsX3_put_r4 : List Cond := [Cond.fieldLink RX0 46 "VoiceWords$Scene" "shotCount" "I", Cond.fieldLink RX0 17 "VoiceWords$Scene" "shots" "[I", Cond.methodLink RX0 89 yX2_leavesIn, Cond.instanceMethod yX2_leavesIn, Cond.selects RX2 yX2_leavesIn yX2_leavesIn, Cond.code yX2_leavesIn cX2_leavesIn 1 (some .int), Cond.methodLink RX0 93 yX0_stepsToLeave, Cond.instanceMethod yX0_stepsToLeave, Cond.selects RX0 yX0_stepsToLeave yX0_stepsToLeave, Cond.code yX0_stepsToLeave cX0_stepsToLeave 4 (some .int), Cond.methodLink RX0 103 yX2_cellsToLeave, Cond.instanceMethod yX2_cellsToLeave, Cond.selects RX2 yX2_cellsToLeave yX2_cellsToLeave, Cond.code yX2_cellsToLeave cX2_cellsToLeave 1 (some .int), Cond.methodLink RX0 83 yX0_cellsMoved, Cond.instanceMethod yX0_cellsMoved, Cond.selects RX0 yX0_cellsMoved yX0_cellsMoved, Cond.code yX0_cellsMoved cX0_cellsMoved 3 (some .int), Cond.fieldLink RX0 21 "VoiceWords$Scene" "percent" "I", Cond.constantFloat RX0 75 (1120403456), Cond.methodLink RX0 128 yX0_shareCell, Cond.instanceMethod yX0_shareCell, Cond.selects RX0 yX0_shareCell yX0_shareCell, Cond.code yX0_shareCell cX0_shareCell 8 (some .boolean)]
def wsX3_put_r5 : List Cond := [Cond.fieldLink RX0 52 "VoiceWords$Word" "length" "I", Cond.methodLink RX0 113 yX0_rowOf, Cond.instanceMethod yX0_rowOf, Cond.selects RX0 yX0_rowOf yX0_rowOf, Cond.code yX0_rowOf cX0_rowOf 3 (some .int), Cond.methodLink RX0 79 yX2_stepsIn, Cond.instanceMethod yX2_stepsIn, Cond.selects RX2 yX2_stepsIn yX2_stepsIn, Cond.code yX2_stepsIn cX2_stepsIn 2 (some .int), Cond.methodLink RX0 117 yX0_columnOf, Cond.instanceMethod yX0_columnOf, Cond.selects RX0 yX0_columnOf yX0_columnOf, Cond.code yX0_columnOf cX0_columnOf 3 (some .int), Cond.fieldLink RX0 86 "VoiceWords$Word" "column" "I", Cond.methodLink RX3 46 yX3_record, Cond.instanceMethod yX3_record, Cond.selects RX3 yX3_record yX3_record, Cond.code yX3_record cX3_record 1 none, Cond.fieldLink RX3 23 "VoiceWords" "states" "I", Cond.fieldLink RX3 19 "VoiceWords" "history" "[LVoiceWords$Scene;", Cond.methodLink RX3 202 yX3_dropOldestState, Cond.instanceMethod yX3_dropOldestState, Cond.selects RX3 yX3_dropOldestState yX3_dropOldestState, Cond.code yX3_dropOldestState cX3_dropOldestState 3 none]
def wsX3_put_r6 : List Cond := [Cond.methodLink RX3 107 yX0_copyFrom, Cond.instanceMethod yX0_copyFrom, Cond.selects RX0 yX0_copyFrom yX0_copyFrom, Cond.code yX0_copyFrom cX0_copyFrom 3 none, Cond.methodLink RX0 40 arraycopyName, Cond.methodLink RX3 125 yX2_putAt, Cond.methodLink RX3 128 yX0_countPut, Cond.instanceMethod yX0_countPut, Cond.selects RX0 yX0_countPut yX0_countPut, Cond.code yX0_countPut cX0_countPut 3 (some .int)]
def wsX3_put : List Cond := .code yX3_put cX3_put 5 (some .int) :: ((wsX3_put_r1 ++ (wsX3_put_r2 ++ (wsX3_put_r3 ++ (wsX3_put_r4 ++ (wsX3_put_r5 ++ wsX3_put_r6))))) ++ wsX30 ++ wsX00 ++ wsX20)
def wsX3_take_r1 : List Cond := [Cond.fieldLink RX3 10 "VoiceWords" "scene" "LVoiceWords$Scene;", Cond.fieldLink RX3 64 "VoiceWords$Scene" "words" "[LVoiceWords$Word;", Cond.fieldLink RX3 78 "VoiceWords$Word" "isPut" "Z", Cond.methodLink RX3 56 yX0_hasWord, Cond.instanceMethod yX0_hasWord, Cond.selects RX0 yX0_hasWord yX0_hasWord, Cond.initialized RX0, Cond.code yX0_hasWord cX0_hasWord 2 (some .boolean), Cond.fieldLink RX0 33 "VoiceWords$Scene" "wordCount" "I", Cond.methodLink RX3 46 yX3_record, Cond.instanceMethod yX3_record, Cond.selects RX3 yX3_record yX3_record, Cond.initialized RX3, Cond.code yX3_record cX3_record 1 none, Cond.fieldLink RX3 23 "VoiceWords" "states" "I", Cond.fieldLink RX3 19 "VoiceWords" "history" "[LVoiceWords$Scene;", Cond.methodLink RX3 202 yX3_dropOldestState, Cond.instanceMethod yX3_dropOldestState, Cond.selects RX3 yX3_dropOldestState yX3_dropOldestState, Cond.code yX3_dropOldestState cX3_dropOldestState 3 none, Cond.methodLink RX3 107 yX0_copyFrom, Cond.instanceMethod yX0_copyFrom, Cond.selects RX0 yX0_copyFrom yX0_copyFrom, Cond.code yX0_copyFrom cX0_copyFrom 3 none]
def wsX3_take_r2 : List Cond := [Cond.fieldLink RX0 11 "VoiceWords$Scene" "words" "[LVoiceWords$Word;", Cond.fieldLink RX0 17 "VoiceWords$Scene" "shots" "[I", Cond.methodLink RX0 40 arraycopyName, Cond.native arraycopyName, Cond.static arraycopyName, Cond.initialized "java/lang/System", Cond.fieldLink RX0 46 "VoiceWords$Scene" "shotCount" "I", Cond.fieldLink RX0 21 "VoiceWords$Scene" "percent" "I", Cond.methodLink RX0 36 yX2_copyFrom, Cond.instanceMethod yX2_copyFrom, Cond.selects RX2 yX2_copyFrom yX2_copyFrom, Cond.initialized RX2, Cond.code yX2_copyFrom cX2_copyFrom 2 none, Cond.fieldLink RX2 9 "VoiceWords$Word" "letters" "[I", Cond.methodLink RX2 15 arraycopyName, Cond.fieldLink RX2 21 "VoiceWords$Word" "length" "I", Cond.fieldLink RX2 25 "VoiceWords$Word" "frame" "I", Cond.fieldLink RX2 28 "VoiceWords$Word" "spoken" "I", Cond.fieldLink RX2 31 "VoiceWords$Word" "held" "I", Cond.fieldLink RX2 34 "VoiceWords$Word" "way" "I", Cond.fieldLink RX2 37 "VoiceWords$Word" "isPut" "Z", Cond.fieldLink RX2 41 "VoiceWords$Word" "lane" "I", Cond.fieldLink RX2 44 "VoiceWords$Word" "column" "I", Cond.methodLink RX3 128 yX0_countPut]
def wsX3_take_r3 : List Cond := [Cond.instanceMethod yX0_countPut, Cond.selects RX0 yX0_countPut yX0_countPut, Cond.code yX0_countPut cX0_countPut 3 (some .int), Cond.fieldLink RX0 67 "VoiceWords$Word" "isPut" "Z"]
def wsX3_take : List Cond := .code yX3_take cX3_take 2 (some .int) :: ((wsX3_take_r1 ++ (wsX3_take_r2 ++ wsX3_take_r3)) ++ wsX30 ++ wsX00 ++ wsX20)
def wsX3_putAll_r1 : List Cond := [Cond.fieldLink RX3 10 "VoiceWords" "scene" "LVoiceWords$Scene;", Cond.fieldLink RX3 53 "VoiceWords$Scene" "wordCount" "I", Cond.fieldLink RX3 138 "VoiceWords$Scene" "order" "[I", Cond.methodLink RX3 46 yX3_record, Cond.instanceMethod yX3_record, Cond.selects RX3 yX3_record yX3_record, Cond.initialized RX3, Cond.code yX3_record cX3_record 1 none, Cond.fieldLink RX3 23 "VoiceWords" "states" "I", Cond.fieldLink RX3 19 "VoiceWords" "history" "[LVoiceWords$Scene;", Cond.methodLink RX3 202 yX3_dropOldestState, Cond.instanceMethod yX3_dropOldestState, Cond.selects RX3 yX3_dropOldestState yX3_dropOldestState, Cond.code yX3_dropOldestState cX3_dropOldestState 3 none, Cond.methodLink RX3 107 yX0_copyFrom, Cond.instanceMethod yX0_copyFrom, Cond.selects RX0 yX0_copyFrom yX0_copyFrom, Cond.initialized RX0, Cond.code yX0_copyFrom cX0_copyFrom 3 none, Cond.fieldLink RX0 33 "VoiceWords$Scene" "wordCount" "I", Cond.fieldLink RX0 11 "VoiceWords$Scene" "words" "[LVoiceWords$Word;", Cond.fieldLink RX0 17 "VoiceWords$Scene" "shots" "[I", Cond.methodLink RX0 40 arraycopyName, Cond.native arraycopyName]
def wsX3_putAll_r2 : List Cond := [Cond.static arraycopyName, Cond.initialized "java/lang/System", Cond.fieldLink RX0 46 "VoiceWords$Scene" "shotCount" "I", Cond.fieldLink RX0 21 "VoiceWords$Scene" "percent" "I", Cond.methodLink RX0 36 yX2_copyFrom, Cond.instanceMethod yX2_copyFrom, Cond.selects RX2 yX2_copyFrom yX2_copyFrom, Cond.initialized RX2, Cond.code yX2_copyFrom cX2_copyFrom 2 none, Cond.fieldLink RX2 9 "VoiceWords$Word" "letters" "[I", Cond.methodLink RX2 15 arraycopyName, Cond.fieldLink RX2 21 "VoiceWords$Word" "length" "I", Cond.fieldLink RX2 25 "VoiceWords$Word" "frame" "I", Cond.fieldLink RX2 28 "VoiceWords$Word" "spoken" "I", Cond.fieldLink RX2 31 "VoiceWords$Word" "held" "I", Cond.fieldLink RX2 34 "VoiceWords$Word" "way" "I", Cond.fieldLink RX2 37 "VoiceWords$Word" "isPut" "Z", Cond.fieldLink RX2 41 "VoiceWords$Word" "lane" "I", Cond.fieldLink RX2 44 "VoiceWords$Word" "column" "I", Cond.methodLink RX3 132 yX0_takeAllWords, Cond.instanceMethod yX0_takeAllWords, Cond.selects RX0 yX0_takeAllWords yX0_takeAllWords, Cond.code yX0_takeAllWords cX0_takeAllWords 2 none, Cond.fieldLink RX0 67 "VoiceWords$Word" "isPut" "Z"]
def wsX3_putAll_r3 : List Cond := [Cond.methodLink RX3 135 yX0_sortForPutting, Cond.instanceMethod yX0_sortForPutting, Cond.selects RX0 yX0_sortForPutting yX0_sortForPutting, Cond.code yX0_sortForPutting cX0_sortForPutting 3 none, Cond.fieldLink RX0 30 "VoiceWords$Scene" "order" "[I", Cond.methodLink RX0 136 yX0_comesBefore, Cond.static yX0_comesBefore, Cond.code yX0_comesBefore cX0_comesBefore 2 (some .boolean), Cond.fieldLink RX0 55 "VoiceWords$Word" "frame" "I", Cond.fieldLink RX0 52 "VoiceWords$Word" "length" "I", Cond.methodLink RX3 141 yX0_putAtFirstPlace, Cond.instanceMethod yX0_putAtFirstPlace, Cond.selects RX0 yX0_putAtFirstPlace yX0_putAtFirstPlace, Cond.code yX0_putAtFirstPlace cX0_putAtFirstPlace 8 none, Cond.methodLink RX0 140 yX2_lastColumn, Cond.instanceMethod yX2_lastColumn, Cond.selects RX2 yX2_lastColumn yX2_lastColumn, Cond.code yX2_lastColumn cX2_lastColumn 1 (some .int), Cond.methodLink RX0 146 yX0_isFree, Cond.instanceMethod yX0_isFree, Cond.selects RX0 yX0_isFree yX0_isFree, Cond.code yX0_isFree cX0_isFree 6 (some .boolean), Cond.fieldLink RX0 26 "VoiceWords$Scene" "trial" "LVoiceWords$Word;", Cond.methodLink RX0 132 yX2_putAt]
def wsX3_putAll_r4 : List Cond := [Cond.instanceMethod yX2_putAt, Cond.selects RX2 yX2_putAt yX2_putAt, Cond.code yX2_putAt cX2_putAt 3 none, Cond.methodLink RX0 71 yX0_firstMeeting, Cond.instanceMethod yX0_firstMeeting, Cond.selects RX0 yX0_firstMeeting yX0_firstMeeting, Cond.code yX0_firstMeeting cX0_firstMeeting 7 (some .int), Cond.fieldLink RX0 76 "VoiceWords$Word" "lane" "I", Cond.methodLink RX0 120 Lib.Math.max.name, Cond.static Lib.Math.max.name, Cond.initialized "java/lang/Math", Cond.code Lib.Math.max.name Lib.Math.max.code 2 (some .int), Cond.methodLink RX0 97 Lib.Math.min.name, Cond.static Lib.Math.min.name, Cond.code Lib.Math.min.name Lib.Math.min.code 2 (some .int), Cond.methodLink RX0 124 yX2_keepsLane, Cond.instanceMethod yX2_keepsLane, Cond.selects RX2 yX2_keepsLane yX2_keepsLane, Cond.code yX2_keepsLane cX2_keepsLane 1 (some .boolean), Cond.methodLink RX0 106 yX0_goneFrom, Cond.instanceMethod yX0_goneFrom, Cond.selects RX0 yX0_goneFrom yX0_goneFrom, Cond.code yX0_goneFrom cX0_goneFrom 4 (some .int), Cond.fieldLink RX0 64 "VoiceWords$Word" "way" "I"]
def wsX3_putAll_r5 : List Cond := [Cond.methodLink RX0 89 yX2_leavesIn, Cond.instanceMethod yX2_leavesIn, Cond.selects RX2 yX2_leavesIn yX2_leavesIn, Cond.code yX2_leavesIn cX2_leavesIn 1 (some .int), Cond.methodLink RX0 93 yX0_stepsToLeave, Cond.instanceMethod yX0_stepsToLeave, Cond.selects RX0 yX0_stepsToLeave yX0_stepsToLeave, Cond.code yX0_stepsToLeave cX0_stepsToLeave 4 (some .int), Cond.methodLink RX0 103 yX2_cellsToLeave, Cond.instanceMethod yX2_cellsToLeave, Cond.selects RX2 yX2_cellsToLeave yX2_cellsToLeave, Cond.code yX2_cellsToLeave cX2_cellsToLeave 1 (some .int), Cond.methodLink RX0 83 yX0_cellsMoved, Cond.instanceMethod yX0_cellsMoved, Cond.selects RX0 yX0_cellsMoved yX0_cellsMoved, Cond.code yX0_cellsMoved cX0_cellsMoved 3 (some .int), Cond.constantFloat RX0 75 (1120403456), Cond.methodLink RX0 128 yX0_shareCell, Cond.instanceMethod yX0_shareCell, Cond.selects RX0 yX0_shareCell yX0_shareCell, Cond.code yX0_shareCell cX0_shareCell 8 (some .boolean), Cond.methodLink RX0 113 yX0_rowOf, Cond.instanceMethod yX0_rowOf, Cond.selects RX0 yX0_rowOf yX0_rowOf]
def wsX3_putAll_r6 : List Cond := [Cond.code yX0_rowOf cX0_rowOf 3 (some .int), Cond.methodLink RX0 79 yX2_stepsIn, Cond.instanceMethod yX2_stepsIn, Cond.selects RX2 yX2_stepsIn yX2_stepsIn, Cond.code yX2_stepsIn cX2_stepsIn 2 (some .int), Cond.methodLink RX0 117 yX0_columnOf, Cond.instanceMethod yX0_columnOf, Cond.selects RX0 yX0_columnOf yX0_columnOf, Cond.code yX0_columnOf cX0_columnOf 3 (some .int), Cond.fieldLink RX0 86 "VoiceWords$Word" "column" "I", Cond.methodLink RX3 128 yX0_countPut, Cond.instanceMethod yX0_countPut, Cond.selects RX0 yX0_countPut yX0_countPut, Cond.code yX0_countPut cX0_countPut 3 (some .int)]
def wsX3_putAll : List Cond := .code yX3_putAll cX3_putAll 2 (some .int) :: ((wsX3_putAll_r1 ++ (wsX3_putAll_r2 ++ (wsX3_putAll_r3 ++ (wsX3_putAll_r4 ++ (wsX3_putAll_r5 ++ wsX3_putAll_r6))))) ++ wsX30 ++ wsX00 ++ wsX20)
def wsX3_undo_r1 : List Cond := [Cond.fieldLink RX3 23 "VoiceWords" "states" "I", Cond.fieldLink RX3 10 "VoiceWords" "scene" "LVoiceWords$Scene;", Cond.fieldLink RX3 19 "VoiceWords" "history" "[LVoiceWords$Scene;", Cond.methodLink RX3 107 yX0_copyFrom, Cond.instanceMethod yX0_copyFrom, Cond.selects RX0 yX0_copyFrom yX0_copyFrom, Cond.initialized RX0, Cond.code yX0_copyFrom cX0_copyFrom 3 none, Cond.fieldLink RX0 33 "VoiceWords$Scene" "wordCount" "I", Cond.fieldLink RX0 11 "VoiceWords$Scene" "words" "[LVoiceWords$Word;", Cond.fieldLink RX0 17 "VoiceWords$Scene" "shots" "[I", Cond.methodLink RX0 40 arraycopyName, Cond.native arraycopyName, Cond.static arraycopyName, Cond.initialized "java/lang/System", Cond.fieldLink RX0 46 "VoiceWords$Scene" "shotCount" "I", Cond.fieldLink RX0 21 "VoiceWords$Scene" "percent" "I", Cond.methodLink RX0 36 yX2_copyFrom, Cond.instanceMethod yX2_copyFrom, Cond.selects RX2 yX2_copyFrom yX2_copyFrom, Cond.initialized RX2, Cond.code yX2_copyFrom cX2_copyFrom 2 none, Cond.fieldLink RX2 9 "VoiceWords$Word" "letters" "[I", Cond.methodLink RX2 15 arraycopyName]
def wsX3_undo_r2 : List Cond := [Cond.fieldLink RX2 21 "VoiceWords$Word" "length" "I", Cond.fieldLink RX2 25 "VoiceWords$Word" "frame" "I", Cond.fieldLink RX2 28 "VoiceWords$Word" "spoken" "I", Cond.fieldLink RX2 31 "VoiceWords$Word" "held" "I", Cond.fieldLink RX2 34 "VoiceWords$Word" "way" "I", Cond.fieldLink RX2 37 "VoiceWords$Word" "isPut" "Z", Cond.fieldLink RX2 41 "VoiceWords$Word" "lane" "I", Cond.fieldLink RX2 44 "VoiceWords$Word" "column" "I"]
def wsX3_undo : List Cond := .code yX3_undo cX3_undo 1 (some .int) :: ((wsX3_undo_r1 ++ wsX3_undo_r2) ++ wsX30 ++ wsX00 ++ wsX20)
def wsX3_count_r1 : List Cond := [Cond.fieldLink RX3 10 "VoiceWords" "scene" "LVoiceWords$Scene;", Cond.fieldLink RX3 53 "VoiceWords$Scene" "wordCount" "I", Cond.fieldLink RX3 91 "VoiceWords$Scene" "shotCount" "I", Cond.fieldLink RX3 97 "VoiceWords$Scene" "percent" "I", Cond.fieldLink RX3 23 "VoiceWords" "states" "I", Cond.fieldLink RX3 30 "VoiceWords" "text" "LVoiceWords$Text;", Cond.fieldLink RX3 100 "VoiceWords$Text" "length" "I", Cond.methodLink RX3 128 yX0_countPut, Cond.instanceMethod yX0_countPut, Cond.selects RX0 yX0_countPut yX0_countPut, Cond.initialized RX0, Cond.code yX0_countPut cX0_countPut 3 (some .int), Cond.fieldLink RX0 33 "VoiceWords$Scene" "wordCount" "I", Cond.fieldLink RX0 11 "VoiceWords$Scene" "words" "[LVoiceWords$Word;", Cond.fieldLink RX0 67 "VoiceWords$Word" "isPut" "Z", Cond.methodLink RX3 144 yX0_countMeetingPairs, Cond.instanceMethod yX0_countMeetingPairs, Cond.selects RX0 yX0_countMeetingPairs yX0_countMeetingPairs, Cond.code yX0_countMeetingPairs cX0_countMeetingPairs 4 (some .int), Cond.methodLink RX0 71 yX0_firstMeeting, Cond.instanceMethod yX0_firstMeeting, Cond.selects RX0 yX0_firstMeeting yX0_firstMeeting, Cond.code yX0_firstMeeting cX0_firstMeeting 7 (some .int), Cond.fieldLink RX0 76 "VoiceWords$Word" "lane" "I"]
def wsX3_count_r2 : List Cond := [Cond.fieldLink RX0 55 "VoiceWords$Word" "frame" "I", Cond.methodLink RX0 120 Lib.Math.max.name, Cond.static Lib.Math.max.name, Cond.initialized "java/lang/Math", Cond.code Lib.Math.max.name Lib.Math.max.code 2 (some .int), Cond.methodLink RX0 97 Lib.Math.min.name, Cond.static Lib.Math.min.name, Cond.code Lib.Math.min.name Lib.Math.min.code 2 (some .int), Cond.methodLink RX0 124 yX2_keepsLane, Cond.instanceMethod yX2_keepsLane, Cond.selects RX2 yX2_keepsLane yX2_keepsLane, Cond.initialized RX2, Cond.code yX2_keepsLane cX2_keepsLane 1 (some .boolean), Cond.fieldLink RX2 34 "VoiceWords$Word" "way" "I", Cond.methodLink RX0 106 yX0_goneFrom, Cond.instanceMethod yX0_goneFrom, Cond.selects RX0 yX0_goneFrom yX0_goneFrom, Cond.code yX0_goneFrom cX0_goneFrom 4 (some .int), Cond.fieldLink RX0 64 "VoiceWords$Word" "way" "I", Cond.fieldLink RX0 46 "VoiceWords$Scene" "shotCount" "I", Cond.fieldLink RX0 17 "VoiceWords$Scene" "shots" "[I", Cond.methodLink RX0 89 yX2_leavesIn, Cond.instanceMethod yX2_leavesIn, Cond.selects RX2 yX2_leavesIn yX2_leavesIn]
def wsX3_count_r3 : List Cond := [Cond.code yX2_leavesIn cX2_leavesIn 1 (some .int), Cond.fieldLink RX2 25 "VoiceWords$Word" "frame" "I", Cond.fieldLink RX2 28 "VoiceWords$Word" "spoken" "I", Cond.fieldLink RX2 31 "VoiceWords$Word" "held" "I", Cond.methodLink RX0 93 yX0_stepsToLeave, Cond.instanceMethod yX0_stepsToLeave, Cond.selects RX0 yX0_stepsToLeave yX0_stepsToLeave, Cond.code yX0_stepsToLeave cX0_stepsToLeave 4 (some .int), Cond.methodLink RX0 103 yX2_cellsToLeave, Cond.instanceMethod yX2_cellsToLeave, Cond.selects RX2 yX2_cellsToLeave yX2_cellsToLeave, Cond.code yX2_cellsToLeave cX2_cellsToLeave 1 (some .int), Cond.fieldLink RX2 44 "VoiceWords$Word" "column" "I", Cond.fieldLink RX2 21 "VoiceWords$Word" "length" "I", Cond.fieldLink RX2 41 "VoiceWords$Word" "lane" "I", Cond.methodLink RX0 83 yX0_cellsMoved, Cond.instanceMethod yX0_cellsMoved, Cond.selects RX0 yX0_cellsMoved yX0_cellsMoved, Cond.code yX0_cellsMoved cX0_cellsMoved 3 (some .int), Cond.fieldLink RX0 21 "VoiceWords$Scene" "percent" "I", Cond.constantFloat RX0 75 (1120403456), Cond.methodLink RX0 128 yX0_shareCell, Cond.instanceMethod yX0_shareCell, Cond.selects RX0 yX0_shareCell yX0_shareCell]
def wsX3_count_r4 : List Cond := [Cond.code yX0_shareCell cX0_shareCell 8 (some .boolean), Cond.fieldLink RX0 52 "VoiceWords$Word" "length" "I", Cond.methodLink RX0 113 yX0_rowOf, Cond.instanceMethod yX0_rowOf, Cond.selects RX0 yX0_rowOf yX0_rowOf, Cond.code yX0_rowOf cX0_rowOf 3 (some .int), Cond.methodLink RX0 79 yX2_stepsIn, Cond.instanceMethod yX2_stepsIn, Cond.selects RX2 yX2_stepsIn yX2_stepsIn, Cond.code yX2_stepsIn cX2_stepsIn 2 (some .int), Cond.methodLink RX0 117 yX0_columnOf, Cond.instanceMethod yX0_columnOf, Cond.selects RX0 yX0_columnOf yX0_columnOf, Cond.code yX0_columnOf cX0_columnOf 3 (some .int), Cond.fieldLink RX0 86 "VoiceWords$Word" "column" "I"]
def wsX3_count : List Cond := .code yX3_count cX3_count 2 (some .int) :: ((wsX3_count_r1 ++ (wsX3_count_r2 ++ (wsX3_count_r3 ++ wsX3_count_r4))) ++ wsX30 ++ wsX00 ++ wsX10 ++ wsX20)
def wsX3_word_r1 : List Cond := [Cond.fieldLink RX3 10 "VoiceWords" "scene" "LVoiceWords$Scene;", Cond.fieldLink RX3 64 "VoiceWords$Scene" "words" "[LVoiceWords$Word;", Cond.fieldLink RX3 147 "VoiceWords$Word" "length" "I", Cond.fieldLink RX3 78 "VoiceWords$Word" "isPut" "Z", Cond.fieldLink RX3 148 "VoiceWords$Word" "lane" "I", Cond.fieldLink RX3 151 "VoiceWords$Word" "column" "I", Cond.methodLink RX3 56 yX0_hasWord, Cond.instanceMethod yX0_hasWord, Cond.selects RX0 yX0_hasWord yX0_hasWord, Cond.initialized RX0, Cond.code yX0_hasWord cX0_hasWord 2 (some .boolean), Cond.fieldLink RX0 33 "VoiceWords$Scene" "wordCount" "I", Cond.methodLink RX3 34 yX3_isBetween, Cond.static yX3_isBetween, Cond.initialized RX3, Cond.code yX3_isBetween cX3_isBetween 3 (some .boolean), Cond.methodLink RX3 68 yX2_property, Cond.instanceMethod yX2_property, Cond.selects RX2 yX2_property yX2_property, Cond.initialized RX2, Cond.code yX2_property cX2_property 2 (some .int), Cond.fieldLink RX2 25 "VoiceWords$Word" "frame" "I", Cond.fieldLink RX2 28 "VoiceWords$Word" "spoken" "I", Cond.fieldLink RX2 31 "VoiceWords$Word" "held" "I"]
def wsX3_word_r2 : List Cond := [Cond.fieldLink RX2 34 "VoiceWords$Word" "way" "I", Cond.methodLink RX3 154 yX0_goneFrom, Cond.instanceMethod yX0_goneFrom, Cond.selects RX0 yX0_goneFrom yX0_goneFrom, Cond.code yX0_goneFrom cX0_goneFrom 4 (some .int), Cond.fieldLink RX0 64 "VoiceWords$Word" "way" "I", Cond.fieldLink RX0 46 "VoiceWords$Scene" "shotCount" "I", Cond.fieldLink RX0 17 "VoiceWords$Scene" "shots" "[I", Cond.fieldLink RX0 55 "VoiceWords$Word" "frame" "I", Cond.methodLink RX0 97 Lib.Math.min.name, Cond.static Lib.Math.min.name, Cond.initialized "java/lang/Math", Cond.code Lib.Math.min.name Lib.Math.min.code 2 (some .int), Cond.methodLink RX0 89 yX2_leavesIn, Cond.instanceMethod yX2_leavesIn, Cond.selects RX2 yX2_leavesIn yX2_leavesIn, Cond.code yX2_leavesIn cX2_leavesIn 1 (some .int), Cond.methodLink RX0 93 yX0_stepsToLeave, Cond.instanceMethod yX0_stepsToLeave, Cond.selects RX0 yX0_stepsToLeave yX0_stepsToLeave, Cond.code yX0_stepsToLeave cX0_stepsToLeave 4 (some .int), Cond.methodLink RX0 103 yX2_cellsToLeave, Cond.instanceMethod yX2_cellsToLeave, Cond.selects RX2 yX2_cellsToLeave yX2_cellsToLeave]
def wsX3_word_r3 : List Cond := [Cond.code yX2_cellsToLeave cX2_cellsToLeave 1 (some .int), Cond.fieldLink RX2 44 "VoiceWords$Word" "column" "I", Cond.fieldLink RX2 21 "VoiceWords$Word" "length" "I", Cond.fieldLink RX2 41 "VoiceWords$Word" "lane" "I", Cond.methodLink RX0 83 yX0_cellsMoved, Cond.instanceMethod yX0_cellsMoved, Cond.selects RX0 yX0_cellsMoved yX0_cellsMoved, Cond.code yX0_cellsMoved cX0_cellsMoved 3 (some .int), Cond.fieldLink RX0 21 "VoiceWords$Scene" "percent" "I", Cond.constantFloat RX0 75 (1120403456)]
def wsX3_word : List Cond := .code yX3_word cX3_word 4 (some .int) :: ((wsX3_word_r1 ++ (wsX3_word_r2 ++ wsX3_word_r3)) ++ wsX30 ++ wsX00 ++ wsX20)
def wsX3_letter : List Cond := .code yX3_letter cX3_letter 4 (some .int) :: ([.fieldLink RX3 10 "VoiceWords" "scene" "LVoiceWords$Scene;", .fieldLink RX3 64 "VoiceWords$Scene" "words" "[LVoiceWords$Word;", .fieldLink RX3 147 "VoiceWords$Word" "length" "I", .fieldLink RX3 158 "VoiceWords$Word" "letters" "[I", .methodLink RX3 56 yX0_hasWord, .instanceMethod yX0_hasWord, .selects RX0 yX0_hasWord yX0_hasWord, .initialized RX0, .code yX0_hasWord cX0_hasWord 2 (some .boolean), .fieldLink RX0 33 "VoiceWords$Scene" "wordCount" "I"] ++ wsX30 ++ wsX00 ++ wsX20)
def wsX3_shot : List Cond := .code yX3_shot cX3_shot 2 (some .int) :: ([.fieldLink RX3 10 "VoiceWords" "scene" "LVoiceWords$Scene;", .fieldLink RX3 91 "VoiceWords$Scene" "shotCount" "I", .fieldLink RX3 161 "VoiceWords$Scene" "shots" "[I"] ++ wsX30 ++ wsX00)
def wsX3_isAskedFrame : List Cond := .code yX3_isAskedFrame cX3_isAskedFrame 1 (some .boolean) :: ([.methodLink RX3 34 yX3_isBetween, .static yX3_isBetween, .initialized RX3, .code yX3_isBetween cX3_isBetween 3 (some .boolean)])
def wsX3_where_r1 : List Cond := [Cond.fieldLink RX3 10 "VoiceWords" "scene" "LVoiceWords$Scene;", Cond.fieldLink RX3 64 "VoiceWords$Scene" "words" "[LVoiceWords$Word;", Cond.methodLink RX3 56 yX0_hasWord, Cond.instanceMethod yX0_hasWord, Cond.selects RX0 yX0_hasWord yX0_hasWord, Cond.initialized RX0, Cond.code yX0_hasWord cX0_hasWord 2 (some .boolean), Cond.fieldLink RX0 33 "VoiceWords$Scene" "wordCount" "I", Cond.methodLink RX3 164 yX3_isAskedFrame, Cond.static yX3_isAskedFrame, Cond.initialized RX3, Cond.code yX3_isAskedFrame cX3_isAskedFrame 1 (some .boolean), Cond.methodLink RX3 34 yX3_isBetween, Cond.static yX3_isBetween, Cond.code yX3_isBetween cX3_isBetween 3 (some .boolean), Cond.methodLink RX3 167 yX0_isVisible, Cond.instanceMethod yX0_isVisible, Cond.selects RX0 yX0_isVisible yX0_isVisible, Cond.code yX0_isVisible cX0_isVisible 3 (some .boolean), Cond.fieldLink RX0 67 "VoiceWords$Word" "isPut" "Z", Cond.fieldLink RX0 55 "VoiceWords$Word" "frame" "I", Cond.methodLink RX0 106 yX0_goneFrom, Cond.instanceMethod yX0_goneFrom, Cond.selects RX0 yX0_goneFrom yX0_goneFrom]
def wsX3_where_r2 : List Cond := [Cond.code yX0_goneFrom cX0_goneFrom 4 (some .int), Cond.fieldLink RX0 64 "VoiceWords$Word" "way" "I", Cond.fieldLink RX0 46 "VoiceWords$Scene" "shotCount" "I", Cond.fieldLink RX0 17 "VoiceWords$Scene" "shots" "[I", Cond.methodLink RX0 97 Lib.Math.min.name, Cond.static Lib.Math.min.name, Cond.initialized "java/lang/Math", Cond.code Lib.Math.min.name Lib.Math.min.code 2 (some .int), Cond.methodLink RX0 89 yX2_leavesIn, Cond.instanceMethod yX2_leavesIn, Cond.selects RX2 yX2_leavesIn yX2_leavesIn, Cond.initialized RX2, Cond.code yX2_leavesIn cX2_leavesIn 1 (some .int), Cond.fieldLink RX2 25 "VoiceWords$Word" "frame" "I", Cond.fieldLink RX2 28 "VoiceWords$Word" "spoken" "I", Cond.fieldLink RX2 31 "VoiceWords$Word" "held" "I", Cond.methodLink RX0 93 yX0_stepsToLeave, Cond.instanceMethod yX0_stepsToLeave, Cond.selects RX0 yX0_stepsToLeave yX0_stepsToLeave, Cond.code yX0_stepsToLeave cX0_stepsToLeave 4 (some .int), Cond.methodLink RX0 103 yX2_cellsToLeave, Cond.instanceMethod yX2_cellsToLeave, Cond.selects RX2 yX2_cellsToLeave yX2_cellsToLeave, Cond.code yX2_cellsToLeave cX2_cellsToLeave 1 (some .int)]
def wsX3_where_r3 : List Cond := [Cond.fieldLink RX2 34 "VoiceWords$Word" "way" "I", Cond.fieldLink RX2 44 "VoiceWords$Word" "column" "I", Cond.fieldLink RX2 21 "VoiceWords$Word" "length" "I", Cond.fieldLink RX2 41 "VoiceWords$Word" "lane" "I", Cond.methodLink RX0 83 yX0_cellsMoved, Cond.instanceMethod yX0_cellsMoved, Cond.selects RX0 yX0_cellsMoved yX0_cellsMoved, Cond.code yX0_cellsMoved cX0_cellsMoved 3 (some .int), Cond.fieldLink RX0 21 "VoiceWords$Scene" "percent" "I", Cond.constantFloat RX0 75 (1120403456), Cond.methodLink RX3 171 yX0_rowOf, Cond.instanceMethod yX0_rowOf, Cond.selects RX0 yX0_rowOf yX0_rowOf, Cond.code yX0_rowOf cX0_rowOf 3 (some .int), Cond.fieldLink RX0 76 "VoiceWords$Word" "lane" "I", Cond.methodLink RX0 79 yX2_stepsIn, Cond.instanceMethod yX2_stepsIn, Cond.selects RX2 yX2_stepsIn yX2_stepsIn, Cond.code yX2_stepsIn cX2_stepsIn 2 (some .int), Cond.methodLink RX3 175 yX0_columnOf, Cond.instanceMethod yX0_columnOf, Cond.selects RX0 yX0_columnOf yX0_columnOf, Cond.code yX0_columnOf cX0_columnOf 3 (some .int), Cond.fieldLink RX0 86 "VoiceWords$Word" "column" "I"]
def wsX3_where : List Cond := .code yX3_where cX3_where 6 (some .int) :: ((wsX3_where_r1 ++ (wsX3_where_r2 ++ wsX3_where_r3)) ++ wsX30 ++ wsX00 ++ wsX20)
def wsX3_written_r1 : List Cond := [Cond.fieldLink RX3 10 "VoiceWords" "scene" "LVoiceWords$Scene;", Cond.methodLink RX3 34 yX3_isBetween, Cond.static yX3_isBetween, Cond.initialized RX3, Cond.code yX3_isBetween cX3_isBetween 3 (some .boolean), Cond.methodLink RX3 164 yX3_isAskedFrame, Cond.static yX3_isAskedFrame, Cond.code yX3_isAskedFrame cX3_isAskedFrame 1 (some .boolean), Cond.methodLink RX3 178 yX0_characterIn, Cond.instanceMethod yX0_characterIn, Cond.selects RX0 yX0_characterIn yX0_characterIn, Cond.initialized RX0, Cond.code yX0_characterIn cX0_characterIn 7 (some .int), Cond.fieldLink RX0 33 "VoiceWords$Scene" "wordCount" "I", Cond.fieldLink RX0 11 "VoiceWords$Scene" "words" "[LVoiceWords$Word;", Cond.fieldLink RX0 52 "VoiceWords$Word" "length" "I", Cond.fieldLink RX0 49 "VoiceWords$Word" "letters" "[I", Cond.methodLink RX0 109 yX0_isVisible, Cond.instanceMethod yX0_isVisible, Cond.selects RX0 yX0_isVisible yX0_isVisible, Cond.code yX0_isVisible cX0_isVisible 3 (some .boolean), Cond.fieldLink RX0 67 "VoiceWords$Word" "isPut" "Z", Cond.fieldLink RX0 55 "VoiceWords$Word" "frame" "I", Cond.methodLink RX0 106 yX0_goneFrom]
def wsX3_written_r2 : List Cond := [Cond.instanceMethod yX0_goneFrom, Cond.selects RX0 yX0_goneFrom yX0_goneFrom, Cond.code yX0_goneFrom cX0_goneFrom 4 (some .int), Cond.fieldLink RX0 64 "VoiceWords$Word" "way" "I", Cond.fieldLink RX0 46 "VoiceWords$Scene" "shotCount" "I", Cond.fieldLink RX0 17 "VoiceWords$Scene" "shots" "[I", Cond.methodLink RX0 97 Lib.Math.min.name, Cond.static Lib.Math.min.name, Cond.initialized "java/lang/Math", Cond.code Lib.Math.min.name Lib.Math.min.code 2 (some .int), Cond.methodLink RX0 89 yX2_leavesIn, Cond.instanceMethod yX2_leavesIn, Cond.selects RX2 yX2_leavesIn yX2_leavesIn, Cond.initialized RX2, Cond.code yX2_leavesIn cX2_leavesIn 1 (some .int), Cond.fieldLink RX2 25 "VoiceWords$Word" "frame" "I", Cond.fieldLink RX2 28 "VoiceWords$Word" "spoken" "I", Cond.fieldLink RX2 31 "VoiceWords$Word" "held" "I", Cond.methodLink RX0 93 yX0_stepsToLeave, Cond.instanceMethod yX0_stepsToLeave, Cond.selects RX0 yX0_stepsToLeave yX0_stepsToLeave, Cond.code yX0_stepsToLeave cX0_stepsToLeave 4 (some .int), Cond.methodLink RX0 103 yX2_cellsToLeave, Cond.instanceMethod yX2_cellsToLeave]
def wsX3_written_r3 : List Cond := [Cond.selects RX2 yX2_cellsToLeave yX2_cellsToLeave, Cond.code yX2_cellsToLeave cX2_cellsToLeave 1 (some .int), Cond.fieldLink RX2 34 "VoiceWords$Word" "way" "I", Cond.fieldLink RX2 44 "VoiceWords$Word" "column" "I", Cond.fieldLink RX2 21 "VoiceWords$Word" "length" "I", Cond.fieldLink RX2 41 "VoiceWords$Word" "lane" "I", Cond.methodLink RX0 83 yX0_cellsMoved, Cond.instanceMethod yX0_cellsMoved, Cond.selects RX0 yX0_cellsMoved yX0_cellsMoved, Cond.code yX0_cellsMoved cX0_cellsMoved 3 (some .int), Cond.fieldLink RX0 21 "VoiceWords$Scene" "percent" "I", Cond.constantFloat RX0 75 (1120403456), Cond.methodLink RX0 113 yX0_rowOf, Cond.instanceMethod yX0_rowOf, Cond.selects RX0 yX0_rowOf yX0_rowOf, Cond.code yX0_rowOf cX0_rowOf 3 (some .int), Cond.fieldLink RX0 76 "VoiceWords$Word" "lane" "I", Cond.methodLink RX0 79 yX2_stepsIn, Cond.instanceMethod yX2_stepsIn, Cond.selects RX2 yX2_stepsIn yX2_stepsIn, Cond.code yX2_stepsIn cX2_stepsIn 2 (some .int), Cond.methodLink RX0 117 yX0_columnOf, Cond.instanceMethod yX0_columnOf, Cond.selects RX0 yX0_columnOf yX0_columnOf]
def wsX3_written_r4 : List Cond := [Cond.code yX0_columnOf cX0_columnOf 3 (some .int), Cond.fieldLink RX0 86 "VoiceWords$Word" "column" "I"]
def wsX3_written : List Cond := .code yX3_written cX3_written 4 (some .int) :: ((wsX3_written_r1 ++ (wsX3_written_r2 ++ (wsX3_written_r3 ++ wsX3_written_r4))) ++ wsX30 ++ wsX00 ++ wsX20)
def wsX3_onScreen_r1 : List Cond := [Cond.fieldLink RX3 10 "VoiceWords" "scene" "LVoiceWords$Scene;", Cond.methodLink RX3 164 yX3_isAskedFrame, Cond.static yX3_isAskedFrame, Cond.initialized RX3, Cond.code yX3_isAskedFrame cX3_isAskedFrame 1 (some .boolean), Cond.methodLink RX3 34 yX3_isBetween, Cond.static yX3_isBetween, Cond.code yX3_isBetween cX3_isBetween 3 (some .boolean), Cond.methodLink RX3 182 yX0_visibleSet, Cond.instanceMethod yX0_visibleSet, Cond.selects RX0 yX0_visibleSet yX0_visibleSet, Cond.initialized RX0, Cond.code yX0_visibleSet cX0_visibleSet 4 (some .int), Cond.fieldLink RX0 33 "VoiceWords$Scene" "wordCount" "I", Cond.fieldLink RX0 11 "VoiceWords$Scene" "words" "[LVoiceWords$Word;", Cond.methodLink RX0 109 yX0_isVisible, Cond.instanceMethod yX0_isVisible, Cond.selects RX0 yX0_isVisible yX0_isVisible, Cond.code yX0_isVisible cX0_isVisible 3 (some .boolean), Cond.fieldLink RX0 67 "VoiceWords$Word" "isPut" "Z", Cond.fieldLink RX0 55 "VoiceWords$Word" "frame" "I", Cond.methodLink RX0 106 yX0_goneFrom, Cond.instanceMethod yX0_goneFrom, Cond.selects RX0 yX0_goneFrom yX0_goneFrom]
def wsX3_onScreen_r2 : List Cond := [Cond.code yX0_goneFrom cX0_goneFrom 4 (some .int), Cond.fieldLink RX0 64 "VoiceWords$Word" "way" "I", Cond.fieldLink RX0 46 "VoiceWords$Scene" "shotCount" "I", Cond.fieldLink RX0 17 "VoiceWords$Scene" "shots" "[I", Cond.methodLink RX0 97 Lib.Math.min.name, Cond.static Lib.Math.min.name, Cond.initialized "java/lang/Math", Cond.code Lib.Math.min.name Lib.Math.min.code 2 (some .int), Cond.methodLink RX0 89 yX2_leavesIn, Cond.instanceMethod yX2_leavesIn, Cond.selects RX2 yX2_leavesIn yX2_leavesIn, Cond.initialized RX2, Cond.code yX2_leavesIn cX2_leavesIn 1 (some .int), Cond.fieldLink RX2 25 "VoiceWords$Word" "frame" "I", Cond.fieldLink RX2 28 "VoiceWords$Word" "spoken" "I", Cond.fieldLink RX2 31 "VoiceWords$Word" "held" "I", Cond.methodLink RX0 93 yX0_stepsToLeave, Cond.instanceMethod yX0_stepsToLeave, Cond.selects RX0 yX0_stepsToLeave yX0_stepsToLeave, Cond.code yX0_stepsToLeave cX0_stepsToLeave 4 (some .int), Cond.methodLink RX0 103 yX2_cellsToLeave, Cond.instanceMethod yX2_cellsToLeave, Cond.selects RX2 yX2_cellsToLeave yX2_cellsToLeave, Cond.code yX2_cellsToLeave cX2_cellsToLeave 1 (some .int)]
def wsX3_onScreen_r3 : List Cond := [Cond.fieldLink RX2 34 "VoiceWords$Word" "way" "I", Cond.fieldLink RX2 44 "VoiceWords$Word" "column" "I", Cond.fieldLink RX2 21 "VoiceWords$Word" "length" "I", Cond.fieldLink RX2 41 "VoiceWords$Word" "lane" "I", Cond.methodLink RX0 83 yX0_cellsMoved, Cond.instanceMethod yX0_cellsMoved, Cond.selects RX0 yX0_cellsMoved yX0_cellsMoved, Cond.code yX0_cellsMoved cX0_cellsMoved 3 (some .int), Cond.fieldLink RX0 21 "VoiceWords$Scene" "percent" "I", Cond.constantFloat RX0 75 (1120403456)]
def wsX3_onScreen : List Cond := .code yX3_onScreen cX3_onScreen 2 (some .int) :: ((wsX3_onScreen_r1 ++ (wsX3_onScreen_r2 ++ wsX3_onScreen_r3)) ++ wsX30 ++ wsX00 ++ wsX20)
def wsX3_meeting_r1 : List Cond := [Cond.fieldLink RX3 10 "VoiceWords" "scene" "LVoiceWords$Scene;", Cond.fieldLink RX3 64 "VoiceWords$Scene" "words" "[LVoiceWords$Word;", Cond.methodLink RX3 56 yX0_hasWord, Cond.instanceMethod yX0_hasWord, Cond.selects RX0 yX0_hasWord yX0_hasWord, Cond.initialized RX0, Cond.code yX0_hasWord cX0_hasWord 2 (some .boolean), Cond.fieldLink RX0 33 "VoiceWords$Scene" "wordCount" "I", Cond.methodLink RX3 185 yX0_firstMeeting, Cond.instanceMethod yX0_firstMeeting, Cond.selects RX0 yX0_firstMeeting yX0_firstMeeting, Cond.code yX0_firstMeeting cX0_firstMeeting 7 (some .int), Cond.fieldLink RX0 67 "VoiceWords$Word" "isPut" "Z", Cond.fieldLink RX0 76 "VoiceWords$Word" "lane" "I", Cond.fieldLink RX0 55 "VoiceWords$Word" "frame" "I", Cond.methodLink RX0 120 Lib.Math.max.name, Cond.static Lib.Math.max.name, Cond.initialized "java/lang/Math", Cond.code Lib.Math.max.name Lib.Math.max.code 2 (some .int), Cond.methodLink RX0 97 Lib.Math.min.name, Cond.static Lib.Math.min.name, Cond.code Lib.Math.min.name Lib.Math.min.code 2 (some .int), Cond.methodLink RX0 124 yX2_keepsLane, Cond.instanceMethod yX2_keepsLane]
def wsX3_meeting_r2 : List Cond := [Cond.selects RX2 yX2_keepsLane yX2_keepsLane, Cond.initialized RX2, Cond.code yX2_keepsLane cX2_keepsLane 1 (some .boolean), Cond.fieldLink RX2 34 "VoiceWords$Word" "way" "I", Cond.methodLink RX0 106 yX0_goneFrom, Cond.instanceMethod yX0_goneFrom, Cond.selects RX0 yX0_goneFrom yX0_goneFrom, Cond.code yX0_goneFrom cX0_goneFrom 4 (some .int), Cond.fieldLink RX0 64 "VoiceWords$Word" "way" "I", Cond.fieldLink RX0 46 "VoiceWords$Scene" "shotCount" "I", Cond.fieldLink RX0 17 "VoiceWords$Scene" "shots" "[I", Cond.methodLink RX0 89 yX2_leavesIn, Cond.instanceMethod yX2_leavesIn, Cond.selects RX2 yX2_leavesIn yX2_leavesIn, Cond.code yX2_leavesIn cX2_leavesIn 1 (some .int), Cond.fieldLink RX2 25 "VoiceWords$Word" "frame" "I", Cond.fieldLink RX2 28 "VoiceWords$Word" "spoken" "I", Cond.fieldLink RX2 31 "VoiceWords$Word" "held" "I", Cond.methodLink RX0 93 yX0_stepsToLeave, Cond.instanceMethod yX0_stepsToLeave, Cond.selects RX0 yX0_stepsToLeave yX0_stepsToLeave, Cond.code yX0_stepsToLeave cX0_stepsToLeave 4 (some .int), Cond.methodLink RX0 103 yX2_cellsToLeave, Cond.instanceMethod yX2_cellsToLeave]
def wsX3_meeting_r3 : List Cond := [Cond.selects RX2 yX2_cellsToLeave yX2_cellsToLeave, Cond.code yX2_cellsToLeave cX2_cellsToLeave 1 (some .int), Cond.fieldLink RX2 44 "VoiceWords$Word" "column" "I", Cond.fieldLink RX2 21 "VoiceWords$Word" "length" "I", Cond.fieldLink RX2 41 "VoiceWords$Word" "lane" "I", Cond.methodLink RX0 83 yX0_cellsMoved, Cond.instanceMethod yX0_cellsMoved, Cond.selects RX0 yX0_cellsMoved yX0_cellsMoved, Cond.code yX0_cellsMoved cX0_cellsMoved 3 (some .int), Cond.fieldLink RX0 21 "VoiceWords$Scene" "percent" "I", Cond.constantFloat RX0 75 (1120403456), Cond.methodLink RX0 128 yX0_shareCell, Cond.instanceMethod yX0_shareCell, Cond.selects RX0 yX0_shareCell yX0_shareCell, Cond.code yX0_shareCell cX0_shareCell 8 (some .boolean), Cond.fieldLink RX0 52 "VoiceWords$Word" "length" "I", Cond.methodLink RX0 113 yX0_rowOf, Cond.instanceMethod yX0_rowOf, Cond.selects RX0 yX0_rowOf yX0_rowOf, Cond.code yX0_rowOf cX0_rowOf 3 (some .int), Cond.methodLink RX0 79 yX2_stepsIn, Cond.instanceMethod yX2_stepsIn, Cond.selects RX2 yX2_stepsIn yX2_stepsIn, Cond.code yX2_stepsIn cX2_stepsIn 2 (some .int)]
def wsX3_meeting_r4 : List Cond := [Cond.methodLink RX0 117 yX0_columnOf, Cond.instanceMethod yX0_columnOf, Cond.selects RX0 yX0_columnOf yX0_columnOf, Cond.code yX0_columnOf cX0_columnOf 3 (some .int), Cond.fieldLink RX0 86 "VoiceWords$Word" "column" "I"]
def wsX3_meeting : List Cond := .code yX3_meeting cX3_meeting 3 (some .int) :: ((wsX3_meeting_r1 ++ (wsX3_meeting_r2 ++ (wsX3_meeting_r3 ++ wsX3_meeting_r4))) ++ wsX30 ++ wsX00 ++ wsX20)
def wsX3_pace : List Cond := .code yX3_pace cX3_pace 2 (some .int) :: ([.fieldLink RX3 10 "VoiceWords" "scene" "LVoiceWords$Scene;", .methodLink RX3 164 yX3_isAskedFrame, .static yX3_isAskedFrame, .initialized RX3, .code yX3_isAskedFrame cX3_isAskedFrame 1 (some .boolean), .methodLink RX3 34 yX3_isBetween, .static yX3_isBetween, .code yX3_isBetween cX3_isBetween 3 (some .boolean), .methodLink RX3 189 yX0_readingPace, .instanceMethod yX0_readingPace, .selects RX0 yX0_readingPace yX0_readingPace, .initialized RX0, .code yX0_readingPace cX0_readingPace 5 (some .int), .fieldLink RX0 33 "VoiceWords$Scene" "wordCount" "I", .fieldLink RX0 11 "VoiceWords$Scene" "words" "[LVoiceWords$Word;", .fieldLink RX0 58 "VoiceWords$Word" "spoken" "I", .fieldLink RX0 55 "VoiceWords$Word" "frame" "I", .fieldLink RX0 52 "VoiceWords$Word" "length" "I", .constantFloat RX0 123 (1103626240)] ++ wsX30 ++ wsX00 ++ wsX20)
def wsX3_earliest_r1 : List Cond := [Cond.fieldLink RX3 10 "VoiceWords" "scene" "LVoiceWords$Scene;", Cond.fieldLink RX3 64 "VoiceWords$Scene" "words" "[LVoiceWords$Word;", Cond.fieldLink RX3 118 "VoiceWords$Word" "frame" "I", Cond.methodLink RX3 115 yX3_isPossiblePlace, Cond.instanceMethod yX3_isPossiblePlace, Cond.selects RX3 yX3_isPossiblePlace yX3_isPossiblePlace, Cond.initialized RX3, Cond.code yX3_isPossiblePlace cX3_isPossiblePlace 4 (some .boolean), Cond.methodLink RX3 56 yX0_hasWord, Cond.instanceMethod yX0_hasWord, Cond.selects RX0 yX0_hasWord yX0_hasWord, Cond.initialized RX0, Cond.code yX0_hasWord cX0_hasWord 2 (some .boolean), Cond.fieldLink RX0 33 "VoiceWords$Scene" "wordCount" "I", Cond.methodLink RX3 34 yX3_isBetween, Cond.static yX3_isBetween, Cond.code yX3_isBetween cX3_isBetween 3 (some .boolean), Cond.methodLink RX3 205 yX2_lastColumn, Cond.instanceMethod yX2_lastColumn, Cond.selects RX2 yX2_lastColumn yX2_lastColumn, Cond.initialized RX2, Cond.code yX2_lastColumn cX2_lastColumn 1 (some .int), Cond.fieldLink RX2 21 "VoiceWords$Word" "length" "I", Cond.methodLink RX3 121 yX0_isFree]
def wsX3_earliest_r2 : List Cond := [Cond.instanceMethod yX0_isFree, Cond.selects RX0 yX0_isFree yX0_isFree, Cond.code yX0_isFree cX0_isFree 6 (some .boolean), Cond.fieldLink RX0 26 "VoiceWords$Scene" "trial" "LVoiceWords$Word;", Cond.fieldLink RX0 11 "VoiceWords$Scene" "words" "[LVoiceWords$Word;", Cond.fieldLink RX0 55 "VoiceWords$Word" "frame" "I", Cond.methodLink RX0 36 yX2_copyFrom, Cond.instanceMethod yX2_copyFrom, Cond.selects RX2 yX2_copyFrom yX2_copyFrom, Cond.code yX2_copyFrom cX2_copyFrom 2 none, Cond.fieldLink RX2 9 "VoiceWords$Word" "letters" "[I", Cond.methodLink RX2 15 arraycopyName, Cond.native arraycopyName, Cond.static arraycopyName, Cond.initialized "java/lang/System", Cond.fieldLink RX2 25 "VoiceWords$Word" "frame" "I", Cond.fieldLink RX2 28 "VoiceWords$Word" "spoken" "I", Cond.fieldLink RX2 31 "VoiceWords$Word" "held" "I", Cond.fieldLink RX2 34 "VoiceWords$Word" "way" "I", Cond.fieldLink RX2 37 "VoiceWords$Word" "isPut" "Z", Cond.fieldLink RX2 41 "VoiceWords$Word" "lane" "I", Cond.fieldLink RX2 44 "VoiceWords$Word" "column" "I", Cond.methodLink RX0 132 yX2_putAt, Cond.instanceMethod yX2_putAt]
def wsX3_earliest_r3 : List Cond := [Cond.selects RX2 yX2_putAt yX2_putAt, Cond.code yX2_putAt cX2_putAt 3 none, Cond.methodLink RX0 71 yX0_firstMeeting, Cond.instanceMethod yX0_firstMeeting, Cond.selects RX0 yX0_firstMeeting yX0_firstMeeting, Cond.code yX0_firstMeeting cX0_firstMeeting 7 (some .int), Cond.fieldLink RX0 67 "VoiceWords$Word" "isPut" "Z", Cond.fieldLink RX0 76 "VoiceWords$Word" "lane" "I", Cond.methodLink RX0 120 Lib.Math.max.name, Cond.static Lib.Math.max.name, Cond.initialized "java/lang/Math", Cond.code Lib.Math.max.name Lib.Math.max.code 2 (some .int), Cond.methodLink RX0 97 Lib.Math.min.name, Cond.static Lib.Math.min.name, Cond.code Lib.Math.min.name Lib.Math.min.code 2 (some .int), Cond.methodLink RX0 124 yX2_keepsLane, Cond.instanceMethod yX2_keepsLane, Cond.selects RX2 yX2_keepsLane yX2_keepsLane, Cond.code yX2_keepsLane cX2_keepsLane 1 (some .boolean), Cond.methodLink RX0 106 yX0_goneFrom, Cond.instanceMethod yX0_goneFrom, Cond.selects RX0 yX0_goneFrom yX0_goneFrom, Cond.code yX0_goneFrom cX0_goneFrom 4 (some .int), Cond.fieldLink RX0 64 "VoiceWords$Word" "way" "I"]
def wsX3_earliest_r4 : List Cond := [Cond.fieldLink RX0 46 "VoiceWords$Scene" "shotCount" "I", Cond.fieldLink RX0 17 "VoiceWords$Scene" "shots" "[I", Cond.methodLink RX0 89 yX2_leavesIn, Cond.instanceMethod yX2_leavesIn, Cond.selects RX2 yX2_leavesIn yX2_leavesIn, Cond.code yX2_leavesIn cX2_leavesIn 1 (some .int), Cond.methodLink RX0 93 yX0_stepsToLeave, Cond.instanceMethod yX0_stepsToLeave, Cond.selects RX0 yX0_stepsToLeave yX0_stepsToLeave, Cond.code yX0_stepsToLeave cX0_stepsToLeave 4 (some .int), Cond.methodLink RX0 103 yX2_cellsToLeave, Cond.instanceMethod yX2_cellsToLeave, Cond.selects RX2 yX2_cellsToLeave yX2_cellsToLeave, Cond.code yX2_cellsToLeave cX2_cellsToLeave 1 (some .int), Cond.methodLink RX0 83 yX0_cellsMoved, Cond.instanceMethod yX0_cellsMoved, Cond.selects RX0 yX0_cellsMoved yX0_cellsMoved, Cond.code yX0_cellsMoved cX0_cellsMoved 3 (some .int), Cond.fieldLink RX0 21 "VoiceWords$Scene" "percent" "I", Cond.constantFloat RX0 75 (1120403456), Cond.methodLink RX0 128 yX0_shareCell, Cond.instanceMethod yX0_shareCell, Cond.selects RX0 yX0_shareCell yX0_shareCell, Cond.code yX0_shareCell cX0_shareCell 8 (some .boolean)]
def wsX3_earliest_r5 : List Cond := [Cond.fieldLink RX0 52 "VoiceWords$Word" "length" "I", Cond.methodLink RX0 113 yX0_rowOf, Cond.instanceMethod yX0_rowOf, Cond.selects RX0 yX0_rowOf yX0_rowOf, Cond.code yX0_rowOf cX0_rowOf 3 (some .int), Cond.methodLink RX0 79 yX2_stepsIn, Cond.instanceMethod yX2_stepsIn, Cond.selects RX2 yX2_stepsIn yX2_stepsIn, Cond.code yX2_stepsIn cX2_stepsIn 2 (some .int), Cond.methodLink RX0 117 yX0_columnOf, Cond.instanceMethod yX0_columnOf, Cond.selects RX0 yX0_columnOf yX0_columnOf, Cond.code yX0_columnOf cX0_columnOf 3 (some .int), Cond.fieldLink RX0 86 "VoiceWords$Word" "column" "I"]
def wsX3_earliest : List Cond := .code yX3_earliest cX3_earliest 5 (some .int) :: ((wsX3_earliest_r1 ++ (wsX3_earliest_r2 ++ (wsX3_earliest_r3 ++ (wsX3_earliest_r4 ++ wsX3_earliest_r5)))) ++ wsX30 ++ wsX00 ++ wsX20)
def wsJ13_bitCount_95d88 : List Cond := .code yJ13_bitCount_95d88 cJ13_bitCount_95d88 2 (some .int) :: ([.constantLong RJ13 314 (6148914691236517205), .constantLong RJ13 316 (3689348814741910323), .constantLong RJ13 318 (1085102592571150095)])
def wsX3_filled_r1 : List Cond := [Cond.fieldLink RX3 10 "VoiceWords" "scene" "LVoiceWords$Scene;", Cond.methodLink RX3 164 yX3_isAskedFrame, Cond.static yX3_isAskedFrame, Cond.initialized RX3, Cond.code yX3_isAskedFrame cX3_isAskedFrame 1 (some .boolean), Cond.methodLink RX3 34 yX3_isBetween, Cond.static yX3_isBetween, Cond.code yX3_isBetween cX3_isBetween 3 (some .boolean), Cond.methodLink RX3 192 yX0_cellsInRow, Cond.instanceMethod yX0_cellsInRow, Cond.selects RX0 yX0_cellsInRow yX0_cellsInRow, Cond.initialized RX0, Cond.code yX0_cellsInRow cX0_cellsInRow 10 (some .long), Cond.fieldLink RX0 33 "VoiceWords$Scene" "wordCount" "I", Cond.fieldLink RX0 11 "VoiceWords$Scene" "words" "[LVoiceWords$Word;", Cond.fieldLink RX0 52 "VoiceWords$Word" "length" "I", Cond.methodLink RX0 97 Lib.Math.min.name, Cond.static Lib.Math.min.name, Cond.initialized "java/lang/Math", Cond.code Lib.Math.min.name Lib.Math.min.code 2 (some .int), Cond.methodLink RX0 120 Lib.Math.max.name, Cond.static Lib.Math.max.name, Cond.code Lib.Math.max.name Lib.Math.max.code 2 (some .int), Cond.methodLink RX0 109 yX0_isVisible]
def wsX3_filled_r2 : List Cond := [Cond.instanceMethod yX0_isVisible, Cond.selects RX0 yX0_isVisible yX0_isVisible, Cond.code yX0_isVisible cX0_isVisible 3 (some .boolean), Cond.fieldLink RX0 67 "VoiceWords$Word" "isPut" "Z", Cond.fieldLink RX0 55 "VoiceWords$Word" "frame" "I", Cond.methodLink RX0 106 yX0_goneFrom, Cond.instanceMethod yX0_goneFrom, Cond.selects RX0 yX0_goneFrom yX0_goneFrom, Cond.code yX0_goneFrom cX0_goneFrom 4 (some .int), Cond.fieldLink RX0 64 "VoiceWords$Word" "way" "I", Cond.fieldLink RX0 46 "VoiceWords$Scene" "shotCount" "I", Cond.fieldLink RX0 17 "VoiceWords$Scene" "shots" "[I", Cond.methodLink RX0 89 yX2_leavesIn, Cond.instanceMethod yX2_leavesIn, Cond.selects RX2 yX2_leavesIn yX2_leavesIn, Cond.initialized RX2, Cond.code yX2_leavesIn cX2_leavesIn 1 (some .int), Cond.fieldLink RX2 25 "VoiceWords$Word" "frame" "I", Cond.fieldLink RX2 28 "VoiceWords$Word" "spoken" "I", Cond.fieldLink RX2 31 "VoiceWords$Word" "held" "I", Cond.methodLink RX0 93 yX0_stepsToLeave, Cond.instanceMethod yX0_stepsToLeave, Cond.selects RX0 yX0_stepsToLeave yX0_stepsToLeave, Cond.code yX0_stepsToLeave cX0_stepsToLeave 4 (some .int)]
def wsX3_filled_r3 : List Cond := [Cond.methodLink RX0 103 yX2_cellsToLeave, Cond.instanceMethod yX2_cellsToLeave, Cond.selects RX2 yX2_cellsToLeave yX2_cellsToLeave, Cond.code yX2_cellsToLeave cX2_cellsToLeave 1 (some .int), Cond.fieldLink RX2 34 "VoiceWords$Word" "way" "I", Cond.fieldLink RX2 44 "VoiceWords$Word" "column" "I", Cond.fieldLink RX2 21 "VoiceWords$Word" "length" "I", Cond.fieldLink RX2 41 "VoiceWords$Word" "lane" "I", Cond.methodLink RX0 83 yX0_cellsMoved, Cond.instanceMethod yX0_cellsMoved, Cond.selects RX0 yX0_cellsMoved yX0_cellsMoved, Cond.code yX0_cellsMoved cX0_cellsMoved 3 (some .int), Cond.fieldLink RX0 21 "VoiceWords$Scene" "percent" "I", Cond.constantFloat RX0 75 (1120403456), Cond.methodLink RX0 113 yX0_rowOf, Cond.instanceMethod yX0_rowOf, Cond.selects RX0 yX0_rowOf yX0_rowOf, Cond.code yX0_rowOf cX0_rowOf 3 (some .int), Cond.fieldLink RX0 76 "VoiceWords$Word" "lane" "I", Cond.methodLink RX0 79 yX2_stepsIn, Cond.instanceMethod yX2_stepsIn, Cond.selects RX2 yX2_stepsIn yX2_stepsIn, Cond.code yX2_stepsIn cX2_stepsIn 2 (some .int), Cond.methodLink RX0 117 yX0_columnOf]
def wsX3_filled_r4 : List Cond := [Cond.instanceMethod yX0_columnOf, Cond.selects RX0 yX0_columnOf yX0_columnOf, Cond.code yX0_columnOf cX0_columnOf 3 (some .int), Cond.fieldLink RX0 86 "VoiceWords$Word" "column" "I", Cond.methodLink RX3 196 yJ13_bitCount_95d88, Cond.static yJ13_bitCount_95d88, Cond.initialized RJ13, Cond.code yJ13_bitCount_95d88 cJ13_bitCount_95d88 2 (some .int), Cond.constantLong RJ13 314 (6148914691236517205), Cond.constantLong RJ13 316 (3689348814741910323), Cond.constantLong RJ13 318 (1085102592571150095)]
def wsX3_filled : List Cond := .code yX3_filled cX3_filled 4 (some .int) :: ((wsX3_filled_r1 ++ (wsX3_filled_r2 ++ (wsX3_filled_r3 ++ wsX3_filled_r4))) ++ wsX30 ++ wsX00 ++ wsX20)
def wsX4_init : List Cond := .code yX4_init cX4_init 1 none :: ([.methodLink RX4 1 objectInit, .instanceMethod objectInit, .code objectInit ⟨#[0xb1]⟩ 1 none, .arrayClass .int, .fieldLink RX4 7 "VoiceWordsModel" "s" "[I", .fieldLink RX4 13 "VoiceWordsModel" "aside" "[I", .fieldLink RX4 16 "VoiceWordsModel" "saved" "[I", .fieldLink RX4 19 "VoiceWordsModel" "text" "[I", .arrayClass .boolean, .fieldLink RX4 22 "VoiceWordsModel" "isDone" "[Z", .fieldLink RX4 26 "VoiceWordsModel" "thrown" "I"] ++ wsX40)
def wsX4_in : List Cond := .code yX4_in cX4_in 6 (some .boolean) :: ([])
def wsX4_less : List Cond := .code yX4_less cX4_less 2 (some .int) :: ([])
def wsX4_more : List Cond := .code yX4_more cX4_more 2 (some .int) :: ([])
def wsX4_act : List Cond := .code yX4_act cX4_act 2 none :: ([.fieldLink RX4 30 "VoiceWordsModel" "savedMany" "I", .fieldLink RX4 16 "VoiceWordsModel" "saved" "[I", .fieldLink RX4 7 "VoiceWordsModel" "s" "[I"] ++ wsX40)
def wsX4_isWord : List Cond := .code yX4_isWord cX4_isWord 2 (some .boolean) :: ([.fieldLink RX4 7 "VoiceWordsModel" "s" "[I", .methodLink RX4 33 yX4_in, .static yX4_in, .initialized RX4, .code yX4_in cX4_in 6 (some .boolean)] ++ wsX40)
def wsX4_of : List Cond := .code yX4_of cX4_of 3 (some .int) :: ([.fieldLink RX4 7 "VoiceWordsModel" "s" "[I"] ++ wsX40)
def wsX4_set : List Cond := .code yX4_set cX4_set 4 none :: ([.fieldLink RX4 7 "VoiceWordsModel" "s" "[I"] ++ wsX40)
def wsX4_isPut : List Cond := .code yX4_isPut cX4_isPut 2 (some .boolean) :: ([.methodLink RX4 37 yX4_of, .instanceMethod yX4_of, .selects RX4 yX4_of yX4_of, .initialized RX4, .code yX4_of cX4_of 3 (some .int), .fieldLink RX4 7 "VoiceWordsModel" "s" "[I"] ++ wsX40)
def wsX4_putMany : List Cond := .code yX4_putMany cX4_putMany 3 (some .int) :: ([.fieldLink RX4 7 "VoiceWordsModel" "s" "[I", .methodLink RX4 41 yX4_isPut, .instanceMethod yX4_isPut, .selects RX4 yX4_isPut yX4_isPut, .initialized RX4, .code yX4_isPut cX4_isPut 2 (some .boolean), .methodLink RX4 37 yX4_of, .instanceMethod yX4_of, .selects RX4 yX4_of yX4_of, .code yX4_of cX4_of 3 (some .int)] ++ wsX40)
def wsX4_behind : List Cond := .code yX4_behind cX4_behind 2 (some .int) :: ([.methodLink RX4 37 yX4_of, .instanceMethod yX4_of, .selects RX4 yX4_of yX4_of, .initialized RX4, .code yX4_of cX4_of 3 (some .int), .fieldLink RX4 7 "VoiceWordsModel" "s" "[I"] ++ wsX40)
def wsX4_cut : List Cond := .code yX4_cut cX4_cut 4 (some .int) :: ([.fieldLink RX4 7 "VoiceWordsModel" "s" "[I", .methodLink RX4 37 yX4_of, .instanceMethod yX4_of, .selects RX4 yX4_of yX4_of, .initialized RX4, .code yX4_of cX4_of 3 (some .int)] ++ wsX40)
def wsX4_moved : List Cond := .code yX4_moved cX4_moved 5 (some .int) :: ([.fieldLink RX4 7 "VoiceWordsModel" "s" "[I", .constantFloat RX4 49 (1120403456), .methodLink RX4 45 yX4_behind, .instanceMethod yX4_behind, .selects RX4 yX4_behind yX4_behind, .initialized RX4, .code yX4_behind cX4_behind 2 (some .int), .methodLink RX4 37 yX4_of, .instanceMethod yX4_of, .selects RX4 yX4_of yX4_of, .code yX4_of cX4_of 3 (some .int)] ++ wsX40)
def wsX4_rowAt : List Cond := .code yX4_rowAt cX4_rowAt 4 (some .int) :: ([.methodLink RX4 37 yX4_of, .instanceMethod yX4_of, .selects RX4 yX4_of yX4_of, .initialized RX4, .code yX4_of cX4_of 3 (some .int), .fieldLink RX4 7 "VoiceWordsModel" "s" "[I", .methodLink RX4 50 yX4_moved, .instanceMethod yX4_moved, .selects RX4 yX4_moved yX4_moved, .code yX4_moved cX4_moved 5 (some .int), .constantFloat RX4 49 (1120403456), .methodLink RX4 45 yX4_behind, .instanceMethod yX4_behind, .selects RX4 yX4_behind yX4_behind, .code yX4_behind cX4_behind 2 (some .int)] ++ wsX40)
def wsX4_columnAt : List Cond := .code yX4_columnAt cX4_columnAt 4 (some .int) :: ([.methodLink RX4 37 yX4_of, .instanceMethod yX4_of, .selects RX4 yX4_of yX4_of, .initialized RX4, .code yX4_of cX4_of 3 (some .int), .fieldLink RX4 7 "VoiceWordsModel" "s" "[I", .methodLink RX4 50 yX4_moved, .instanceMethod yX4_moved, .selects RX4 yX4_moved yX4_moved, .code yX4_moved cX4_moved 5 (some .int), .constantFloat RX4 49 (1120403456), .methodLink RX4 45 yX4_behind, .instanceMethod yX4_behind, .selects RX4 yX4_behind yX4_behind, .code yX4_behind cX4_behind 2 (some .int)] ++ wsX40)
def wsX4_isOn_r1 : List Cond := [Cond.constantLong RX4 62 (7), Cond.methodLink RX4 41 yX4_isPut, Cond.instanceMethod yX4_isPut, Cond.selects RX4 yX4_isPut yX4_isPut, Cond.initialized RX4, Cond.code yX4_isPut cX4_isPut 2 (some .boolean), Cond.methodLink RX4 37 yX4_of, Cond.instanceMethod yX4_of, Cond.selects RX4 yX4_of yX4_of, Cond.code yX4_of cX4_of 3 (some .int), Cond.fieldLink RX4 7 "VoiceWordsModel" "s" "[I", Cond.methodLink RX4 53 yX4_cut, Cond.instanceMethod yX4_cut, Cond.selects RX4 yX4_cut yX4_cut, Cond.code yX4_cut cX4_cut 4 (some .int), Cond.methodLink RX4 45 yX4_behind, Cond.instanceMethod yX4_behind, Cond.selects RX4 yX4_behind yX4_behind, Cond.code yX4_behind cX4_behind 2 (some .int), Cond.methodLink RX4 56 yX4_columnAt, Cond.instanceMethod yX4_columnAt, Cond.selects RX4 yX4_columnAt yX4_columnAt, Cond.code yX4_columnAt cX4_columnAt 4 (some .int), Cond.methodLink RX4 50 yX4_moved]
def wsX4_isOn_r2 : List Cond := [Cond.instanceMethod yX4_moved, Cond.selects RX4 yX4_moved yX4_moved, Cond.code yX4_moved cX4_moved 5 (some .int), Cond.constantFloat RX4 49 (1120403456), Cond.methodLink RX4 59 yX4_rowAt, Cond.instanceMethod yX4_rowAt, Cond.selects RX4 yX4_rowAt yX4_rowAt, Cond.code yX4_rowAt cX4_rowAt 4 (some .int), Cond.methodLink RX4 33 yX4_in, Cond.static yX4_in, Cond.code yX4_in cX4_in 6 (some .boolean)]
def wsX4_isOn : List Cond := .code yX4_isOn cX4_isOn 4 (some .boolean) :: ((wsX4_isOn_r1 ++ wsX4_isOn_r2) ++ wsX40)
def wsX4_meetsAt_r1 : List Cond := [Cond.methodLink RX4 64 yX4_isOn, Cond.instanceMethod yX4_isOn, Cond.selects RX4 yX4_isOn yX4_isOn, Cond.initialized RX4, Cond.code yX4_isOn cX4_isOn 4 (some .boolean), Cond.constantLong RX4 62 (7), Cond.methodLink RX4 41 yX4_isPut, Cond.instanceMethod yX4_isPut, Cond.selects RX4 yX4_isPut yX4_isPut, Cond.code yX4_isPut cX4_isPut 2 (some .boolean), Cond.methodLink RX4 37 yX4_of, Cond.instanceMethod yX4_of, Cond.selects RX4 yX4_of yX4_of, Cond.code yX4_of cX4_of 3 (some .int), Cond.fieldLink RX4 7 "VoiceWordsModel" "s" "[I", Cond.methodLink RX4 53 yX4_cut, Cond.instanceMethod yX4_cut, Cond.selects RX4 yX4_cut yX4_cut, Cond.code yX4_cut cX4_cut 4 (some .int), Cond.methodLink RX4 45 yX4_behind, Cond.instanceMethod yX4_behind, Cond.selects RX4 yX4_behind yX4_behind, Cond.code yX4_behind cX4_behind 2 (some .int), Cond.methodLink RX4 56 yX4_columnAt]
def wsX4_meetsAt_r2 : List Cond := [Cond.instanceMethod yX4_columnAt, Cond.selects RX4 yX4_columnAt yX4_columnAt, Cond.code yX4_columnAt cX4_columnAt 4 (some .int), Cond.methodLink RX4 50 yX4_moved, Cond.instanceMethod yX4_moved, Cond.selects RX4 yX4_moved yX4_moved, Cond.code yX4_moved cX4_moved 5 (some .int), Cond.constantFloat RX4 49 (1120403456), Cond.methodLink RX4 59 yX4_rowAt, Cond.instanceMethod yX4_rowAt, Cond.selects RX4 yX4_rowAt yX4_rowAt, Cond.code yX4_rowAt cX4_rowAt 4 (some .int), Cond.methodLink RX4 33 yX4_in, Cond.static yX4_in, Cond.code yX4_in cX4_in 6 (some .boolean), Cond.methodLink RX4 68 yX4_more, Cond.static yX4_more, Cond.code yX4_more cX4_more 2 (some .int), Cond.methodLink RX4 71 yX4_less, Cond.static yX4_less, Cond.code yX4_less cX4_less 2 (some .int)]
def wsX4_meetsAt : List Cond := .code yX4_meetsAt cX4_meetsAt 6 (some .boolean) :: ((wsX4_meetsAt_r1 ++ wsX4_meetsAt_r2) ++ wsX40)
def wsX4_meetingOf_r1 : List Cond := [Cond.methodLink RX4 37 yX4_of, Cond.instanceMethod yX4_of, Cond.selects RX4 yX4_of yX4_of, Cond.initialized RX4, Cond.code yX4_of cX4_of 3 (some .int), Cond.fieldLink RX4 7 "VoiceWordsModel" "s" "[I", Cond.methodLink RX4 68 yX4_more, Cond.static yX4_more, Cond.code yX4_more cX4_more 2 (some .int), Cond.methodLink RX4 64 yX4_isOn, Cond.instanceMethod yX4_isOn, Cond.selects RX4 yX4_isOn yX4_isOn, Cond.code yX4_isOn cX4_isOn 4 (some .boolean), Cond.constantLong RX4 62 (7), Cond.methodLink RX4 41 yX4_isPut, Cond.instanceMethod yX4_isPut, Cond.selects RX4 yX4_isPut yX4_isPut, Cond.code yX4_isPut cX4_isPut 2 (some .boolean), Cond.methodLink RX4 53 yX4_cut, Cond.instanceMethod yX4_cut, Cond.selects RX4 yX4_cut yX4_cut, Cond.code yX4_cut cX4_cut 4 (some .int), Cond.methodLink RX4 45 yX4_behind, Cond.instanceMethod yX4_behind]
def wsX4_meetingOf_r2 : List Cond := [Cond.selects RX4 yX4_behind yX4_behind, Cond.code yX4_behind cX4_behind 2 (some .int), Cond.methodLink RX4 56 yX4_columnAt, Cond.instanceMethod yX4_columnAt, Cond.selects RX4 yX4_columnAt yX4_columnAt, Cond.code yX4_columnAt cX4_columnAt 4 (some .int), Cond.methodLink RX4 50 yX4_moved, Cond.instanceMethod yX4_moved, Cond.selects RX4 yX4_moved yX4_moved, Cond.code yX4_moved cX4_moved 5 (some .int), Cond.constantFloat RX4 49 (1120403456), Cond.methodLink RX4 59 yX4_rowAt, Cond.instanceMethod yX4_rowAt, Cond.selects RX4 yX4_rowAt yX4_rowAt, Cond.code yX4_rowAt cX4_rowAt 4 (some .int), Cond.methodLink RX4 33 yX4_in, Cond.static yX4_in, Cond.code yX4_in cX4_in 6 (some .boolean), Cond.methodLink RX4 74 yX4_meetsAt, Cond.instanceMethod yX4_meetsAt, Cond.selects RX4 yX4_meetsAt yX4_meetsAt, Cond.code yX4_meetsAt cX4_meetsAt 6 (some .boolean), Cond.methodLink RX4 71 yX4_less, Cond.static yX4_less]
def wsX4_meetingOf_r3 : List Cond := [Cond.code yX4_less cX4_less 2 (some .int)]
def wsX4_meetingOf : List Cond := .code yX4_meetingOf cX4_meetingOf 4 (some .int) :: ((wsX4_meetingOf_r1 ++ (wsX4_meetingOf_r2 ++ wsX4_meetingOf_r3)) ++ wsX40)
def wsX4_meetsAny_r1 : List Cond := [Cond.fieldLink RX4 7 "VoiceWordsModel" "s" "[I", Cond.methodLink RX4 41 yX4_isPut, Cond.instanceMethod yX4_isPut, Cond.selects RX4 yX4_isPut yX4_isPut, Cond.initialized RX4, Cond.code yX4_isPut cX4_isPut 2 (some .boolean), Cond.methodLink RX4 37 yX4_of, Cond.instanceMethod yX4_of, Cond.selects RX4 yX4_of yX4_of, Cond.code yX4_of cX4_of 3 (some .int), Cond.methodLink RX4 78 yX4_meetingOf, Cond.instanceMethod yX4_meetingOf, Cond.selects RX4 yX4_meetingOf yX4_meetingOf, Cond.code yX4_meetingOf cX4_meetingOf 4 (some .int), Cond.methodLink RX4 68 yX4_more, Cond.static yX4_more, Cond.code yX4_more cX4_more 2 (some .int), Cond.methodLink RX4 64 yX4_isOn, Cond.instanceMethod yX4_isOn, Cond.selects RX4 yX4_isOn yX4_isOn, Cond.code yX4_isOn cX4_isOn 4 (some .boolean), Cond.constantLong RX4 62 (7), Cond.methodLink RX4 53 yX4_cut, Cond.instanceMethod yX4_cut]
def wsX4_meetsAny_r2 : List Cond := [Cond.selects RX4 yX4_cut yX4_cut, Cond.code yX4_cut cX4_cut 4 (some .int), Cond.methodLink RX4 45 yX4_behind, Cond.instanceMethod yX4_behind, Cond.selects RX4 yX4_behind yX4_behind, Cond.code yX4_behind cX4_behind 2 (some .int), Cond.methodLink RX4 56 yX4_columnAt, Cond.instanceMethod yX4_columnAt, Cond.selects RX4 yX4_columnAt yX4_columnAt, Cond.code yX4_columnAt cX4_columnAt 4 (some .int), Cond.methodLink RX4 50 yX4_moved, Cond.instanceMethod yX4_moved, Cond.selects RX4 yX4_moved yX4_moved, Cond.code yX4_moved cX4_moved 5 (some .int), Cond.constantFloat RX4 49 (1120403456), Cond.methodLink RX4 59 yX4_rowAt, Cond.instanceMethod yX4_rowAt, Cond.selects RX4 yX4_rowAt yX4_rowAt, Cond.code yX4_rowAt cX4_rowAt 4 (some .int), Cond.methodLink RX4 33 yX4_in, Cond.static yX4_in, Cond.code yX4_in cX4_in 6 (some .boolean), Cond.methodLink RX4 74 yX4_meetsAt, Cond.instanceMethod yX4_meetsAt]
def wsX4_meetsAny_r3 : List Cond := [Cond.selects RX4 yX4_meetsAt yX4_meetsAt, Cond.code yX4_meetsAt cX4_meetsAt 6 (some .boolean), Cond.methodLink RX4 71 yX4_less, Cond.static yX4_less, Cond.code yX4_less cX4_less 2 (some .int)]
def wsX4_meetsAny : List Cond := .code yX4_meetsAny cX4_meetsAny 4 (some .boolean) :: ((wsX4_meetsAny_r1 ++ (wsX4_meetsAny_r2 ++ wsX4_meetsAny_r3)) ++ wsX40)
def wsX4_makeWord : List Cond := .code yX4_makeWord cX4_makeWord 7 (some .int) :: ([.fieldLink RX4 7 "VoiceWordsModel" "s" "[I", .methodLink RX4 81 yX4_set, .instanceMethod yX4_set, .selects RX4 yX4_set yX4_set, .initialized RX4, .code yX4_set cX4_set 4 none] ++ wsX40)
def wsX4_isPart : List Cond := .code yX4_isPart cX4_isPart 2 (some .boolean) :: ([.constantLong RX4 85 (2000), .constantLong RX4 87 (60), .constantLong RX4 89 (4), .methodLink RX4 33 yX4_in, .static yX4_in, .initialized RX4, .code yX4_in cX4_in 6 (some .boolean)])
def wsX4_addWord_r1 : List Cond := [Cond.fieldLink RX4 26 "VoiceWordsModel" "thrown" "I", Cond.constantLong RX4 91 (12), Cond.fieldLink RX4 7 "VoiceWordsModel" "s" "[I", Cond.methodLink RX4 33 yX4_in, Cond.static yX4_in, Cond.initialized RX4, Cond.code yX4_in cX4_in 6 (some .boolean), Cond.methodLink RX4 93 yX4_isPart, Cond.static yX4_isPart, Cond.code yX4_isPart cX4_isPart 2 (some .boolean), Cond.constantLong RX4 85 (2000), Cond.constantLong RX4 87 (60), Cond.constantLong RX4 89 (4), Cond.methodLink RX4 96 yX4_act, Cond.instanceMethod yX4_act, Cond.selects RX4 yX4_act yX4_act, Cond.code yX4_act cX4_act 2 none, Cond.fieldLink RX4 30 "VoiceWordsModel" "savedMany" "I", Cond.fieldLink RX4 16 "VoiceWordsModel" "saved" "[I", Cond.methodLink RX4 99 yX4_makeWord, Cond.instanceMethod yX4_makeWord, Cond.selects RX4 yX4_makeWord yX4_makeWord, Cond.code yX4_makeWord cX4_makeWord 7 (some .int), Cond.methodLink RX4 81 yX4_set]
def wsX4_addWord_r2 : List Cond := [Cond.instanceMethod yX4_set, Cond.selects RX4 yX4_set yX4_set, Cond.code yX4_set cX4_set 4 none]
def wsX4_addWord : List Cond := .code yX4_addWord cX4_addWord 8 (some .int) :: ((wsX4_addWord_r1 ++ wsX4_addWord_r2) ++ wsX40)
def wsX4_removeWord : List Cond := .code yX4_removeWord cX4_removeWord 3 (some .int) :: ([.fieldLink RX4 26 "VoiceWordsModel" "thrown" "I", .fieldLink RX4 7 "VoiceWordsModel" "s" "[I", .methodLink RX4 103 yX4_isWord, .instanceMethod yX4_isWord, .selects RX4 yX4_isWord yX4_isWord, .initialized RX4, .code yX4_isWord cX4_isWord 2 (some .boolean), .methodLink RX4 33 yX4_in, .static yX4_in, .code yX4_in cX4_in 6 (some .boolean), .methodLink RX4 96 yX4_act, .instanceMethod yX4_act, .selects RX4 yX4_act yX4_act, .code yX4_act cX4_act 2 none, .fieldLink RX4 30 "VoiceWordsModel" "savedMany" "I", .fieldLink RX4 16 "VoiceWordsModel" "saved" "[I"] ++ wsX40)
def wsX4_takeOff : List Cond := .code yX4_takeOff cX4_takeOff 2 none :: ([.methodLink RX4 81 yX4_set, .instanceMethod yX4_set, .selects RX4 yX4_set yX4_set, .initialized RX4, .code yX4_set cX4_set 4 none, .fieldLink RX4 7 "VoiceWordsModel" "s" "[I"] ++ wsX40)
def wsX4_setWord_r1 : List Cond := [Cond.fieldLink RX4 26 "VoiceWordsModel" "thrown" "I", Cond.methodLink RX4 103 yX4_isWord, Cond.instanceMethod yX4_isWord, Cond.selects RX4 yX4_isWord yX4_isWord, Cond.initialized RX4, Cond.code yX4_isWord cX4_isWord 2 (some .boolean), Cond.fieldLink RX4 7 "VoiceWordsModel" "s" "[I", Cond.methodLink RX4 33 yX4_in, Cond.static yX4_in, Cond.code yX4_in cX4_in 6 (some .boolean), Cond.methodLink RX4 93 yX4_isPart, Cond.static yX4_isPart, Cond.code yX4_isPart cX4_isPart 2 (some .boolean), Cond.constantLong RX4 85 (2000), Cond.constantLong RX4 87 (60), Cond.constantLong RX4 89 (4), Cond.methodLink RX4 96 yX4_act, Cond.instanceMethod yX4_act, Cond.selects RX4 yX4_act yX4_act, Cond.code yX4_act cX4_act 2 none, Cond.fieldLink RX4 30 "VoiceWordsModel" "savedMany" "I", Cond.fieldLink RX4 16 "VoiceWordsModel" "saved" "[I", Cond.methodLink RX4 37 yX4_of, Cond.instanceMethod yX4_of]
def wsX4_setWord_r2 : List Cond := [Cond.selects RX4 yX4_of yX4_of, Cond.code yX4_of cX4_of 3 (some .int), Cond.methodLink RX4 81 yX4_set, Cond.instanceMethod yX4_set, Cond.selects RX4 yX4_set yX4_set, Cond.code yX4_set cX4_set 4 none, Cond.methodLink RX4 106 yX4_takeOff, Cond.instanceMethod yX4_takeOff, Cond.selects RX4 yX4_takeOff yX4_takeOff, Cond.code yX4_takeOff cX4_takeOff 2 none]
def wsX4_setWord : List Cond := .code yX4_setWord cX4_setWord 5 (some .int) :: ((wsX4_setWord_r1 ++ wsX4_setWord_r2) ++ wsX40)
def wsX4_shotOf : List Cond := .code yX4_shotOf cX4_shotOf 3 (some .int) :: ([.fieldLink RX4 7 "VoiceWordsModel" "s" "[I"] ++ wsX40)
def wsX4_makeShot : List Cond := .code yX4_makeShot cX4_makeShot 3 none :: ([.fieldLink RX4 7 "VoiceWordsModel" "s" "[I"] ++ wsX40)
def wsX4_addShot : List Cond := .code yX4_addShot cX4_addShot 2 (some .int) :: ([.fieldLink RX4 26 "VoiceWordsModel" "thrown" "I", .constantLong RX4 110 (3000), .fieldLink RX4 7 "VoiceWordsModel" "s" "[I", .methodLink RX4 33 yX4_in, .static yX4_in, .initialized RX4, .code yX4_in cX4_in 6 (some .boolean), .methodLink RX4 112 yX4_shotOf, .instanceMethod yX4_shotOf, .selects RX4 yX4_shotOf yX4_shotOf, .code yX4_shotOf cX4_shotOf 3 (some .int), .methodLink RX4 96 yX4_act, .instanceMethod yX4_act, .selects RX4 yX4_act yX4_act, .code yX4_act cX4_act 2 none, .fieldLink RX4 30 "VoiceWordsModel" "savedMany" "I", .fieldLink RX4 16 "VoiceWordsModel" "saved" "[I", .methodLink RX4 115 yX4_makeShot, .instanceMethod yX4_makeShot, .selects RX4 yX4_makeShot yX4_makeShot, .code yX4_makeShot cX4_makeShot 3 none] ++ wsX40)
def wsX4_removeShot : List Cond := .code yX4_removeShot cX4_removeShot 4 (some .int) :: ([.fieldLink RX4 26 "VoiceWordsModel" "thrown" "I", .constantLong RX4 110 (3000), .fieldLink RX4 7 "VoiceWordsModel" "s" "[I", .methodLink RX4 33 yX4_in, .static yX4_in, .initialized RX4, .code yX4_in cX4_in 6 (some .boolean), .methodLink RX4 112 yX4_shotOf, .instanceMethod yX4_shotOf, .selects RX4 yX4_shotOf yX4_shotOf, .code yX4_shotOf cX4_shotOf 3 (some .int), .methodLink RX4 96 yX4_act, .instanceMethod yX4_act, .selects RX4 yX4_act yX4_act, .code yX4_act cX4_act 2 none, .fieldLink RX4 30 "VoiceWordsModel" "savedMany" "I", .fieldLink RX4 16 "VoiceWordsModel" "saved" "[I"] ++ wsX40)
def wsX4_setSpeed : List Cond := .code yX4_setSpeed cX4_setSpeed 3 (some .int) :: ([.fieldLink RX4 26 "VoiceWordsModel" "thrown" "I", .constantLong RX4 118 (50), .constantLong RX4 120 (400), .fieldLink RX4 7 "VoiceWordsModel" "s" "[I", .methodLink RX4 33 yX4_in, .static yX4_in, .initialized RX4, .code yX4_in cX4_in 6 (some .boolean), .methodLink RX4 96 yX4_act, .instanceMethod yX4_act, .selects RX4 yX4_act yX4_act, .code yX4_act cX4_act 2 none, .fieldLink RX4 30 "VoiceWordsModel" "savedMany" "I", .fieldLink RX4 16 "VoiceWordsModel" "saved" "[I"] ++ wsX40)
def wsX4_append : List Cond := .code yX4_append cX4_append 2 (some .int) :: ([.fieldLink RX4 26 "VoiceWordsModel" "thrown" "I", .constantLong RX4 122 (255), .fieldLink RX4 124 "VoiceWordsModel" "length" "I", .fieldLink RX4 19 "VoiceWordsModel" "text" "[I", .methodLink RX4 33 yX4_in, .static yX4_in, .initialized RX4, .code yX4_in cX4_in 6 (some .boolean)] ++ wsX40)
def wsX4_clearText : List Cond := .code yX4_clearText cX4_clearText 2 (some .int) :: ([.fieldLink RX4 26 "VoiceWordsModel" "thrown" "I", .fieldLink RX4 124 "VoiceWordsModel" "length" "I"] ++ wsX40)
def wsX4_here : List Cond := .code yX4_here cX4_here 1 (some .int) :: ([.fieldLink RX4 127 "VoiceWordsModel" "next" "I", .fieldLink RX4 124 "VoiceWordsModel" "length" "I", .fieldLink RX4 19 "VoiceWordsModel" "text" "[I"] ++ wsX40)
def wsX4_read : List Cond := .code yX4_read cX4_read 1 none :: ([.fieldLink RX4 127 "VoiceWordsModel" "next" "I", .fieldLink RX4 134 "VoiceWordsModel" "start" "I", .fieldLink RX4 137 "VoiceWordsModel" "worth" "J", .constantLong RX4 141 (97), .constantLong RX4 143 (122), .fieldLink RX4 145 "VoiceWordsModel" "token" "I", .constantLong RX4 148 (27), .constantLong RX4 150 (48), .constantLong RX4 152 (57), .constantLong RX4 154 (10000), .constantLong RX4 156 (10), .fieldLink RX4 19 "VoiceWordsModel" "text" "[I", .methodLink RX4 130 yX4_here, .instanceMethod yX4_here, .selects RX4 yX4_here yX4_here, .initialized RX4, .code yX4_here cX4_here 1 (some .int), .fieldLink RX4 124 "VoiceWordsModel" "length" "I", .methodLink RX4 33 yX4_in, .static yX4_in, .code yX4_in cX4_in 6 (some .boolean)] ++ wsX40)
def wsX4_accept_r1 : List Cond := [Cond.fieldLink RX4 137 "VoiceWordsModel" "worth" "J", Cond.fieldLink RX4 158 "VoiceWordsModel" "isWrong" "Z", Cond.methodLink RX4 162 yX4_read, Cond.instanceMethod yX4_read, Cond.selects RX4 yX4_read yX4_read, Cond.initialized RX4, Cond.code yX4_read cX4_read 1 none, Cond.fieldLink RX4 127 "VoiceWordsModel" "next" "I", Cond.fieldLink RX4 134 "VoiceWordsModel" "start" "I", Cond.constantLong RX4 141 (97), Cond.constantLong RX4 143 (122), Cond.fieldLink RX4 145 "VoiceWordsModel" "token" "I", Cond.constantLong RX4 148 (27), Cond.constantLong RX4 150 (48), Cond.constantLong RX4 152 (57), Cond.constantLong RX4 154 (10000), Cond.constantLong RX4 156 (10), Cond.fieldLink RX4 19 "VoiceWordsModel" "text" "[I", Cond.methodLink RX4 130 yX4_here, Cond.instanceMethod yX4_here, Cond.selects RX4 yX4_here yX4_here, Cond.code yX4_here cX4_here 1 (some .int), Cond.fieldLink RX4 124 "VoiceWordsModel" "length" "I", Cond.methodLink RX4 33 yX4_in]
def wsX4_accept_r2 : List Cond := [Cond.static yX4_in, Cond.code yX4_in cX4_in 6 (some .boolean)]
def wsX4_accept : List Cond := .code yX4_accept cX4_accept 3 (some .int) :: ((wsX4_accept_r1 ++ wsX4_accept_r2) ++ wsX40)
def wsX4_number_r1 : List Cond := [Cond.fieldLink RX4 145 "VoiceWordsModel" "token" "I", Cond.fieldLink RX4 137 "VoiceWordsModel" "worth" "J", Cond.methodLink RX4 33 yX4_in, Cond.static yX4_in, Cond.initialized RX4, Cond.code yX4_in cX4_in 6 (some .boolean), Cond.methodLink RX4 165 yX4_accept, Cond.instanceMethod yX4_accept, Cond.selects RX4 yX4_accept yX4_accept, Cond.code yX4_accept cX4_accept 3 (some .int), Cond.fieldLink RX4 158 "VoiceWordsModel" "isWrong" "Z", Cond.methodLink RX4 162 yX4_read, Cond.instanceMethod yX4_read, Cond.selects RX4 yX4_read yX4_read, Cond.code yX4_read cX4_read 1 none, Cond.fieldLink RX4 127 "VoiceWordsModel" "next" "I", Cond.fieldLink RX4 134 "VoiceWordsModel" "start" "I", Cond.constantLong RX4 141 (97), Cond.constantLong RX4 143 (122), Cond.constantLong RX4 148 (27), Cond.constantLong RX4 150 (48), Cond.constantLong RX4 152 (57), Cond.constantLong RX4 154 (10000), Cond.constantLong RX4 156 (10)]
def wsX4_number_r2 : List Cond := [Cond.fieldLink RX4 19 "VoiceWordsModel" "text" "[I", Cond.methodLink RX4 130 yX4_here, Cond.instanceMethod yX4_here, Cond.selects RX4 yX4_here yX4_here, Cond.code yX4_here cX4_here 1 (some .int), Cond.fieldLink RX4 124 "VoiceWordsModel" "length" "I"]
def wsX4_number : List Cond := .code yX4_number cX4_number 3 (some .int) :: ((wsX4_number_r1 ++ wsX4_number_r2) ++ wsX40)
def wsX4_wayOf : List Cond := .code yX4_wayOf cX4_wayOf 1 (some .int) :: ([.fieldLink RX4 145 "VoiceWordsModel" "token" "I", .fieldLink RX4 137 "VoiceWordsModel" "worth" "J", .constantLong RX4 169 (240023), .constantLong RX4 171 (9748424), .constantLong RX4 173 (583), .constantLong RX4 175 (90302)] ++ wsX40)
def wsX4_readWord_r1 : List Cond := [Cond.fieldLink RX4 134 "VoiceWordsModel" "start" "I", Cond.fieldLink RX4 127 "VoiceWordsModel" "next" "I", Cond.fieldLink RX4 145 "VoiceWordsModel" "token" "I", Cond.fieldLink RX4 158 "VoiceWordsModel" "isWrong" "Z", Cond.fieldLink RX4 19 "VoiceWordsModel" "text" "[I", Cond.methodLink RX4 165 yX4_accept, Cond.instanceMethod yX4_accept, Cond.selects RX4 yX4_accept yX4_accept, Cond.initialized RX4, Cond.code yX4_accept cX4_accept 3 (some .int), Cond.fieldLink RX4 137 "VoiceWordsModel" "worth" "J", Cond.methodLink RX4 162 yX4_read, Cond.instanceMethod yX4_read, Cond.selects RX4 yX4_read yX4_read, Cond.code yX4_read cX4_read 1 none, Cond.constantLong RX4 141 (97), Cond.constantLong RX4 143 (122), Cond.constantLong RX4 148 (27), Cond.constantLong RX4 150 (48), Cond.constantLong RX4 152 (57), Cond.constantLong RX4 154 (10000), Cond.constantLong RX4 156 (10), Cond.methodLink RX4 130 yX4_here, Cond.instanceMethod yX4_here]
def wsX4_readWord_r2 : List Cond := [Cond.selects RX4 yX4_here yX4_here, Cond.code yX4_here cX4_here 1 (some .int), Cond.fieldLink RX4 124 "VoiceWordsModel" "length" "I", Cond.methodLink RX4 33 yX4_in, Cond.static yX4_in, Cond.code yX4_in cX4_in 6 (some .boolean), Cond.methodLink RX4 177 yX4_number, Cond.instanceMethod yX4_number, Cond.selects RX4 yX4_number yX4_number, Cond.code yX4_number cX4_number 3 (some .int), Cond.methodLink RX4 180 yX4_wayOf, Cond.instanceMethod yX4_wayOf, Cond.selects RX4 yX4_wayOf yX4_wayOf, Cond.code yX4_wayOf cX4_wayOf 1 (some .int), Cond.constantLong RX4 169 (240023), Cond.constantLong RX4 171 (9748424), Cond.constantLong RX4 173 (583), Cond.constantLong RX4 175 (90302), Cond.methodLink RX4 99 yX4_makeWord, Cond.instanceMethod yX4_makeWord, Cond.selects RX4 yX4_makeWord yX4_makeWord, Cond.code yX4_makeWord cX4_makeWord 7 (some .int), Cond.fieldLink RX4 7 "VoiceWordsModel" "s" "[I", Cond.methodLink RX4 81 yX4_set]
def wsX4_readWord_r3 : List Cond := [Cond.instanceMethod yX4_set, Cond.selects RX4 yX4_set yX4_set, Cond.code yX4_set cX4_set 4 none]
def wsX4_readWord : List Cond := .code yX4_readWord cX4_readWord 9 none :: ((wsX4_readWord_r1 ++ (wsX4_readWord_r2 ++ wsX4_readWord_r3)) ++ wsX40)
def wsX4_readShot_r1 : List Cond := [Cond.fieldLink RX4 145 "VoiceWordsModel" "token" "I", Cond.fieldLink RX4 137 "VoiceWordsModel" "worth" "J", Cond.constantLong RX4 110 (3000), Cond.fieldLink RX4 158 "VoiceWordsModel" "isWrong" "Z", Cond.methodLink RX4 33 yX4_in, Cond.static yX4_in, Cond.initialized RX4, Cond.code yX4_in cX4_in 6 (some .boolean), Cond.methodLink RX4 112 yX4_shotOf, Cond.instanceMethod yX4_shotOf, Cond.selects RX4 yX4_shotOf yX4_shotOf, Cond.code yX4_shotOf cX4_shotOf 3 (some .int), Cond.fieldLink RX4 7 "VoiceWordsModel" "s" "[I", Cond.methodLink RX4 165 yX4_accept, Cond.instanceMethod yX4_accept, Cond.selects RX4 yX4_accept yX4_accept, Cond.code yX4_accept cX4_accept 3 (some .int), Cond.methodLink RX4 162 yX4_read, Cond.instanceMethod yX4_read, Cond.selects RX4 yX4_read yX4_read, Cond.code yX4_read cX4_read 1 none, Cond.fieldLink RX4 127 "VoiceWordsModel" "next" "I", Cond.fieldLink RX4 134 "VoiceWordsModel" "start" "I", Cond.constantLong RX4 141 (97)]
def wsX4_readShot_r2 : List Cond := [Cond.constantLong RX4 143 (122), Cond.constantLong RX4 148 (27), Cond.constantLong RX4 150 (48), Cond.constantLong RX4 152 (57), Cond.constantLong RX4 154 (10000), Cond.constantLong RX4 156 (10), Cond.fieldLink RX4 19 "VoiceWordsModel" "text" "[I", Cond.methodLink RX4 130 yX4_here, Cond.instanceMethod yX4_here, Cond.selects RX4 yX4_here yX4_here, Cond.code yX4_here cX4_here 1 (some .int), Cond.fieldLink RX4 124 "VoiceWordsModel" "length" "I", Cond.methodLink RX4 115 yX4_makeShot, Cond.instanceMethod yX4_makeShot, Cond.selects RX4 yX4_makeShot yX4_makeShot, Cond.code yX4_makeShot cX4_makeShot 3 none]
def wsX4_readShot : List Cond := .code yX4_readShot cX4_readShot 2 none :: ((wsX4_readShot_r1 ++ wsX4_readShot_r2) ++ wsX40)
def wsX4_readItem_r1 : List Cond := [Cond.fieldLink RX4 145 "VoiceWordsModel" "token" "I", Cond.fieldLink RX4 137 "VoiceWordsModel" "worth" "J", Cond.constantLong RX4 183 (13903), Cond.constantLong RX4 185 (2774), Cond.fieldLink RX4 7 "VoiceWordsModel" "s" "[I", Cond.fieldLink RX4 158 "VoiceWordsModel" "isWrong" "Z", Cond.methodLink RX4 165 yX4_accept, Cond.instanceMethod yX4_accept, Cond.selects RX4 yX4_accept yX4_accept, Cond.initialized RX4, Cond.code yX4_accept cX4_accept 3 (some .int), Cond.methodLink RX4 162 yX4_read, Cond.instanceMethod yX4_read, Cond.selects RX4 yX4_read yX4_read, Cond.code yX4_read cX4_read 1 none, Cond.fieldLink RX4 127 "VoiceWordsModel" "next" "I", Cond.fieldLink RX4 134 "VoiceWordsModel" "start" "I", Cond.constantLong RX4 141 (97), Cond.constantLong RX4 143 (122), Cond.constantLong RX4 148 (27), Cond.constantLong RX4 150 (48), Cond.constantLong RX4 152 (57), Cond.constantLong RX4 154 (10000), Cond.constantLong RX4 156 (10)]
def wsX4_readItem_r2 : List Cond := [Cond.fieldLink RX4 19 "VoiceWordsModel" "text" "[I", Cond.methodLink RX4 130 yX4_here, Cond.instanceMethod yX4_here, Cond.selects RX4 yX4_here yX4_here, Cond.code yX4_here cX4_here 1 (some .int), Cond.fieldLink RX4 124 "VoiceWordsModel" "length" "I", Cond.methodLink RX4 33 yX4_in, Cond.static yX4_in, Cond.code yX4_in cX4_in 6 (some .boolean), Cond.methodLink RX4 187 yX4_readWord, Cond.instanceMethod yX4_readWord, Cond.selects RX4 yX4_readWord yX4_readWord, Cond.code yX4_readWord cX4_readWord 9 none, Cond.methodLink RX4 177 yX4_number, Cond.instanceMethod yX4_number, Cond.selects RX4 yX4_number yX4_number, Cond.code yX4_number cX4_number 3 (some .int), Cond.methodLink RX4 180 yX4_wayOf, Cond.instanceMethod yX4_wayOf, Cond.selects RX4 yX4_wayOf yX4_wayOf, Cond.code yX4_wayOf cX4_wayOf 1 (some .int), Cond.constantLong RX4 169 (240023), Cond.constantLong RX4 171 (9748424), Cond.constantLong RX4 173 (583)]
def wsX4_readItem_r3 : List Cond := [Cond.constantLong RX4 175 (90302), Cond.methodLink RX4 99 yX4_makeWord, Cond.instanceMethod yX4_makeWord, Cond.selects RX4 yX4_makeWord yX4_makeWord, Cond.code yX4_makeWord cX4_makeWord 7 (some .int), Cond.methodLink RX4 81 yX4_set, Cond.instanceMethod yX4_set, Cond.selects RX4 yX4_set yX4_set, Cond.code yX4_set cX4_set 4 none, Cond.methodLink RX4 190 yX4_readShot, Cond.instanceMethod yX4_readShot, Cond.selects RX4 yX4_readShot yX4_readShot, Cond.code yX4_readShot cX4_readShot 2 none, Cond.constantLong RX4 110 (3000), Cond.methodLink RX4 112 yX4_shotOf, Cond.instanceMethod yX4_shotOf, Cond.selects RX4 yX4_shotOf yX4_shotOf, Cond.code yX4_shotOf cX4_shotOf 3 (some .int), Cond.methodLink RX4 115 yX4_makeShot, Cond.instanceMethod yX4_makeShot, Cond.selects RX4 yX4_makeShot yX4_makeShot, Cond.code yX4_makeShot cX4_makeShot 3 none]
def wsX4_readItem : List Cond := .code yX4_readItem cX4_readItem 3 none :: ((wsX4_readItem_r1 ++ (wsX4_readItem_r2 ++ wsX4_readItem_r3)) ++ wsX40)
def wsX4_exchange : List Cond := .code yX4_exchange cX4_exchange 3 none :: ([.fieldLink RX4 7 "VoiceWordsModel" "s" "[I", .fieldLink RX4 13 "VoiceWordsModel" "aside" "[I"] ++ wsX40)
def wsX4_hold : List Cond := .code yX4_hold cX4_hold 2 none :: ([.fieldLink RX4 13 "VoiceWordsModel" "aside" "[I", .fieldLink RX4 7 "VoiceWordsModel" "s" "[I"] ++ wsX40)
def wsX4_load_r1 : List Cond := [Cond.fieldLink RX4 26 "VoiceWordsModel" "thrown" "I", Cond.fieldLink RX4 127 "VoiceWordsModel" "next" "I", Cond.fieldLink RX4 158 "VoiceWordsModel" "isWrong" "Z", Cond.fieldLink RX4 145 "VoiceWordsModel" "token" "I", Cond.fieldLink RX4 134 "VoiceWordsModel" "start" "I", Cond.fieldLink RX4 124 "VoiceWordsModel" "length" "I", Cond.methodLink RX4 193 yX4_hold, Cond.instanceMethod yX4_hold, Cond.selects RX4 yX4_hold yX4_hold, Cond.initialized RX4, Cond.code yX4_hold cX4_hold 2 none, Cond.fieldLink RX4 13 "VoiceWordsModel" "aside" "[I", Cond.fieldLink RX4 7 "VoiceWordsModel" "s" "[I", Cond.methodLink RX4 162 yX4_read, Cond.instanceMethod yX4_read, Cond.selects RX4 yX4_read yX4_read, Cond.code yX4_read cX4_read 1 none, Cond.fieldLink RX4 137 "VoiceWordsModel" "worth" "J", Cond.constantLong RX4 141 (97), Cond.constantLong RX4 143 (122), Cond.constantLong RX4 148 (27), Cond.constantLong RX4 150 (48), Cond.constantLong RX4 152 (57), Cond.constantLong RX4 154 (10000)]
def wsX4_load_r2 : List Cond := [Cond.constantLong RX4 156 (10), Cond.fieldLink RX4 19 "VoiceWordsModel" "text" "[I", Cond.methodLink RX4 130 yX4_here, Cond.instanceMethod yX4_here, Cond.selects RX4 yX4_here yX4_here, Cond.code yX4_here cX4_here 1 (some .int), Cond.methodLink RX4 33 yX4_in, Cond.static yX4_in, Cond.code yX4_in cX4_in 6 (some .boolean), Cond.methodLink RX4 196 yX4_readItem, Cond.instanceMethod yX4_readItem, Cond.selects RX4 yX4_readItem yX4_readItem, Cond.code yX4_readItem cX4_readItem 3 none, Cond.constantLong RX4 183 (13903), Cond.constantLong RX4 185 (2774), Cond.methodLink RX4 165 yX4_accept, Cond.instanceMethod yX4_accept, Cond.selects RX4 yX4_accept yX4_accept, Cond.code yX4_accept cX4_accept 3 (some .int), Cond.methodLink RX4 187 yX4_readWord, Cond.instanceMethod yX4_readWord, Cond.selects RX4 yX4_readWord yX4_readWord, Cond.code yX4_readWord cX4_readWord 9 none, Cond.methodLink RX4 177 yX4_number]
def wsX4_load_r3 : List Cond := [Cond.instanceMethod yX4_number, Cond.selects RX4 yX4_number yX4_number, Cond.code yX4_number cX4_number 3 (some .int), Cond.methodLink RX4 180 yX4_wayOf, Cond.instanceMethod yX4_wayOf, Cond.selects RX4 yX4_wayOf yX4_wayOf, Cond.code yX4_wayOf cX4_wayOf 1 (some .int), Cond.constantLong RX4 169 (240023), Cond.constantLong RX4 171 (9748424), Cond.constantLong RX4 173 (583), Cond.constantLong RX4 175 (90302), Cond.methodLink RX4 99 yX4_makeWord, Cond.instanceMethod yX4_makeWord, Cond.selects RX4 yX4_makeWord yX4_makeWord, Cond.code yX4_makeWord cX4_makeWord 7 (some .int), Cond.methodLink RX4 81 yX4_set, Cond.instanceMethod yX4_set, Cond.selects RX4 yX4_set yX4_set, Cond.code yX4_set cX4_set 4 none, Cond.methodLink RX4 190 yX4_readShot, Cond.instanceMethod yX4_readShot, Cond.selects RX4 yX4_readShot yX4_readShot, Cond.code yX4_readShot cX4_readShot 2 none, Cond.constantLong RX4 110 (3000)]
def wsX4_load_r4 : List Cond := [Cond.methodLink RX4 112 yX4_shotOf, Cond.instanceMethod yX4_shotOf, Cond.selects RX4 yX4_shotOf yX4_shotOf, Cond.code yX4_shotOf cX4_shotOf 3 (some .int), Cond.methodLink RX4 115 yX4_makeShot, Cond.instanceMethod yX4_makeShot, Cond.selects RX4 yX4_makeShot yX4_makeShot, Cond.code yX4_makeShot cX4_makeShot 3 none, Cond.methodLink RX4 199 yX4_exchange, Cond.instanceMethod yX4_exchange, Cond.selects RX4 yX4_exchange yX4_exchange, Cond.code yX4_exchange cX4_exchange 3 none, Cond.methodLink RX4 96 yX4_act, Cond.instanceMethod yX4_act, Cond.selects RX4 yX4_act yX4_act, Cond.code yX4_act cX4_act 2 none, Cond.fieldLink RX4 30 "VoiceWordsModel" "savedMany" "I", Cond.fieldLink RX4 16 "VoiceWordsModel" "saved" "[I"]
def wsX4_load : List Cond := .code yX4_load cX4_load 2 (some .int) :: ((wsX4_load_r1 ++ (wsX4_load_r2 ++ (wsX4_load_r3 ++ wsX4_load_r4))) ++ wsX40)
def wsX4_isPlace : List Cond := .code yX4_isPlace cX4_isPlace 4 (some .boolean) :: ([.constantLong RX4 62 (7), .methodLink RX4 103 yX4_isWord, .instanceMethod yX4_isWord, .selects RX4 yX4_isWord yX4_isWord, .initialized RX4, .code yX4_isWord cX4_isWord 2 (some .boolean), .fieldLink RX4 7 "VoiceWordsModel" "s" "[I", .methodLink RX4 33 yX4_in, .static yX4_in, .code yX4_in cX4_in 6 (some .boolean), .methodLink RX4 37 yX4_of, .instanceMethod yX4_of, .selects RX4 yX4_of yX4_of, .code yX4_of cX4_of 3 (some .int)] ++ wsX40)
def wsX4_lay : List Cond := .code yX4_lay cX4_lay 4 none :: ([.methodLink RX4 81 yX4_set, .instanceMethod yX4_set, .selects RX4 yX4_set yX4_set, .initialized RX4, .code yX4_set cX4_set 4 none, .fieldLink RX4 7 "VoiceWordsModel" "s" "[I"] ++ wsX40)
def wsX4_put_r1 : List Cond := [Cond.fieldLink RX4 26 "VoiceWordsModel" "thrown" "I", Cond.methodLink RX4 202 yX4_isPlace, Cond.instanceMethod yX4_isPlace, Cond.selects RX4 yX4_isPlace yX4_isPlace, Cond.initialized RX4, Cond.code yX4_isPlace cX4_isPlace 4 (some .boolean), Cond.constantLong RX4 62 (7), Cond.methodLink RX4 103 yX4_isWord, Cond.instanceMethod yX4_isWord, Cond.selects RX4 yX4_isWord yX4_isWord, Cond.code yX4_isWord cX4_isWord 2 (some .boolean), Cond.fieldLink RX4 7 "VoiceWordsModel" "s" "[I", Cond.methodLink RX4 33 yX4_in, Cond.static yX4_in, Cond.code yX4_in cX4_in 6 (some .boolean), Cond.methodLink RX4 37 yX4_of, Cond.instanceMethod yX4_of, Cond.selects RX4 yX4_of yX4_of, Cond.code yX4_of cX4_of 3 (some .int), Cond.methodLink RX4 193 yX4_hold, Cond.instanceMethod yX4_hold, Cond.selects RX4 yX4_hold yX4_hold, Cond.code yX4_hold cX4_hold 2 none, Cond.fieldLink RX4 13 "VoiceWordsModel" "aside" "[I"]
def wsX4_put_r2 : List Cond := [Cond.methodLink RX4 205 yX4_lay, Cond.instanceMethod yX4_lay, Cond.selects RX4 yX4_lay yX4_lay, Cond.code yX4_lay cX4_lay 4 none, Cond.methodLink RX4 81 yX4_set, Cond.instanceMethod yX4_set, Cond.selects RX4 yX4_set yX4_set, Cond.code yX4_set cX4_set 4 none, Cond.methodLink RX4 208 yX4_meetsAny, Cond.instanceMethod yX4_meetsAny, Cond.selects RX4 yX4_meetsAny yX4_meetsAny, Cond.code yX4_meetsAny cX4_meetsAny 4 (some .boolean), Cond.methodLink RX4 41 yX4_isPut, Cond.instanceMethod yX4_isPut, Cond.selects RX4 yX4_isPut yX4_isPut, Cond.code yX4_isPut cX4_isPut 2 (some .boolean), Cond.methodLink RX4 78 yX4_meetingOf, Cond.instanceMethod yX4_meetingOf, Cond.selects RX4 yX4_meetingOf yX4_meetingOf, Cond.code yX4_meetingOf cX4_meetingOf 4 (some .int), Cond.methodLink RX4 68 yX4_more, Cond.static yX4_more, Cond.code yX4_more cX4_more 2 (some .int), Cond.methodLink RX4 64 yX4_isOn]
def wsX4_put_r3 : List Cond := [Cond.instanceMethod yX4_isOn, Cond.selects RX4 yX4_isOn yX4_isOn, Cond.code yX4_isOn cX4_isOn 4 (some .boolean), Cond.methodLink RX4 53 yX4_cut, Cond.instanceMethod yX4_cut, Cond.selects RX4 yX4_cut yX4_cut, Cond.code yX4_cut cX4_cut 4 (some .int), Cond.methodLink RX4 45 yX4_behind, Cond.instanceMethod yX4_behind, Cond.selects RX4 yX4_behind yX4_behind, Cond.code yX4_behind cX4_behind 2 (some .int), Cond.methodLink RX4 56 yX4_columnAt, Cond.instanceMethod yX4_columnAt, Cond.selects RX4 yX4_columnAt yX4_columnAt, Cond.code yX4_columnAt cX4_columnAt 4 (some .int), Cond.methodLink RX4 50 yX4_moved, Cond.instanceMethod yX4_moved, Cond.selects RX4 yX4_moved yX4_moved, Cond.code yX4_moved cX4_moved 5 (some .int), Cond.constantFloat RX4 49 (1120403456), Cond.methodLink RX4 59 yX4_rowAt, Cond.instanceMethod yX4_rowAt, Cond.selects RX4 yX4_rowAt yX4_rowAt, Cond.code yX4_rowAt cX4_rowAt 4 (some .int)]
def wsX4_put_r4 : List Cond := [Cond.methodLink RX4 74 yX4_meetsAt, Cond.instanceMethod yX4_meetsAt, Cond.selects RX4 yX4_meetsAt yX4_meetsAt, Cond.code yX4_meetsAt cX4_meetsAt 6 (some .boolean), Cond.methodLink RX4 71 yX4_less, Cond.static yX4_less, Cond.code yX4_less cX4_less 2 (some .int), Cond.methodLink RX4 199 yX4_exchange, Cond.instanceMethod yX4_exchange, Cond.selects RX4 yX4_exchange yX4_exchange, Cond.code yX4_exchange cX4_exchange 3 none, Cond.methodLink RX4 96 yX4_act, Cond.instanceMethod yX4_act, Cond.selects RX4 yX4_act yX4_act, Cond.code yX4_act cX4_act 2 none, Cond.fieldLink RX4 30 "VoiceWordsModel" "savedMany" "I", Cond.fieldLink RX4 16 "VoiceWordsModel" "saved" "[I", Cond.methodLink RX4 211 yX4_putMany, Cond.instanceMethod yX4_putMany, Cond.selects RX4 yX4_putMany yX4_putMany, Cond.code yX4_putMany cX4_putMany 3 (some .int)]
def wsX4_put : List Cond := .code yX4_put cX4_put 5 (some .int) :: ((wsX4_put_r1 ++ (wsX4_put_r2 ++ (wsX4_put_r3 ++ wsX4_put_r4))) ++ wsX40)
def wsX4_take_r1 : List Cond := [Cond.fieldLink RX4 26 "VoiceWordsModel" "thrown" "I", Cond.methodLink RX4 103 yX4_isWord, Cond.instanceMethod yX4_isWord, Cond.selects RX4 yX4_isWord yX4_isWord, Cond.initialized RX4, Cond.code yX4_isWord cX4_isWord 2 (some .boolean), Cond.fieldLink RX4 7 "VoiceWordsModel" "s" "[I", Cond.methodLink RX4 33 yX4_in, Cond.static yX4_in, Cond.code yX4_in cX4_in 6 (some .boolean), Cond.methodLink RX4 41 yX4_isPut, Cond.instanceMethod yX4_isPut, Cond.selects RX4 yX4_isPut yX4_isPut, Cond.code yX4_isPut cX4_isPut 2 (some .boolean), Cond.methodLink RX4 37 yX4_of, Cond.instanceMethod yX4_of, Cond.selects RX4 yX4_of yX4_of, Cond.code yX4_of cX4_of 3 (some .int), Cond.methodLink RX4 96 yX4_act, Cond.instanceMethod yX4_act, Cond.selects RX4 yX4_act yX4_act, Cond.code yX4_act cX4_act 2 none, Cond.fieldLink RX4 30 "VoiceWordsModel" "savedMany" "I", Cond.fieldLink RX4 16 "VoiceWordsModel" "saved" "[I"]
def wsX4_take_r2 : List Cond := [Cond.methodLink RX4 106 yX4_takeOff, Cond.instanceMethod yX4_takeOff, Cond.selects RX4 yX4_takeOff yX4_takeOff, Cond.code yX4_takeOff cX4_takeOff 2 none, Cond.methodLink RX4 81 yX4_set, Cond.instanceMethod yX4_set, Cond.selects RX4 yX4_set yX4_set, Cond.code yX4_set cX4_set 4 none, Cond.methodLink RX4 211 yX4_putMany, Cond.instanceMethod yX4_putMany, Cond.selects RX4 yX4_putMany yX4_putMany, Cond.code yX4_putMany cX4_putMany 3 (some .int)]
def wsX4_take : List Cond := .code yX4_take cX4_take 2 (some .int) :: ((wsX4_take_r1 ++ wsX4_take_r2) ++ wsX40)
def wsX4_nextWord : List Cond := .code yX4_nextWord cX4_nextWord 4 (some .int) :: ([.fieldLink RX4 7 "VoiceWordsModel" "s" "[I", .fieldLink RX4 22 "VoiceWordsModel" "isDone" "[Z", .methodLink RX4 37 yX4_of, .instanceMethod yX4_of, .selects RX4 yX4_of yX4_of, .initialized RX4, .code yX4_of cX4_of 3 (some .int)] ++ wsX40)
def wsX4_laneOf : List Cond := .code yX4_laneOf cX4_laneOf 1 (some .int) :: ([])
def wsX4_laysIn_r1 : List Cond := [Cond.methodLink RX4 37 yX4_of, Cond.instanceMethod yX4_of, Cond.selects RX4 yX4_of yX4_of, Cond.initialized RX4, Cond.code yX4_of cX4_of 3 (some .int), Cond.fieldLink RX4 7 "VoiceWordsModel" "s" "[I", Cond.methodLink RX4 33 yX4_in, Cond.static yX4_in, Cond.code yX4_in cX4_in 6 (some .boolean), Cond.methodLink RX4 205 yX4_lay, Cond.instanceMethod yX4_lay, Cond.selects RX4 yX4_lay yX4_lay, Cond.code yX4_lay cX4_lay 4 none, Cond.methodLink RX4 81 yX4_set, Cond.instanceMethod yX4_set, Cond.selects RX4 yX4_set yX4_set, Cond.code yX4_set cX4_set 4 none, Cond.methodLink RX4 208 yX4_meetsAny, Cond.instanceMethod yX4_meetsAny, Cond.selects RX4 yX4_meetsAny yX4_meetsAny, Cond.code yX4_meetsAny cX4_meetsAny 4 (some .boolean), Cond.methodLink RX4 41 yX4_isPut, Cond.instanceMethod yX4_isPut, Cond.selects RX4 yX4_isPut yX4_isPut]
def wsX4_laysIn_r2 : List Cond := [Cond.code yX4_isPut cX4_isPut 2 (some .boolean), Cond.methodLink RX4 78 yX4_meetingOf, Cond.instanceMethod yX4_meetingOf, Cond.selects RX4 yX4_meetingOf yX4_meetingOf, Cond.code yX4_meetingOf cX4_meetingOf 4 (some .int), Cond.methodLink RX4 68 yX4_more, Cond.static yX4_more, Cond.code yX4_more cX4_more 2 (some .int), Cond.methodLink RX4 64 yX4_isOn, Cond.instanceMethod yX4_isOn, Cond.selects RX4 yX4_isOn yX4_isOn, Cond.code yX4_isOn cX4_isOn 4 (some .boolean), Cond.constantLong RX4 62 (7), Cond.methodLink RX4 53 yX4_cut, Cond.instanceMethod yX4_cut, Cond.selects RX4 yX4_cut yX4_cut, Cond.code yX4_cut cX4_cut 4 (some .int), Cond.methodLink RX4 45 yX4_behind, Cond.instanceMethod yX4_behind, Cond.selects RX4 yX4_behind yX4_behind, Cond.code yX4_behind cX4_behind 2 (some .int), Cond.methodLink RX4 56 yX4_columnAt, Cond.instanceMethod yX4_columnAt, Cond.selects RX4 yX4_columnAt yX4_columnAt]
def wsX4_laysIn_r3 : List Cond := [Cond.code yX4_columnAt cX4_columnAt 4 (some .int), Cond.methodLink RX4 50 yX4_moved, Cond.instanceMethod yX4_moved, Cond.selects RX4 yX4_moved yX4_moved, Cond.code yX4_moved cX4_moved 5 (some .int), Cond.constantFloat RX4 49 (1120403456), Cond.methodLink RX4 59 yX4_rowAt, Cond.instanceMethod yX4_rowAt, Cond.selects RX4 yX4_rowAt yX4_rowAt, Cond.code yX4_rowAt cX4_rowAt 4 (some .int), Cond.methodLink RX4 74 yX4_meetsAt, Cond.instanceMethod yX4_meetsAt, Cond.selects RX4 yX4_meetsAt yX4_meetsAt, Cond.code yX4_meetsAt cX4_meetsAt 6 (some .boolean), Cond.methodLink RX4 71 yX4_less, Cond.static yX4_less, Cond.code yX4_less cX4_less 2 (some .int), Cond.methodLink RX4 106 yX4_takeOff, Cond.instanceMethod yX4_takeOff, Cond.selects RX4 yX4_takeOff yX4_takeOff, Cond.code yX4_takeOff cX4_takeOff 2 none]
def wsX4_laysIn : List Cond := .code yX4_laysIn cX4_laysIn 8 (some .boolean) :: ((wsX4_laysIn_r1 ++ (wsX4_laysIn_r2 ++ wsX4_laysIn_r3)) ++ wsX40)
def wsX4_putAll_r1 : List Cond := [Cond.fieldLink RX4 26 "VoiceWordsModel" "thrown" "I", Cond.fieldLink RX4 7 "VoiceWordsModel" "s" "[I", Cond.fieldLink RX4 22 "VoiceWordsModel" "isDone" "[Z", Cond.methodLink RX4 96 yX4_act, Cond.instanceMethod yX4_act, Cond.selects RX4 yX4_act yX4_act, Cond.initialized RX4, Cond.code yX4_act cX4_act 2 none, Cond.fieldLink RX4 30 "VoiceWordsModel" "savedMany" "I", Cond.fieldLink RX4 16 "VoiceWordsModel" "saved" "[I", Cond.methodLink RX4 106 yX4_takeOff, Cond.instanceMethod yX4_takeOff, Cond.selects RX4 yX4_takeOff yX4_takeOff, Cond.code yX4_takeOff cX4_takeOff 2 none, Cond.methodLink RX4 81 yX4_set, Cond.instanceMethod yX4_set, Cond.selects RX4 yX4_set yX4_set, Cond.code yX4_set cX4_set 4 none, Cond.methodLink RX4 214 yX4_nextWord, Cond.instanceMethod yX4_nextWord, Cond.selects RX4 yX4_nextWord yX4_nextWord, Cond.code yX4_nextWord cX4_nextWord 4 (some .int), Cond.methodLink RX4 37 yX4_of, Cond.instanceMethod yX4_of]
def wsX4_putAll_r2 : List Cond := [Cond.selects RX4 yX4_of yX4_of, Cond.code yX4_of cX4_of 3 (some .int), Cond.methodLink RX4 217 yX4_laneOf, Cond.static yX4_laneOf, Cond.code yX4_laneOf cX4_laneOf 1 (some .int), Cond.methodLink RX4 220 yX4_laysIn, Cond.instanceMethod yX4_laysIn, Cond.selects RX4 yX4_laysIn yX4_laysIn, Cond.code yX4_laysIn cX4_laysIn 8 (some .boolean), Cond.methodLink RX4 33 yX4_in, Cond.static yX4_in, Cond.code yX4_in cX4_in 6 (some .boolean), Cond.methodLink RX4 205 yX4_lay, Cond.instanceMethod yX4_lay, Cond.selects RX4 yX4_lay yX4_lay, Cond.code yX4_lay cX4_lay 4 none, Cond.methodLink RX4 208 yX4_meetsAny, Cond.instanceMethod yX4_meetsAny, Cond.selects RX4 yX4_meetsAny yX4_meetsAny, Cond.code yX4_meetsAny cX4_meetsAny 4 (some .boolean), Cond.methodLink RX4 41 yX4_isPut, Cond.instanceMethod yX4_isPut, Cond.selects RX4 yX4_isPut yX4_isPut, Cond.code yX4_isPut cX4_isPut 2 (some .boolean)]
def wsX4_putAll_r3 : List Cond := [Cond.methodLink RX4 78 yX4_meetingOf, Cond.instanceMethod yX4_meetingOf, Cond.selects RX4 yX4_meetingOf yX4_meetingOf, Cond.code yX4_meetingOf cX4_meetingOf 4 (some .int), Cond.methodLink RX4 68 yX4_more, Cond.static yX4_more, Cond.code yX4_more cX4_more 2 (some .int), Cond.methodLink RX4 64 yX4_isOn, Cond.instanceMethod yX4_isOn, Cond.selects RX4 yX4_isOn yX4_isOn, Cond.code yX4_isOn cX4_isOn 4 (some .boolean), Cond.constantLong RX4 62 (7), Cond.methodLink RX4 53 yX4_cut, Cond.instanceMethod yX4_cut, Cond.selects RX4 yX4_cut yX4_cut, Cond.code yX4_cut cX4_cut 4 (some .int), Cond.methodLink RX4 45 yX4_behind, Cond.instanceMethod yX4_behind, Cond.selects RX4 yX4_behind yX4_behind, Cond.code yX4_behind cX4_behind 2 (some .int), Cond.methodLink RX4 56 yX4_columnAt, Cond.instanceMethod yX4_columnAt, Cond.selects RX4 yX4_columnAt yX4_columnAt, Cond.code yX4_columnAt cX4_columnAt 4 (some .int)]
def wsX4_putAll_r4 : List Cond := [Cond.methodLink RX4 50 yX4_moved, Cond.instanceMethod yX4_moved, Cond.selects RX4 yX4_moved yX4_moved, Cond.code yX4_moved cX4_moved 5 (some .int), Cond.constantFloat RX4 49 (1120403456), Cond.methodLink RX4 59 yX4_rowAt, Cond.instanceMethod yX4_rowAt, Cond.selects RX4 yX4_rowAt yX4_rowAt, Cond.code yX4_rowAt cX4_rowAt 4 (some .int), Cond.methodLink RX4 74 yX4_meetsAt, Cond.instanceMethod yX4_meetsAt, Cond.selects RX4 yX4_meetsAt yX4_meetsAt, Cond.code yX4_meetsAt cX4_meetsAt 6 (some .boolean), Cond.methodLink RX4 71 yX4_less, Cond.static yX4_less, Cond.code yX4_less cX4_less 2 (some .int), Cond.methodLink RX4 211 yX4_putMany, Cond.instanceMethod yX4_putMany, Cond.selects RX4 yX4_putMany yX4_putMany, Cond.code yX4_putMany cX4_putMany 3 (some .int)]
def wsX4_putAll : List Cond := .code yX4_putAll cX4_putAll 4 (some .int) :: ((wsX4_putAll_r1 ++ (wsX4_putAll_r2 ++ (wsX4_putAll_r3 ++ wsX4_putAll_r4))) ++ wsX40)
def wsX4_undo : List Cond := .code yX4_undo cX4_undo 2 (some .int) :: ([.fieldLink RX4 26 "VoiceWordsModel" "thrown" "I", .fieldLink RX4 30 "VoiceWordsModel" "savedMany" "I", .fieldLink RX4 7 "VoiceWordsModel" "s" "[I", .fieldLink RX4 16 "VoiceWordsModel" "saved" "[I"] ++ wsX40)
def wsX4_meetingPairs_r1 : List Cond := [Cond.fieldLink RX4 7 "VoiceWordsModel" "s" "[I", Cond.methodLink RX4 78 yX4_meetingOf, Cond.instanceMethod yX4_meetingOf, Cond.selects RX4 yX4_meetingOf yX4_meetingOf, Cond.initialized RX4, Cond.code yX4_meetingOf cX4_meetingOf 4 (some .int), Cond.methodLink RX4 37 yX4_of, Cond.instanceMethod yX4_of, Cond.selects RX4 yX4_of yX4_of, Cond.code yX4_of cX4_of 3 (some .int), Cond.methodLink RX4 68 yX4_more, Cond.static yX4_more, Cond.code yX4_more cX4_more 2 (some .int), Cond.methodLink RX4 64 yX4_isOn, Cond.instanceMethod yX4_isOn, Cond.selects RX4 yX4_isOn yX4_isOn, Cond.code yX4_isOn cX4_isOn 4 (some .boolean), Cond.constantLong RX4 62 (7), Cond.methodLink RX4 41 yX4_isPut, Cond.instanceMethod yX4_isPut, Cond.selects RX4 yX4_isPut yX4_isPut, Cond.code yX4_isPut cX4_isPut 2 (some .boolean), Cond.methodLink RX4 53 yX4_cut, Cond.instanceMethod yX4_cut]
def wsX4_meetingPairs_r2 : List Cond := [Cond.selects RX4 yX4_cut yX4_cut, Cond.code yX4_cut cX4_cut 4 (some .int), Cond.methodLink RX4 45 yX4_behind, Cond.instanceMethod yX4_behind, Cond.selects RX4 yX4_behind yX4_behind, Cond.code yX4_behind cX4_behind 2 (some .int), Cond.methodLink RX4 56 yX4_columnAt, Cond.instanceMethod yX4_columnAt, Cond.selects RX4 yX4_columnAt yX4_columnAt, Cond.code yX4_columnAt cX4_columnAt 4 (some .int), Cond.methodLink RX4 50 yX4_moved, Cond.instanceMethod yX4_moved, Cond.selects RX4 yX4_moved yX4_moved, Cond.code yX4_moved cX4_moved 5 (some .int), Cond.constantFloat RX4 49 (1120403456), Cond.methodLink RX4 59 yX4_rowAt, Cond.instanceMethod yX4_rowAt, Cond.selects RX4 yX4_rowAt yX4_rowAt, Cond.code yX4_rowAt cX4_rowAt 4 (some .int), Cond.methodLink RX4 33 yX4_in, Cond.static yX4_in, Cond.code yX4_in cX4_in 6 (some .boolean), Cond.methodLink RX4 74 yX4_meetsAt, Cond.instanceMethod yX4_meetsAt]
def wsX4_meetingPairs_r3 : List Cond := [Cond.selects RX4 yX4_meetsAt yX4_meetsAt, Cond.code yX4_meetsAt cX4_meetsAt 6 (some .boolean), Cond.methodLink RX4 71 yX4_less, Cond.static yX4_less, Cond.code yX4_less cX4_less 2 (some .int)]
def wsX4_meetingPairs : List Cond := .code yX4_meetingPairs cX4_meetingPairs 4 (some .int) :: ((wsX4_meetingPairs_r1 ++ (wsX4_meetingPairs_r2 ++ wsX4_meetingPairs_r3)) ++ wsX40)
def wsX4_count_r1 : List Cond := [Cond.fieldLink RX4 26 "VoiceWordsModel" "thrown" "I", Cond.fieldLink RX4 7 "VoiceWordsModel" "s" "[I", Cond.fieldLink RX4 30 "VoiceWordsModel" "savedMany" "I", Cond.fieldLink RX4 124 "VoiceWordsModel" "length" "I", Cond.methodLink RX4 211 yX4_putMany, Cond.instanceMethod yX4_putMany, Cond.selects RX4 yX4_putMany yX4_putMany, Cond.initialized RX4, Cond.code yX4_putMany cX4_putMany 3 (some .int), Cond.methodLink RX4 41 yX4_isPut, Cond.instanceMethod yX4_isPut, Cond.selects RX4 yX4_isPut yX4_isPut, Cond.code yX4_isPut cX4_isPut 2 (some .boolean), Cond.methodLink RX4 37 yX4_of, Cond.instanceMethod yX4_of, Cond.selects RX4 yX4_of yX4_of, Cond.code yX4_of cX4_of 3 (some .int), Cond.methodLink RX4 223 yX4_meetingPairs, Cond.instanceMethod yX4_meetingPairs, Cond.selects RX4 yX4_meetingPairs yX4_meetingPairs, Cond.code yX4_meetingPairs cX4_meetingPairs 4 (some .int), Cond.methodLink RX4 78 yX4_meetingOf, Cond.instanceMethod yX4_meetingOf, Cond.selects RX4 yX4_meetingOf yX4_meetingOf]
def wsX4_count_r2 : List Cond := [Cond.code yX4_meetingOf cX4_meetingOf 4 (some .int), Cond.methodLink RX4 68 yX4_more, Cond.static yX4_more, Cond.code yX4_more cX4_more 2 (some .int), Cond.methodLink RX4 64 yX4_isOn, Cond.instanceMethod yX4_isOn, Cond.selects RX4 yX4_isOn yX4_isOn, Cond.code yX4_isOn cX4_isOn 4 (some .boolean), Cond.constantLong RX4 62 (7), Cond.methodLink RX4 53 yX4_cut, Cond.instanceMethod yX4_cut, Cond.selects RX4 yX4_cut yX4_cut, Cond.code yX4_cut cX4_cut 4 (some .int), Cond.methodLink RX4 45 yX4_behind, Cond.instanceMethod yX4_behind, Cond.selects RX4 yX4_behind yX4_behind, Cond.code yX4_behind cX4_behind 2 (some .int), Cond.methodLink RX4 56 yX4_columnAt, Cond.instanceMethod yX4_columnAt, Cond.selects RX4 yX4_columnAt yX4_columnAt, Cond.code yX4_columnAt cX4_columnAt 4 (some .int), Cond.methodLink RX4 50 yX4_moved, Cond.instanceMethod yX4_moved, Cond.selects RX4 yX4_moved yX4_moved]
def wsX4_count_r3 : List Cond := [Cond.code yX4_moved cX4_moved 5 (some .int), Cond.constantFloat RX4 49 (1120403456), Cond.methodLink RX4 59 yX4_rowAt, Cond.instanceMethod yX4_rowAt, Cond.selects RX4 yX4_rowAt yX4_rowAt, Cond.code yX4_rowAt cX4_rowAt 4 (some .int), Cond.methodLink RX4 33 yX4_in, Cond.static yX4_in, Cond.code yX4_in cX4_in 6 (some .boolean), Cond.methodLink RX4 74 yX4_meetsAt, Cond.instanceMethod yX4_meetsAt, Cond.selects RX4 yX4_meetsAt yX4_meetsAt, Cond.code yX4_meetsAt cX4_meetsAt 6 (some .boolean), Cond.methodLink RX4 71 yX4_less, Cond.static yX4_less, Cond.code yX4_less cX4_less 2 (some .int)]
def wsX4_count : List Cond := .code yX4_count cX4_count 2 (some .int) :: ((wsX4_count_r1 ++ (wsX4_count_r2 ++ wsX4_count_r3)) ++ wsX40)
def wsX4_lastOn_r1 : List Cond := [Cond.methodLink RX4 37 yX4_of, Cond.instanceMethod yX4_of, Cond.selects RX4 yX4_of yX4_of, Cond.initialized RX4, Cond.code yX4_of cX4_of 3 (some .int), Cond.fieldLink RX4 7 "VoiceWordsModel" "s" "[I", Cond.methodLink RX4 64 yX4_isOn, Cond.instanceMethod yX4_isOn, Cond.selects RX4 yX4_isOn yX4_isOn, Cond.code yX4_isOn cX4_isOn 4 (some .boolean), Cond.constantLong RX4 62 (7), Cond.methodLink RX4 41 yX4_isPut, Cond.instanceMethod yX4_isPut, Cond.selects RX4 yX4_isPut yX4_isPut, Cond.code yX4_isPut cX4_isPut 2 (some .boolean), Cond.methodLink RX4 53 yX4_cut, Cond.instanceMethod yX4_cut, Cond.selects RX4 yX4_cut yX4_cut, Cond.code yX4_cut cX4_cut 4 (some .int), Cond.methodLink RX4 45 yX4_behind, Cond.instanceMethod yX4_behind, Cond.selects RX4 yX4_behind yX4_behind, Cond.code yX4_behind cX4_behind 2 (some .int), Cond.methodLink RX4 56 yX4_columnAt]
def wsX4_lastOn_r2 : List Cond := [Cond.instanceMethod yX4_columnAt, Cond.selects RX4 yX4_columnAt yX4_columnAt, Cond.code yX4_columnAt cX4_columnAt 4 (some .int), Cond.methodLink RX4 50 yX4_moved, Cond.instanceMethod yX4_moved, Cond.selects RX4 yX4_moved yX4_moved, Cond.code yX4_moved cX4_moved 5 (some .int), Cond.constantFloat RX4 49 (1120403456), Cond.methodLink RX4 59 yX4_rowAt, Cond.instanceMethod yX4_rowAt, Cond.selects RX4 yX4_rowAt yX4_rowAt, Cond.code yX4_rowAt cX4_rowAt 4 (some .int), Cond.methodLink RX4 33 yX4_in, Cond.static yX4_in, Cond.code yX4_in cX4_in 6 (some .boolean)]
def wsX4_lastOn : List Cond := .code yX4_lastOn cX4_lastOn 3 (some .int) :: ((wsX4_lastOn_r1 ++ wsX4_lastOn_r2) ++ wsX40)
def wsX4_word_r1 : List Cond := [Cond.fieldLink RX4 26 "VoiceWordsModel" "thrown" "I", Cond.constantLong RX4 62 (7), Cond.methodLink RX4 103 yX4_isWord, Cond.instanceMethod yX4_isWord, Cond.selects RX4 yX4_isWord yX4_isWord, Cond.initialized RX4, Cond.code yX4_isWord cX4_isWord 2 (some .boolean), Cond.fieldLink RX4 7 "VoiceWordsModel" "s" "[I", Cond.methodLink RX4 33 yX4_in, Cond.static yX4_in, Cond.code yX4_in cX4_in 6 (some .boolean), Cond.methodLink RX4 37 yX4_of, Cond.instanceMethod yX4_of, Cond.selects RX4 yX4_of yX4_of, Cond.code yX4_of cX4_of 3 (some .int), Cond.methodLink RX4 41 yX4_isPut, Cond.instanceMethod yX4_isPut, Cond.selects RX4 yX4_isPut yX4_isPut, Cond.code yX4_isPut cX4_isPut 2 (some .boolean), Cond.methodLink RX4 226 yX4_lastOn, Cond.instanceMethod yX4_lastOn, Cond.selects RX4 yX4_lastOn yX4_lastOn, Cond.code yX4_lastOn cX4_lastOn 3 (some .int), Cond.methodLink RX4 64 yX4_isOn]
def wsX4_word_r2 : List Cond := [Cond.instanceMethod yX4_isOn, Cond.selects RX4 yX4_isOn yX4_isOn, Cond.code yX4_isOn cX4_isOn 4 (some .boolean), Cond.methodLink RX4 53 yX4_cut, Cond.instanceMethod yX4_cut, Cond.selects RX4 yX4_cut yX4_cut, Cond.code yX4_cut cX4_cut 4 (some .int), Cond.methodLink RX4 45 yX4_behind, Cond.instanceMethod yX4_behind, Cond.selects RX4 yX4_behind yX4_behind, Cond.code yX4_behind cX4_behind 2 (some .int), Cond.methodLink RX4 56 yX4_columnAt, Cond.instanceMethod yX4_columnAt, Cond.selects RX4 yX4_columnAt yX4_columnAt, Cond.code yX4_columnAt cX4_columnAt 4 (some .int), Cond.methodLink RX4 50 yX4_moved, Cond.instanceMethod yX4_moved, Cond.selects RX4 yX4_moved yX4_moved, Cond.code yX4_moved cX4_moved 5 (some .int), Cond.constantFloat RX4 49 (1120403456), Cond.methodLink RX4 59 yX4_rowAt, Cond.instanceMethod yX4_rowAt, Cond.selects RX4 yX4_rowAt yX4_rowAt, Cond.code yX4_rowAt cX4_rowAt 4 (some .int)]
def wsX4_word : List Cond := .code yX4_word cX4_word 3 (some .int) :: ((wsX4_word_r1 ++ wsX4_word_r2) ++ wsX40)
def wsX4_letter : List Cond := .code yX4_letter cX4_letter 3 (some .int) :: ([.fieldLink RX4 26 "VoiceWordsModel" "thrown" "I", .methodLink RX4 103 yX4_isWord, .instanceMethod yX4_isWord, .selects RX4 yX4_isWord yX4_isWord, .initialized RX4, .code yX4_isWord cX4_isWord 2 (some .boolean), .fieldLink RX4 7 "VoiceWordsModel" "s" "[I", .methodLink RX4 33 yX4_in, .static yX4_in, .code yX4_in cX4_in 6 (some .boolean), .methodLink RX4 37 yX4_of, .instanceMethod yX4_of, .selects RX4 yX4_of yX4_of, .code yX4_of cX4_of 3 (some .int)] ++ wsX40)
def wsX4_shot : List Cond := .code yX4_shot cX4_shot 2 (some .int) :: ([.fieldLink RX4 26 "VoiceWordsModel" "thrown" "I", .fieldLink RX4 7 "VoiceWordsModel" "s" "[I"] ++ wsX40)
def wsX4_isFrame : List Cond := .code yX4_isFrame cX4_isFrame 1 (some .boolean) :: ([.constantLong RX4 229 (4000), .methodLink RX4 33 yX4_in, .static yX4_in, .initialized RX4, .code yX4_in cX4_in 6 (some .boolean)])
def wsX4_where_r1 : List Cond := [Cond.fieldLink RX4 26 "VoiceWordsModel" "thrown" "I", Cond.constantLong RX4 234 (39), Cond.methodLink RX4 103 yX4_isWord, Cond.instanceMethod yX4_isWord, Cond.selects RX4 yX4_isWord yX4_isWord, Cond.initialized RX4, Cond.code yX4_isWord cX4_isWord 2 (some .boolean), Cond.fieldLink RX4 7 "VoiceWordsModel" "s" "[I", Cond.methodLink RX4 33 yX4_in, Cond.static yX4_in, Cond.code yX4_in cX4_in 6 (some .boolean), Cond.methodLink RX4 231 yX4_isFrame, Cond.static yX4_isFrame, Cond.code yX4_isFrame cX4_isFrame 1 (some .boolean), Cond.constantLong RX4 229 (4000), Cond.methodLink RX4 64 yX4_isOn, Cond.instanceMethod yX4_isOn, Cond.selects RX4 yX4_isOn yX4_isOn, Cond.code yX4_isOn cX4_isOn 4 (some .boolean), Cond.constantLong RX4 62 (7), Cond.methodLink RX4 41 yX4_isPut, Cond.instanceMethod yX4_isPut, Cond.selects RX4 yX4_isPut yX4_isPut, Cond.code yX4_isPut cX4_isPut 2 (some .boolean)]
def wsX4_where_r2 : List Cond := [Cond.methodLink RX4 37 yX4_of, Cond.instanceMethod yX4_of, Cond.selects RX4 yX4_of yX4_of, Cond.code yX4_of cX4_of 3 (some .int), Cond.methodLink RX4 53 yX4_cut, Cond.instanceMethod yX4_cut, Cond.selects RX4 yX4_cut yX4_cut, Cond.code yX4_cut cX4_cut 4 (some .int), Cond.methodLink RX4 45 yX4_behind, Cond.instanceMethod yX4_behind, Cond.selects RX4 yX4_behind yX4_behind, Cond.code yX4_behind cX4_behind 2 (some .int), Cond.methodLink RX4 56 yX4_columnAt, Cond.instanceMethod yX4_columnAt, Cond.selects RX4 yX4_columnAt yX4_columnAt, Cond.code yX4_columnAt cX4_columnAt 4 (some .int), Cond.methodLink RX4 50 yX4_moved, Cond.instanceMethod yX4_moved, Cond.selects RX4 yX4_moved yX4_moved, Cond.code yX4_moved cX4_moved 5 (some .int), Cond.constantFloat RX4 49 (1120403456), Cond.methodLink RX4 59 yX4_rowAt, Cond.instanceMethod yX4_rowAt, Cond.selects RX4 yX4_rowAt yX4_rowAt]
def wsX4_where_r3 : List Cond := [Cond.code yX4_rowAt cX4_rowAt 4 (some .int)]
def wsX4_where : List Cond := .code yX4_where cX4_where 5 (some .int) :: ((wsX4_where_r1 ++ (wsX4_where_r2 ++ wsX4_where_r3)) ++ wsX40)
def wsX4_wordIn_r1 : List Cond := [Cond.fieldLink RX4 7 "VoiceWordsModel" "s" "[I", Cond.methodLink RX4 56 yX4_columnAt, Cond.instanceMethod yX4_columnAt, Cond.selects RX4 yX4_columnAt yX4_columnAt, Cond.initialized RX4, Cond.code yX4_columnAt cX4_columnAt 4 (some .int), Cond.methodLink RX4 37 yX4_of, Cond.instanceMethod yX4_of, Cond.selects RX4 yX4_of yX4_of, Cond.code yX4_of cX4_of 3 (some .int), Cond.methodLink RX4 50 yX4_moved, Cond.instanceMethod yX4_moved, Cond.selects RX4 yX4_moved yX4_moved, Cond.code yX4_moved cX4_moved 5 (some .int), Cond.constantFloat RX4 49 (1120403456), Cond.methodLink RX4 45 yX4_behind, Cond.instanceMethod yX4_behind, Cond.selects RX4 yX4_behind yX4_behind, Cond.code yX4_behind cX4_behind 2 (some .int), Cond.methodLink RX4 64 yX4_isOn, Cond.instanceMethod yX4_isOn, Cond.selects RX4 yX4_isOn yX4_isOn, Cond.code yX4_isOn cX4_isOn 4 (some .boolean), Cond.constantLong RX4 62 (7)]
def wsX4_wordIn_r2 : List Cond := [Cond.methodLink RX4 41 yX4_isPut, Cond.instanceMethod yX4_isPut, Cond.selects RX4 yX4_isPut yX4_isPut, Cond.code yX4_isPut cX4_isPut 2 (some .boolean), Cond.methodLink RX4 53 yX4_cut, Cond.instanceMethod yX4_cut, Cond.selects RX4 yX4_cut yX4_cut, Cond.code yX4_cut cX4_cut 4 (some .int), Cond.methodLink RX4 59 yX4_rowAt, Cond.instanceMethod yX4_rowAt, Cond.selects RX4 yX4_rowAt yX4_rowAt, Cond.code yX4_rowAt cX4_rowAt 4 (some .int), Cond.methodLink RX4 33 yX4_in, Cond.static yX4_in, Cond.code yX4_in cX4_in 6 (some .boolean)]
def wsX4_wordIn : List Cond := .code yX4_wordIn cX4_wordIn 6 (some .int) :: ((wsX4_wordIn_r1 ++ wsX4_wordIn_r2) ++ wsX40)
def wsX4_written_r1 : List Cond := [Cond.fieldLink RX4 26 "VoiceWordsModel" "thrown" "I", Cond.constantLong RX4 62 (7), Cond.constantLong RX4 234 (39), Cond.methodLink RX4 33 yX4_in, Cond.static yX4_in, Cond.initialized RX4, Cond.code yX4_in cX4_in 6 (some .boolean), Cond.methodLink RX4 231 yX4_isFrame, Cond.static yX4_isFrame, Cond.code yX4_isFrame cX4_isFrame 1 (some .boolean), Cond.constantLong RX4 229 (4000), Cond.methodLink RX4 236 yX4_wordIn, Cond.instanceMethod yX4_wordIn, Cond.selects RX4 yX4_wordIn yX4_wordIn, Cond.code yX4_wordIn cX4_wordIn 6 (some .int), Cond.fieldLink RX4 7 "VoiceWordsModel" "s" "[I", Cond.methodLink RX4 56 yX4_columnAt, Cond.instanceMethod yX4_columnAt, Cond.selects RX4 yX4_columnAt yX4_columnAt, Cond.code yX4_columnAt cX4_columnAt 4 (some .int), Cond.methodLink RX4 37 yX4_of, Cond.instanceMethod yX4_of, Cond.selects RX4 yX4_of yX4_of, Cond.code yX4_of cX4_of 3 (some .int)]
def wsX4_written_r2 : List Cond := [Cond.methodLink RX4 50 yX4_moved, Cond.instanceMethod yX4_moved, Cond.selects RX4 yX4_moved yX4_moved, Cond.code yX4_moved cX4_moved 5 (some .int), Cond.constantFloat RX4 49 (1120403456), Cond.methodLink RX4 45 yX4_behind, Cond.instanceMethod yX4_behind, Cond.selects RX4 yX4_behind yX4_behind, Cond.code yX4_behind cX4_behind 2 (some .int), Cond.methodLink RX4 64 yX4_isOn, Cond.instanceMethod yX4_isOn, Cond.selects RX4 yX4_isOn yX4_isOn, Cond.code yX4_isOn cX4_isOn 4 (some .boolean), Cond.methodLink RX4 41 yX4_isPut, Cond.instanceMethod yX4_isPut, Cond.selects RX4 yX4_isPut yX4_isPut, Cond.code yX4_isPut cX4_isPut 2 (some .boolean), Cond.methodLink RX4 53 yX4_cut, Cond.instanceMethod yX4_cut, Cond.selects RX4 yX4_cut yX4_cut, Cond.code yX4_cut cX4_cut 4 (some .int), Cond.methodLink RX4 59 yX4_rowAt, Cond.instanceMethod yX4_rowAt, Cond.selects RX4 yX4_rowAt yX4_rowAt]
def wsX4_written_r3 : List Cond := [Cond.code yX4_rowAt cX4_rowAt 4 (some .int)]
def wsX4_written : List Cond := .code yX4_written cX4_written 5 (some .int) :: ((wsX4_written_r1 ++ (wsX4_written_r2 ++ wsX4_written_r3)) ++ wsX40)
def wsX4_onScreen_r1 : List Cond := [Cond.fieldLink RX4 26 "VoiceWordsModel" "thrown" "I", Cond.fieldLink RX4 7 "VoiceWordsModel" "s" "[I", Cond.methodLink RX4 231 yX4_isFrame, Cond.static yX4_isFrame, Cond.initialized RX4, Cond.code yX4_isFrame cX4_isFrame 1 (some .boolean), Cond.constantLong RX4 229 (4000), Cond.methodLink RX4 33 yX4_in, Cond.static yX4_in, Cond.code yX4_in cX4_in 6 (some .boolean), Cond.methodLink RX4 64 yX4_isOn, Cond.instanceMethod yX4_isOn, Cond.selects RX4 yX4_isOn yX4_isOn, Cond.code yX4_isOn cX4_isOn 4 (some .boolean), Cond.constantLong RX4 62 (7), Cond.methodLink RX4 41 yX4_isPut, Cond.instanceMethod yX4_isPut, Cond.selects RX4 yX4_isPut yX4_isPut, Cond.code yX4_isPut cX4_isPut 2 (some .boolean), Cond.methodLink RX4 37 yX4_of, Cond.instanceMethod yX4_of, Cond.selects RX4 yX4_of yX4_of, Cond.code yX4_of cX4_of 3 (some .int), Cond.methodLink RX4 53 yX4_cut]
def wsX4_onScreen_r2 : List Cond := [Cond.instanceMethod yX4_cut, Cond.selects RX4 yX4_cut yX4_cut, Cond.code yX4_cut cX4_cut 4 (some .int), Cond.methodLink RX4 45 yX4_behind, Cond.instanceMethod yX4_behind, Cond.selects RX4 yX4_behind yX4_behind, Cond.code yX4_behind cX4_behind 2 (some .int), Cond.methodLink RX4 56 yX4_columnAt, Cond.instanceMethod yX4_columnAt, Cond.selects RX4 yX4_columnAt yX4_columnAt, Cond.code yX4_columnAt cX4_columnAt 4 (some .int), Cond.methodLink RX4 50 yX4_moved, Cond.instanceMethod yX4_moved, Cond.selects RX4 yX4_moved yX4_moved, Cond.code yX4_moved cX4_moved 5 (some .int), Cond.constantFloat RX4 49 (1120403456), Cond.methodLink RX4 59 yX4_rowAt, Cond.instanceMethod yX4_rowAt, Cond.selects RX4 yX4_rowAt yX4_rowAt, Cond.code yX4_rowAt cX4_rowAt 4 (some .int)]
def wsX4_onScreen : List Cond := .code yX4_onScreen cX4_onScreen 4 (some .int) :: ((wsX4_onScreen_r1 ++ wsX4_onScreen_r2) ++ wsX40)
def wsX4_meeting_r1 : List Cond := [Cond.fieldLink RX4 26 "VoiceWordsModel" "thrown" "I", Cond.methodLink RX4 103 yX4_isWord, Cond.instanceMethod yX4_isWord, Cond.selects RX4 yX4_isWord yX4_isWord, Cond.initialized RX4, Cond.code yX4_isWord cX4_isWord 2 (some .boolean), Cond.fieldLink RX4 7 "VoiceWordsModel" "s" "[I", Cond.methodLink RX4 33 yX4_in, Cond.static yX4_in, Cond.code yX4_in cX4_in 6 (some .boolean), Cond.methodLink RX4 78 yX4_meetingOf, Cond.instanceMethod yX4_meetingOf, Cond.selects RX4 yX4_meetingOf yX4_meetingOf, Cond.code yX4_meetingOf cX4_meetingOf 4 (some .int), Cond.methodLink RX4 37 yX4_of, Cond.instanceMethod yX4_of, Cond.selects RX4 yX4_of yX4_of, Cond.code yX4_of cX4_of 3 (some .int), Cond.methodLink RX4 68 yX4_more, Cond.static yX4_more, Cond.code yX4_more cX4_more 2 (some .int), Cond.methodLink RX4 64 yX4_isOn, Cond.instanceMethod yX4_isOn, Cond.selects RX4 yX4_isOn yX4_isOn]
def wsX4_meeting_r2 : List Cond := [Cond.code yX4_isOn cX4_isOn 4 (some .boolean), Cond.constantLong RX4 62 (7), Cond.methodLink RX4 41 yX4_isPut, Cond.instanceMethod yX4_isPut, Cond.selects RX4 yX4_isPut yX4_isPut, Cond.code yX4_isPut cX4_isPut 2 (some .boolean), Cond.methodLink RX4 53 yX4_cut, Cond.instanceMethod yX4_cut, Cond.selects RX4 yX4_cut yX4_cut, Cond.code yX4_cut cX4_cut 4 (some .int), Cond.methodLink RX4 45 yX4_behind, Cond.instanceMethod yX4_behind, Cond.selects RX4 yX4_behind yX4_behind, Cond.code yX4_behind cX4_behind 2 (some .int), Cond.methodLink RX4 56 yX4_columnAt, Cond.instanceMethod yX4_columnAt, Cond.selects RX4 yX4_columnAt yX4_columnAt, Cond.code yX4_columnAt cX4_columnAt 4 (some .int), Cond.methodLink RX4 50 yX4_moved, Cond.instanceMethod yX4_moved, Cond.selects RX4 yX4_moved yX4_moved, Cond.code yX4_moved cX4_moved 5 (some .int), Cond.constantFloat RX4 49 (1120403456), Cond.methodLink RX4 59 yX4_rowAt]
def wsX4_meeting_r3 : List Cond := [Cond.instanceMethod yX4_rowAt, Cond.selects RX4 yX4_rowAt yX4_rowAt, Cond.code yX4_rowAt cX4_rowAt 4 (some .int), Cond.methodLink RX4 74 yX4_meetsAt, Cond.instanceMethod yX4_meetsAt, Cond.selects RX4 yX4_meetsAt yX4_meetsAt, Cond.code yX4_meetsAt cX4_meetsAt 6 (some .boolean), Cond.methodLink RX4 71 yX4_less, Cond.static yX4_less, Cond.code yX4_less cX4_less 2 (some .int)]
def wsX4_meeting : List Cond := .code yX4_meeting cX4_meeting 3 (some .int) :: ((wsX4_meeting_r1 ++ (wsX4_meeting_r2 ++ wsX4_meeting_r3)) ++ wsX40)
def wsX4_pace : List Cond := .code yX4_pace cX4_pace 4 (some .int) :: ([.fieldLink RX4 26 "VoiceWordsModel" "thrown" "I", .fieldLink RX4 7 "VoiceWordsModel" "s" "[I", .constantFloat RX4 240 (1103626240), .methodLink RX4 231 yX4_isFrame, .static yX4_isFrame, .initialized RX4, .code yX4_isFrame cX4_isFrame 1 (some .boolean), .constantLong RX4 229 (4000), .methodLink RX4 33 yX4_in, .static yX4_in, .code yX4_in cX4_in 6 (some .boolean), .methodLink RX4 37 yX4_of, .instanceMethod yX4_of, .selects RX4 yX4_of yX4_of, .code yX4_of cX4_of 3 (some .int)] ++ wsX40)
def wsX4_earliest_r1 : List Cond := [Cond.fieldLink RX4 26 "VoiceWordsModel" "thrown" "I", Cond.methodLink RX4 202 yX4_isPlace, Cond.instanceMethod yX4_isPlace, Cond.selects RX4 yX4_isPlace yX4_isPlace, Cond.initialized RX4, Cond.code yX4_isPlace cX4_isPlace 4 (some .boolean), Cond.constantLong RX4 62 (7), Cond.methodLink RX4 103 yX4_isWord, Cond.instanceMethod yX4_isWord, Cond.selects RX4 yX4_isWord yX4_isWord, Cond.code yX4_isWord cX4_isWord 2 (some .boolean), Cond.fieldLink RX4 7 "VoiceWordsModel" "s" "[I", Cond.methodLink RX4 33 yX4_in, Cond.static yX4_in, Cond.code yX4_in cX4_in 6 (some .boolean), Cond.methodLink RX4 37 yX4_of, Cond.instanceMethod yX4_of, Cond.selects RX4 yX4_of yX4_of, Cond.code yX4_of cX4_of 3 (some .int), Cond.methodLink RX4 193 yX4_hold, Cond.instanceMethod yX4_hold, Cond.selects RX4 yX4_hold yX4_hold, Cond.code yX4_hold cX4_hold 2 none, Cond.fieldLink RX4 13 "VoiceWordsModel" "aside" "[I"]
def wsX4_earliest_r2 : List Cond := [Cond.methodLink RX4 205 yX4_lay, Cond.instanceMethod yX4_lay, Cond.selects RX4 yX4_lay yX4_lay, Cond.code yX4_lay cX4_lay 4 none, Cond.methodLink RX4 81 yX4_set, Cond.instanceMethod yX4_set, Cond.selects RX4 yX4_set yX4_set, Cond.code yX4_set cX4_set 4 none, Cond.methodLink RX4 208 yX4_meetsAny, Cond.instanceMethod yX4_meetsAny, Cond.selects RX4 yX4_meetsAny yX4_meetsAny, Cond.code yX4_meetsAny cX4_meetsAny 4 (some .boolean), Cond.methodLink RX4 41 yX4_isPut, Cond.instanceMethod yX4_isPut, Cond.selects RX4 yX4_isPut yX4_isPut, Cond.code yX4_isPut cX4_isPut 2 (some .boolean), Cond.methodLink RX4 78 yX4_meetingOf, Cond.instanceMethod yX4_meetingOf, Cond.selects RX4 yX4_meetingOf yX4_meetingOf, Cond.code yX4_meetingOf cX4_meetingOf 4 (some .int), Cond.methodLink RX4 68 yX4_more, Cond.static yX4_more, Cond.code yX4_more cX4_more 2 (some .int), Cond.methodLink RX4 64 yX4_isOn]
def wsX4_earliest_r3 : List Cond := [Cond.instanceMethod yX4_isOn, Cond.selects RX4 yX4_isOn yX4_isOn, Cond.code yX4_isOn cX4_isOn 4 (some .boolean), Cond.methodLink RX4 53 yX4_cut, Cond.instanceMethod yX4_cut, Cond.selects RX4 yX4_cut yX4_cut, Cond.code yX4_cut cX4_cut 4 (some .int), Cond.methodLink RX4 45 yX4_behind, Cond.instanceMethod yX4_behind, Cond.selects RX4 yX4_behind yX4_behind, Cond.code yX4_behind cX4_behind 2 (some .int), Cond.methodLink RX4 56 yX4_columnAt, Cond.instanceMethod yX4_columnAt, Cond.selects RX4 yX4_columnAt yX4_columnAt, Cond.code yX4_columnAt cX4_columnAt 4 (some .int), Cond.methodLink RX4 50 yX4_moved, Cond.instanceMethod yX4_moved, Cond.selects RX4 yX4_moved yX4_moved, Cond.code yX4_moved cX4_moved 5 (some .int), Cond.constantFloat RX4 49 (1120403456), Cond.methodLink RX4 59 yX4_rowAt, Cond.instanceMethod yX4_rowAt, Cond.selects RX4 yX4_rowAt yX4_rowAt, Cond.code yX4_rowAt cX4_rowAt 4 (some .int)]
def wsX4_earliest_r4 : List Cond := [Cond.methodLink RX4 74 yX4_meetsAt, Cond.instanceMethod yX4_meetsAt, Cond.selects RX4 yX4_meetsAt yX4_meetsAt, Cond.code yX4_meetsAt cX4_meetsAt 6 (some .boolean), Cond.methodLink RX4 71 yX4_less, Cond.static yX4_less, Cond.code yX4_less cX4_less 2 (some .int), Cond.methodLink RX4 199 yX4_exchange, Cond.instanceMethod yX4_exchange, Cond.selects RX4 yX4_exchange yX4_exchange, Cond.code yX4_exchange cX4_exchange 3 none]
def wsX4_earliest : List Cond := .code yX4_earliest cX4_earliest 6 (some .int) :: ((wsX4_earliest_r1 ++ (wsX4_earliest_r2 ++ (wsX4_earliest_r3 ++ wsX4_earliest_r4))) ++ wsX40)
def wsX4_filled_r1 : List Cond := [Cond.fieldLink RX4 26 "VoiceWordsModel" "thrown" "I", Cond.methodLink RX4 231 yX4_isFrame, Cond.static yX4_isFrame, Cond.initialized RX4, Cond.code yX4_isFrame cX4_isFrame 1 (some .boolean), Cond.constantLong RX4 229 (4000), Cond.methodLink RX4 33 yX4_in, Cond.static yX4_in, Cond.code yX4_in cX4_in 6 (some .boolean), Cond.methodLink RX4 236 yX4_wordIn, Cond.instanceMethod yX4_wordIn, Cond.selects RX4 yX4_wordIn yX4_wordIn, Cond.code yX4_wordIn cX4_wordIn 6 (some .int), Cond.fieldLink RX4 7 "VoiceWordsModel" "s" "[I", Cond.methodLink RX4 56 yX4_columnAt, Cond.instanceMethod yX4_columnAt, Cond.selects RX4 yX4_columnAt yX4_columnAt, Cond.code yX4_columnAt cX4_columnAt 4 (some .int), Cond.methodLink RX4 37 yX4_of, Cond.instanceMethod yX4_of, Cond.selects RX4 yX4_of yX4_of, Cond.code yX4_of cX4_of 3 (some .int), Cond.methodLink RX4 50 yX4_moved, Cond.instanceMethod yX4_moved]
def wsX4_filled_r2 : List Cond := [Cond.selects RX4 yX4_moved yX4_moved, Cond.code yX4_moved cX4_moved 5 (some .int), Cond.constantFloat RX4 49 (1120403456), Cond.methodLink RX4 45 yX4_behind, Cond.instanceMethod yX4_behind, Cond.selects RX4 yX4_behind yX4_behind, Cond.code yX4_behind cX4_behind 2 (some .int), Cond.methodLink RX4 64 yX4_isOn, Cond.instanceMethod yX4_isOn, Cond.selects RX4 yX4_isOn yX4_isOn, Cond.code yX4_isOn cX4_isOn 4 (some .boolean), Cond.constantLong RX4 62 (7), Cond.methodLink RX4 41 yX4_isPut, Cond.instanceMethod yX4_isPut, Cond.selects RX4 yX4_isPut yX4_isPut, Cond.code yX4_isPut cX4_isPut 2 (some .boolean), Cond.methodLink RX4 53 yX4_cut, Cond.instanceMethod yX4_cut, Cond.selects RX4 yX4_cut yX4_cut, Cond.code yX4_cut cX4_cut 4 (some .int), Cond.methodLink RX4 59 yX4_rowAt, Cond.instanceMethod yX4_rowAt, Cond.selects RX4 yX4_rowAt yX4_rowAt, Cond.code yX4_rowAt cX4_rowAt 4 (some .int)]
def wsX4_filled : List Cond := .code yX4_filled cX4_filled 5 (some .int) :: ((wsX4_filled_r1 ++ wsX4_filled_r2) ++ wsX40)
def wsJ9_max_7cf53 : List Cond := .code yJ9_max_7cf53 cJ9_max_7cf53 2 (some .int) :: ([])
def wsJ9_min_7cf53 : List Cond := .code yJ9_min_7cf53 cJ9_min_7cf53 2 (some .int) :: ([])
def wsL_law_r1 : List Cond := [Cond.classLink RL 7 RX3, Cond.instantiable RX3 5, Cond.initialized RX3, Cond.classLink RL 10 RX4, Cond.instantiable RX4 13, Cond.initialized RX4, Cond.methodLink RL 9 yX3_init, Cond.instanceMethod yX3_init, Cond.code yX3_init cX3_init 2 none, Cond.methodLink RX3 1 objectInit, Cond.instanceMethod objectInit, Cond.code objectInit ⟨#[0xb1]⟩ 1 none, Cond.classLink RX3 7 RX0, Cond.instantiable RX0 7, Cond.initialized RX0, Cond.fieldLink RX3 10 "VoiceWords" "scene" "LVoiceWords$Scene;", Cond.fieldLink RX3 16 "VoiceWords" "draft" "LVoiceWords$Scene;", Cond.fieldLink RX3 19 "VoiceWords" "history" "[LVoiceWords$Scene;", Cond.fieldLink RX3 23 "VoiceWords" "states" "I", Cond.classLink RX3 27 RX1, Cond.instantiable RX1 5, Cond.initialized RX1, Cond.fieldLink RX3 30 "VoiceWords" "text" "LVoiceWords$Text;", Cond.methodLink RX3 9 yX0_init]
def wsL_law_r2 : List Cond := [Cond.instanceMethod yX0_init, Cond.code yX0_init cX0_init 2 none, Cond.methodLink RX0 3 objectInit, Cond.classLink RX0 9 RX2, Cond.fieldLink RX0 11 "VoiceWords$Scene" "words" "[LVoiceWords$Word;", Cond.arrayClass .int, Cond.fieldLink RX0 17 "VoiceWords$Scene" "shots" "[I", Cond.fieldLink RX0 21 "VoiceWords$Scene" "percent" "I", Cond.instantiable RX2 9, Cond.initialized RX2, Cond.fieldLink RX0 26 "VoiceWords$Scene" "trial" "LVoiceWords$Word;", Cond.fieldLink RX0 30 "VoiceWords$Scene" "order" "[I", Cond.instanceMethod yX2_init, Cond.code yX2_init cX2_init 1 none, Cond.methodLink RX2 3 objectInit, Cond.fieldLink RX2 9 "VoiceWords$Word" "letters" "[I", Cond.instanceMethod yX1_init, Cond.code yX1_init cX1_init 1 none, Cond.methodLink RX1 3 objectInit, Cond.fieldLink RX1 9 "VoiceWords$Text" "characters" "[I", Cond.methodLink RL 12 yX4_init, Cond.instanceMethod yX4_init, Cond.code yX4_init cX4_init 1 none, Cond.methodLink RX4 1 objectInit]
def wsL_law_r3 : List Cond := [Cond.fieldLink RX4 7 "VoiceWordsModel" "s" "[I", Cond.fieldLink RX4 13 "VoiceWordsModel" "aside" "[I", Cond.fieldLink RX4 16 "VoiceWordsModel" "saved" "[I", Cond.fieldLink RX4 19 "VoiceWordsModel" "text" "[I", Cond.arrayClass .boolean, Cond.fieldLink RX4 22 "VoiceWordsModel" "isDone" "[Z", Cond.fieldLink RX4 26 "VoiceWordsModel" "thrown" "I", Cond.methodLink RL 13 yX3_addWord, Cond.instanceMethod yX3_addWord, Cond.selects RX3 yX3_addWord yX3_addWord, Cond.code yX3_addWord cX3_addWord 6 (some .int), Cond.fieldLink RX3 53 "VoiceWords$Scene" "wordCount" "I", Cond.methodLink RX3 34 yX3_isBetween, Cond.static yX3_isBetween, Cond.code yX3_isBetween cX3_isBetween 3 (some .boolean), Cond.methodLink RX3 38 yX3_isAllowed, Cond.static yX3_isAllowed, Cond.code yX3_isAllowed cX3_isAllowed 2 (some .boolean), Cond.methodLink RX3 42 yX0_hasRoomForWord, Cond.instanceMethod yX0_hasRoomForWord, Cond.selects RX0 yX0_hasRoomForWord yX0_hasRoomForWord, Cond.code yX0_hasRoomForWord cX0_hasRoomForWord 1 (some .boolean), Cond.fieldLink RX0 33 "VoiceWords$Scene" "wordCount" "I", Cond.methodLink RX3 46 yX3_record]
def wsL_law_r4 : List Cond := [Cond.instanceMethod yX3_record, Cond.selects RX3 yX3_record yX3_record, Cond.code yX3_record cX3_record 1 none, Cond.methodLink RX3 202 yX3_dropOldestState, Cond.instanceMethod yX3_dropOldestState, Cond.selects RX3 yX3_dropOldestState yX3_dropOldestState, Cond.code yX3_dropOldestState cX3_dropOldestState 3 none, Cond.methodLink RX3 107 yX0_copyFrom, Cond.instanceMethod yX0_copyFrom, Cond.selects RX0 yX0_copyFrom yX0_copyFrom, Cond.code yX0_copyFrom cX0_copyFrom 3 none, Cond.methodLink RX0 40 arraycopyName, Cond.native arraycopyName, Cond.static arraycopyName, Cond.initialized "java/lang/System", Cond.fieldLink RX0 46 "VoiceWords$Scene" "shotCount" "I", Cond.methodLink RX0 36 yX2_copyFrom, Cond.instanceMethod yX2_copyFrom, Cond.selects RX2 yX2_copyFrom yX2_copyFrom, Cond.code yX2_copyFrom cX2_copyFrom 2 none, Cond.methodLink RX2 15 arraycopyName, Cond.fieldLink RX2 21 "VoiceWords$Word" "length" "I", Cond.fieldLink RX2 25 "VoiceWords$Word" "frame" "I", Cond.fieldLink RX2 28 "VoiceWords$Word" "spoken" "I"]
def wsL_law_r5 : List Cond := [Cond.fieldLink RX2 31 "VoiceWords$Word" "held" "I", Cond.fieldLink RX2 34 "VoiceWords$Word" "way" "I", Cond.fieldLink RX2 37 "VoiceWords$Word" "isPut" "Z", Cond.fieldLink RX2 41 "VoiceWords$Word" "lane" "I", Cond.fieldLink RX2 44 "VoiceWords$Word" "column" "I", Cond.methodLink RX3 49 yX0_appendWord, Cond.instanceMethod yX0_appendWord, Cond.selects RX0 yX0_appendWord yX0_appendWord, Cond.code yX0_appendWord cX0_appendWord 8 (some (.object "VoiceWords$Word")), Cond.fieldLink RX0 49 "VoiceWords$Word" "letters" "[I", Cond.fieldLink RX0 52 "VoiceWords$Word" "length" "I", Cond.fieldLink RX0 55 "VoiceWords$Word" "frame" "I", Cond.fieldLink RX0 58 "VoiceWords$Word" "spoken" "I", Cond.fieldLink RX0 61 "VoiceWords$Word" "held" "I", Cond.fieldLink RX0 64 "VoiceWords$Word" "way" "I", Cond.fieldLink RX0 67 "VoiceWords$Word" "isPut" "Z", Cond.methodLink RL 17 yX4_addWord, Cond.instanceMethod yX4_addWord, Cond.selects RX4 yX4_addWord yX4_addWord, Cond.code yX4_addWord cX4_addWord 8 (some .int), Cond.constantLong RX4 91 (12), Cond.methodLink RX4 33 yX4_in, Cond.static yX4_in, Cond.code yX4_in cX4_in 6 (some .boolean)]
def wsL_law_r6 : List Cond := [Cond.methodLink RX4 93 yX4_isPart, Cond.static yX4_isPart, Cond.code yX4_isPart cX4_isPart 2 (some .boolean), Cond.constantLong RX4 85 (2000), Cond.constantLong RX4 87 (60), Cond.constantLong RX4 89 (4), Cond.methodLink RX4 96 yX4_act, Cond.instanceMethod yX4_act, Cond.selects RX4 yX4_act yX4_act, Cond.code yX4_act cX4_act 2 none, Cond.fieldLink RX4 30 "VoiceWordsModel" "savedMany" "I", Cond.methodLink RX4 99 yX4_makeWord, Cond.instanceMethod yX4_makeWord, Cond.selects RX4 yX4_makeWord yX4_makeWord, Cond.code yX4_makeWord cX4_makeWord 7 (some .int), Cond.methodLink RX4 81 yX4_set, Cond.instanceMethod yX4_set, Cond.selects RX4 yX4_set yX4_set, Cond.code yX4_set cX4_set 4 none, Cond.methodLink RL 18 yX3_removeWord, Cond.instanceMethod yX3_removeWord, Cond.selects RX3 yX3_removeWord yX3_removeWord, Cond.code yX3_removeWord cX3_removeWord 2 (some .int), Cond.methodLink RX3 56 yX0_hasWord]
def wsL_law_r7 : List Cond := [Cond.instanceMethod yX0_hasWord, Cond.selects RX0 yX0_hasWord yX0_hasWord, Cond.code yX0_hasWord cX0_hasWord 2 (some .boolean), Cond.methodLink RX3 60 yX0_deleteWord, Cond.instanceMethod yX0_deleteWord, Cond.selects RX0 yX0_deleteWord yX0_deleteWord, Cond.code yX0_deleteWord cX0_deleteWord 4 none, Cond.methodLink RL 22 yX4_removeWord, Cond.instanceMethod yX4_removeWord, Cond.selects RX4 yX4_removeWord yX4_removeWord, Cond.code yX4_removeWord cX4_removeWord 3 (some .int), Cond.methodLink RX4 103 yX4_isWord, Cond.instanceMethod yX4_isWord, Cond.selects RX4 yX4_isWord yX4_isWord, Cond.code yX4_isWord cX4_isWord 2 (some .boolean), Cond.methodLink RL 23 yX3_setWord, Cond.instanceMethod yX3_setWord, Cond.selects RX3 yX3_setWord yX3_setWord, Cond.code yX3_setWord cX3_setWord 6 (some .int), Cond.fieldLink RX3 64 "VoiceWords$Scene" "words" "[LVoiceWords$Word;", Cond.fieldLink RX3 78 "VoiceWords$Word" "isPut" "Z", Cond.methodLink RX3 68 yX2_property, Cond.instanceMethod yX2_property, Cond.selects RX2 yX2_property yX2_property]
def wsL_law_r8 : List Cond := [Cond.code yX2_property cX2_property 2 (some .int), Cond.methodLink RX3 74 yX2_setProperty, Cond.instanceMethod yX2_setProperty, Cond.selects RX2 yX2_setProperty yX2_setProperty, Cond.code yX2_setProperty cX2_setProperty 3 none, Cond.methodLink RL 27 yX4_setWord, Cond.instanceMethod yX4_setWord, Cond.selects RX4 yX4_setWord yX4_setWord, Cond.code yX4_setWord cX4_setWord 5 (some .int), Cond.methodLink RX4 37 yX4_of, Cond.instanceMethod yX4_of, Cond.selects RX4 yX4_of yX4_of, Cond.code yX4_of cX4_of 3 (some .int), Cond.methodLink RX4 106 yX4_takeOff, Cond.instanceMethod yX4_takeOff, Cond.selects RX4 yX4_takeOff yX4_takeOff, Cond.code yX4_takeOff cX4_takeOff 2 none, Cond.methodLink RL 28 yX3_addShot, Cond.instanceMethod yX3_addShot, Cond.selects RX3 yX3_addShot yX3_addShot, Cond.code yX3_addShot cX3_addShot 2 (some .int), Cond.fieldLink RX3 91 "VoiceWords$Scene" "shotCount" "I", Cond.methodLink RX3 82 yX0_hasShotIn, Cond.instanceMethod yX0_hasShotIn]
def wsL_law_r9 : List Cond := [Cond.selects RX0 yX0_hasShotIn yX0_hasShotIn, Cond.code yX0_hasShotIn cX0_hasShotIn 3 (some .boolean), Cond.methodLink RX3 85 yX0_hasRoomForShot, Cond.instanceMethod yX0_hasRoomForShot, Cond.selects RX0 yX0_hasRoomForShot yX0_hasRoomForShot, Cond.code yX0_hasRoomForShot cX0_hasRoomForShot 1 (some .boolean), Cond.methodLink RX3 88 yX0_insertShot, Cond.instanceMethod yX0_insertShot, Cond.selects RX0 yX0_insertShot yX0_insertShot, Cond.code yX0_insertShot cX0_insertShot 3 none, Cond.methodLink RL 31 yX4_addShot, Cond.instanceMethod yX4_addShot, Cond.selects RX4 yX4_addShot yX4_addShot, Cond.code yX4_addShot cX4_addShot 2 (some .int), Cond.constantLong RX4 110 (3000), Cond.methodLink RX4 112 yX4_shotOf, Cond.instanceMethod yX4_shotOf, Cond.selects RX4 yX4_shotOf yX4_shotOf, Cond.code yX4_shotOf cX4_shotOf 3 (some .int), Cond.methodLink RX4 115 yX4_makeShot, Cond.instanceMethod yX4_makeShot, Cond.selects RX4 yX4_makeShot yX4_makeShot, Cond.code yX4_makeShot cX4_makeShot 3 none, Cond.methodLink RL 32 yX3_removeShot]
def wsL_law_r10 : List Cond := [Cond.instanceMethod yX3_removeShot, Cond.selects RX3 yX3_removeShot yX3_removeShot, Cond.code yX3_removeShot cX3_removeShot 2 (some .int), Cond.methodLink RX3 94 yX0_deleteShot, Cond.instanceMethod yX0_deleteShot, Cond.selects RX0 yX0_deleteShot yX0_deleteShot, Cond.code yX0_deleteShot cX0_deleteShot 4 none, Cond.methodLink RL 35 yX4_removeShot, Cond.instanceMethod yX4_removeShot, Cond.selects RX4 yX4_removeShot yX4_removeShot, Cond.code yX4_removeShot cX4_removeShot 4 (some .int), Cond.methodLink RL 36 yX3_setSpeed, Cond.instanceMethod yX3_setSpeed, Cond.selects RX3 yX3_setSpeed yX3_setSpeed, Cond.code yX3_setSpeed cX3_setSpeed 3 (some .int), Cond.fieldLink RX3 97 "VoiceWords$Scene" "percent" "I", Cond.methodLink RL 39 yX4_setSpeed, Cond.instanceMethod yX4_setSpeed, Cond.selects RX4 yX4_setSpeed yX4_setSpeed, Cond.code yX4_setSpeed cX4_setSpeed 3 (some .int), Cond.constantLong RX4 118 (50), Cond.constantLong RX4 120 (400), Cond.methodLink RL 40 yX3_append, Cond.instanceMethod yX3_append]
def wsL_law_r11 : List Cond := [Cond.selects RX3 yX3_append yX3_append, Cond.code yX3_append cX3_append 2 (some .int), Cond.fieldLink RX3 100 "VoiceWords$Text" "length" "I", Cond.fieldLink RX3 103 "VoiceWords$Text" "characters" "[I", Cond.methodLink RL 43 yX4_append, Cond.instanceMethod yX4_append, Cond.selects RX4 yX4_append yX4_append, Cond.code yX4_append cX4_append 2 (some .int), Cond.constantLong RX4 122 (255), Cond.fieldLink RX4 124 "VoiceWordsModel" "length" "I", Cond.methodLink RL 44 yX3_clearText, Cond.instanceMethod yX3_clearText, Cond.selects RX3 yX3_clearText yX3_clearText, Cond.code yX3_clearText cX3_clearText 2 (some .int), Cond.methodLink RL 48 yX4_clearText, Cond.instanceMethod yX4_clearText, Cond.selects RX4 yX4_clearText yX4_clearText, Cond.code yX4_clearText cX4_clearText 2 (some .int), Cond.methodLink RL 49 yX3_load, Cond.instanceMethod yX3_load, Cond.selects RX3 yX3_load yX3_load, Cond.code yX3_load cX3_load 2 (some .int), Cond.methodLink RX3 111 yX1_readInto, Cond.instanceMethod yX1_readInto]
def wsL_law_r12 : List Cond := [Cond.selects RX1 yX1_readInto yX1_readInto, Cond.code yX1_readInto cX1_readInto 3 (some .int), Cond.fieldLink RX1 15 "VoiceWords$Text" "end" "I", Cond.fieldLink RX1 22 "VoiceWords$Text" "kind" "I", Cond.fieldLink RX1 29 "VoiceWords$Text" "start" "I", Cond.methodLink RX1 19 yX1_step, Cond.instanceMethod yX1_step, Cond.selects RX1 yX1_step yX1_step, Cond.code yX1_step cX1_step 1 none, Cond.fieldLink RX1 93 "VoiceWords$Text" "length" "I", Cond.methodLink RX1 96 yX1_kindAt, Cond.instanceMethod yX1_kindAt, Cond.selects RX1 yX1_kindAt yX1_kindAt, Cond.code yX1_kindAt cX1_kindAt 3 (some .int), Cond.methodLink RX1 25 yX1_readItem, Cond.instanceMethod yX1_readItem, Cond.selects RX1 yX1_readItem yX1_readItem, Cond.code yX1_readItem cX1_readItem 2 (some .boolean), Cond.methodLink RX1 34 yX1_isName, Cond.instanceMethod yX1_isName, Cond.selects RX1 yX1_isName yX1_isName, Cond.code yX1_isName cX1_isName 3 (some .boolean), Cond.methodLink RX1 100 yJ0_length_8abf5, Cond.instanceMethod yJ0_length_8abf5]
def wsL_law_r13 : List Cond := [Cond.selects RJ0 yJ0_length_8abf5 yJ0_length_8abf5, Cond.initialized RJ0, Cond.code yJ0_length_8abf5 cJ0_length_8abf5 1 (some .int), Cond.fieldLink RJ0 9 "java/lang/String" "value" "[B", Cond.methodLink RJ0 335 yJ0_coder_7d493, Cond.instanceMethod yJ0_coder_7d493, Cond.selects RJ0 yJ0_coder_7d493 yJ0_coder_7d493, Cond.code yJ0_coder_7d493 cJ0_coder_7d493 1 (some .byte), Cond.fieldLink RJ0 38 "java/lang/String" "COMPACT_STRINGS" "Z", Cond.fieldLink RJ0 15 "java/lang/String" "coder" "B", Cond.methodLink RX1 104 yJ0_charAt_5068e, Cond.instanceMethod yJ0_charAt_5068e, Cond.selects RJ0 yJ0_charAt_5068e yJ0_charAt_5068e, Cond.code yJ0_charAt_5068e cJ0_charAt_5068e 2 (some .char), Cond.methodLink RJ0 492 yJ0_isLatin1_aae02, Cond.instanceMethod yJ0_isLatin1_aae02, Cond.selects RJ0 yJ0_isLatin1_aae02 yJ0_isLatin1_aae02, Cond.code yJ0_isLatin1_aae02 cJ0_isLatin1_aae02 1 (some .boolean), Cond.methodLink RJ0 495 yJ1_charAt_3b067, Cond.static yJ1_charAt_3b067, Cond.initialized RJ1, Cond.code yJ1_charAt_3b067 cJ1_charAt_3b067 2 (some .char), Cond.methodLink RJ1 9 yJ0_checkIndex_df160, Cond.static yJ0_checkIndex_df160]
def wsL_law_r14 : List Cond := [Cond.code yJ0_checkIndex_df160 cJ0_checkIndex_df160 2 none, Cond.fieldLink RJ0 1053 "jdk/internal/util/Preconditions" "SIOOBE_FORMATTER" "Ljava/util/function/BiFunction;", Cond.methodLink RJ0 1059 yJ3_checkIndex_8e157, Cond.static yJ3_checkIndex_8e157, Cond.initialized RJ3, Cond.code yJ3_checkIndex_8e157 cJ3_checkIndex_8e157 3 (some .int), Cond.methodLink RJ0 498 yJ2_charAt_3b067, Cond.static yJ2_charAt_3b067, Cond.initialized RJ2, Cond.code yJ2_charAt_3b067 cJ2_charAt_3b067 2 (some .char), Cond.methodLink RJ2 67 yJ2_checkIndex_2214a, Cond.static yJ2_checkIndex_2214a, Cond.code yJ2_checkIndex_2214a cJ2_checkIndex_2214a 2 none, Cond.methodLink RJ2 48 yJ2_length_9d52b, Cond.static yJ2_length_9d52b, Cond.code yJ2_length_9d52b cJ2_length_9d52b 1 (some .int), Cond.methodLink RJ2 414 yJ0_checkIndex_df160, Cond.methodLink RJ2 71 yJ2_getChar_3b067, Cond.static yJ2_getChar_3b067, Cond.code yJ2_getChar_3b067 cJ2_getChar_3b067 2 (some .char), Cond.fieldLink RJ2 44 "java/lang/StringUTF16" "$assertionsDisabled" "Z", Cond.fieldLink RJ2 59 "java/lang/StringUTF16" "HI_BYTE_SHIFT" "I", Cond.fieldLink RJ2 63 "java/lang/StringUTF16" "LO_BYTE_SHIFT" "I", Cond.methodLink RX1 38 yX0_hasRoomForWord]
def wsL_law_r15 : List Cond := [Cond.methodLink RX1 44 yX1_readWord, Cond.instanceMethod yX1_readWord, Cond.selects RX1 yX1_readWord yX1_readWord, Cond.code yX1_readWord cX1_readWord 9 (some .boolean), Cond.fieldLink RX1 70 "VoiceWords$Word" "letters" "[I", Cond.methodLink RX1 75 arraycopyName, Cond.methodLink RX1 55 yX1_numberOf, Cond.instanceMethod yX1_numberOf, Cond.selects RX1 yX1_numberOf yX1_numberOf, Cond.code yX1_numberOf cX1_numberOf 3 (some .int), Cond.methodLink RX1 63 yX1_wayOf, Cond.instanceMethod yX1_wayOf, Cond.selects RX1 yX1_wayOf yX1_wayOf, Cond.code yX1_wayOf cX1_wayOf 1 (some .int), Cond.methodLink RX1 66 yX0_appendWord, Cond.methodLink RX1 49 yX0_hasRoomForShot, Cond.methodLink RX1 52 yX1_readShot, Cond.instanceMethod yX1_readShot, Cond.selects RX1 yX1_readShot yX1_readShot, Cond.code yX1_readShot cX1_readShot 3 (some .boolean), Cond.methodLink RX1 85 yX0_hasShotIn, Cond.methodLink RX1 89 yX0_insertShot, Cond.methodLink RL 52 yX4_load, Cond.instanceMethod yX4_load]
def wsL_law_r16 : List Cond := [Cond.selects RX4 yX4_load yX4_load, Cond.code yX4_load cX4_load 2 (some .int), Cond.fieldLink RX4 127 "VoiceWordsModel" "next" "I", Cond.fieldLink RX4 158 "VoiceWordsModel" "isWrong" "Z", Cond.fieldLink RX4 145 "VoiceWordsModel" "token" "I", Cond.fieldLink RX4 134 "VoiceWordsModel" "start" "I", Cond.methodLink RX4 193 yX4_hold, Cond.instanceMethod yX4_hold, Cond.selects RX4 yX4_hold yX4_hold, Cond.code yX4_hold cX4_hold 2 none, Cond.methodLink RX4 162 yX4_read, Cond.instanceMethod yX4_read, Cond.selects RX4 yX4_read yX4_read, Cond.code yX4_read cX4_read 1 none, Cond.fieldLink RX4 137 "VoiceWordsModel" "worth" "J", Cond.constantLong RX4 141 (97), Cond.constantLong RX4 143 (122), Cond.constantLong RX4 148 (27), Cond.constantLong RX4 150 (48), Cond.constantLong RX4 152 (57), Cond.constantLong RX4 154 (10000), Cond.constantLong RX4 156 (10), Cond.methodLink RX4 130 yX4_here, Cond.instanceMethod yX4_here]
def wsL_law_r17 : List Cond := [Cond.selects RX4 yX4_here yX4_here, Cond.code yX4_here cX4_here 1 (some .int), Cond.methodLink RX4 196 yX4_readItem, Cond.instanceMethod yX4_readItem, Cond.selects RX4 yX4_readItem yX4_readItem, Cond.code yX4_readItem cX4_readItem 3 none, Cond.constantLong RX4 183 (13903), Cond.constantLong RX4 185 (2774), Cond.methodLink RX4 165 yX4_accept, Cond.instanceMethod yX4_accept, Cond.selects RX4 yX4_accept yX4_accept, Cond.code yX4_accept cX4_accept 3 (some .int), Cond.methodLink RX4 187 yX4_readWord, Cond.instanceMethod yX4_readWord, Cond.selects RX4 yX4_readWord yX4_readWord, Cond.code yX4_readWord cX4_readWord 9 none, Cond.methodLink RX4 177 yX4_number, Cond.instanceMethod yX4_number, Cond.selects RX4 yX4_number yX4_number, Cond.code yX4_number cX4_number 3 (some .int), Cond.methodLink RX4 180 yX4_wayOf, Cond.instanceMethod yX4_wayOf, Cond.selects RX4 yX4_wayOf yX4_wayOf, Cond.code yX4_wayOf cX4_wayOf 1 (some .int)]
def wsL_law_r18 : List Cond := [Cond.constantLong RX4 169 (240023), Cond.constantLong RX4 171 (9748424), Cond.constantLong RX4 173 (583), Cond.constantLong RX4 175 (90302), Cond.methodLink RX4 190 yX4_readShot, Cond.instanceMethod yX4_readShot, Cond.selects RX4 yX4_readShot yX4_readShot, Cond.code yX4_readShot cX4_readShot 2 none, Cond.methodLink RX4 199 yX4_exchange, Cond.instanceMethod yX4_exchange, Cond.selects RX4 yX4_exchange yX4_exchange, Cond.code yX4_exchange cX4_exchange 3 none, Cond.methodLink RL 53 yX3_put, Cond.instanceMethod yX3_put, Cond.selects RX3 yX3_put yX3_put, Cond.code yX3_put cX3_put 5 (some .int), Cond.fieldLink RX3 118 "VoiceWords$Word" "frame" "I", Cond.methodLink RX3 115 yX3_isPossiblePlace, Cond.instanceMethod yX3_isPossiblePlace, Cond.selects RX3 yX3_isPossiblePlace yX3_isPossiblePlace, Cond.code yX3_isPossiblePlace cX3_isPossiblePlace 4 (some .boolean), Cond.methodLink RX3 205 yX2_lastColumn, Cond.instanceMethod yX2_lastColumn, Cond.selects RX2 yX2_lastColumn yX2_lastColumn]
def wsL_law_r19 : List Cond := [Cond.code yX2_lastColumn cX2_lastColumn 1 (some .int), Cond.methodLink RX3 121 yX0_isFree, Cond.instanceMethod yX0_isFree, Cond.selects RX0 yX0_isFree yX0_isFree, Cond.code yX0_isFree cX0_isFree 6 (some .boolean), Cond.methodLink RX0 132 yX2_putAt, Cond.instanceMethod yX2_putAt, Cond.selects RX2 yX2_putAt yX2_putAt, Cond.code yX2_putAt cX2_putAt 3 none, Cond.methodLink RX0 71 yX0_firstMeeting, Cond.instanceMethod yX0_firstMeeting, Cond.selects RX0 yX0_firstMeeting yX0_firstMeeting, Cond.code yX0_firstMeeting cX0_firstMeeting 7 (some .int), Cond.fieldLink RX0 76 "VoiceWords$Word" "lane" "I", Cond.methodLink RX0 120 Lib.Math.max.name, Cond.static Lib.Math.max.name, Cond.initialized "java/lang/Math", Cond.code Lib.Math.max.name Lib.Math.max.code 2 (some .int), Cond.methodLink RX0 97 Lib.Math.min.name, Cond.static Lib.Math.min.name, Cond.code Lib.Math.min.name Lib.Math.min.code 2 (some .int), Cond.methodLink RX0 124 yX2_keepsLane, Cond.instanceMethod yX2_keepsLane, Cond.selects RX2 yX2_keepsLane yX2_keepsLane]
def wsL_law_r20 : List Cond := [Cond.code yX2_keepsLane cX2_keepsLane 1 (some .boolean), Cond.methodLink RX0 106 yX0_goneFrom, Cond.instanceMethod yX0_goneFrom, Cond.selects RX0 yX0_goneFrom yX0_goneFrom, Cond.code yX0_goneFrom cX0_goneFrom 4 (some .int), Cond.methodLink RX0 89 yX2_leavesIn, Cond.instanceMethod yX2_leavesIn, Cond.selects RX2 yX2_leavesIn yX2_leavesIn, Cond.code yX2_leavesIn cX2_leavesIn 1 (some .int), Cond.methodLink RX0 93 yX0_stepsToLeave, Cond.instanceMethod yX0_stepsToLeave, Cond.selects RX0 yX0_stepsToLeave yX0_stepsToLeave, Cond.code yX0_stepsToLeave cX0_stepsToLeave 4 (some .int), Cond.methodLink RX0 103 yX2_cellsToLeave, Cond.instanceMethod yX2_cellsToLeave, Cond.selects RX2 yX2_cellsToLeave yX2_cellsToLeave, Cond.code yX2_cellsToLeave cX2_cellsToLeave 1 (some .int), Cond.methodLink RX0 83 yX0_cellsMoved, Cond.instanceMethod yX0_cellsMoved, Cond.selects RX0 yX0_cellsMoved yX0_cellsMoved, Cond.code yX0_cellsMoved cX0_cellsMoved 3 (some .int), Cond.constantFloat RX0 75 (1120403456), Cond.methodLink RX0 128 yX0_shareCell, Cond.instanceMethod yX0_shareCell]
def wsL_law_r21 : List Cond := [Cond.selects RX0 yX0_shareCell yX0_shareCell, Cond.code yX0_shareCell cX0_shareCell 8 (some .boolean), Cond.methodLink RX0 113 yX0_rowOf, Cond.instanceMethod yX0_rowOf, Cond.selects RX0 yX0_rowOf yX0_rowOf, Cond.code yX0_rowOf cX0_rowOf 3 (some .int), Cond.methodLink RX0 79 yX2_stepsIn, Cond.instanceMethod yX2_stepsIn, Cond.selects RX2 yX2_stepsIn yX2_stepsIn, Cond.code yX2_stepsIn cX2_stepsIn 2 (some .int), Cond.methodLink RX0 117 yX0_columnOf, Cond.instanceMethod yX0_columnOf, Cond.selects RX0 yX0_columnOf yX0_columnOf, Cond.code yX0_columnOf cX0_columnOf 3 (some .int), Cond.fieldLink RX0 86 "VoiceWords$Word" "column" "I", Cond.methodLink RX3 125 yX2_putAt, Cond.methodLink RX3 128 yX0_countPut, Cond.instanceMethod yX0_countPut, Cond.selects RX0 yX0_countPut yX0_countPut, Cond.code yX0_countPut cX0_countPut 3 (some .int), Cond.methodLink RL 56 yX4_put, Cond.instanceMethod yX4_put, Cond.selects RX4 yX4_put yX4_put, Cond.code yX4_put cX4_put 5 (some .int)]
def wsL_law_r22 : List Cond := [Cond.methodLink RX4 202 yX4_isPlace, Cond.instanceMethod yX4_isPlace, Cond.selects RX4 yX4_isPlace yX4_isPlace, Cond.code yX4_isPlace cX4_isPlace 4 (some .boolean), Cond.constantLong RX4 62 (7), Cond.methodLink RX4 205 yX4_lay, Cond.instanceMethod yX4_lay, Cond.selects RX4 yX4_lay yX4_lay, Cond.code yX4_lay cX4_lay 4 none, Cond.methodLink RX4 208 yX4_meetsAny, Cond.instanceMethod yX4_meetsAny, Cond.selects RX4 yX4_meetsAny yX4_meetsAny, Cond.code yX4_meetsAny cX4_meetsAny 4 (some .boolean), Cond.methodLink RX4 41 yX4_isPut, Cond.instanceMethod yX4_isPut, Cond.selects RX4 yX4_isPut yX4_isPut, Cond.code yX4_isPut cX4_isPut 2 (some .boolean), Cond.methodLink RX4 78 yX4_meetingOf, Cond.instanceMethod yX4_meetingOf, Cond.selects RX4 yX4_meetingOf yX4_meetingOf, Cond.code yX4_meetingOf cX4_meetingOf 4 (some .int), Cond.methodLink RX4 68 yX4_more, Cond.static yX4_more, Cond.code yX4_more cX4_more 2 (some .int)]
def wsL_law_r23 : List Cond := [Cond.methodLink RX4 64 yX4_isOn, Cond.instanceMethod yX4_isOn, Cond.selects RX4 yX4_isOn yX4_isOn, Cond.code yX4_isOn cX4_isOn 4 (some .boolean), Cond.methodLink RX4 53 yX4_cut, Cond.instanceMethod yX4_cut, Cond.selects RX4 yX4_cut yX4_cut, Cond.code yX4_cut cX4_cut 4 (some .int), Cond.methodLink RX4 45 yX4_behind, Cond.instanceMethod yX4_behind, Cond.selects RX4 yX4_behind yX4_behind, Cond.code yX4_behind cX4_behind 2 (some .int), Cond.methodLink RX4 56 yX4_columnAt, Cond.instanceMethod yX4_columnAt, Cond.selects RX4 yX4_columnAt yX4_columnAt, Cond.code yX4_columnAt cX4_columnAt 4 (some .int), Cond.methodLink RX4 50 yX4_moved, Cond.instanceMethod yX4_moved, Cond.selects RX4 yX4_moved yX4_moved, Cond.code yX4_moved cX4_moved 5 (some .int), Cond.constantFloat RX4 49 (1120403456), Cond.methodLink RX4 59 yX4_rowAt, Cond.instanceMethod yX4_rowAt, Cond.selects RX4 yX4_rowAt yX4_rowAt]
def wsL_law_r24 : List Cond := [Cond.code yX4_rowAt cX4_rowAt 4 (some .int), Cond.methodLink RX4 74 yX4_meetsAt, Cond.instanceMethod yX4_meetsAt, Cond.selects RX4 yX4_meetsAt yX4_meetsAt, Cond.code yX4_meetsAt cX4_meetsAt 6 (some .boolean), Cond.methodLink RX4 71 yX4_less, Cond.static yX4_less, Cond.code yX4_less cX4_less 2 (some .int), Cond.methodLink RX4 211 yX4_putMany, Cond.instanceMethod yX4_putMany, Cond.selects RX4 yX4_putMany yX4_putMany, Cond.code yX4_putMany cX4_putMany 3 (some .int), Cond.methodLink RL 57 yX3_take, Cond.instanceMethod yX3_take, Cond.selects RX3 yX3_take yX3_take, Cond.code yX3_take cX3_take 2 (some .int), Cond.methodLink RL 60 yX4_take, Cond.instanceMethod yX4_take, Cond.selects RX4 yX4_take yX4_take, Cond.code yX4_take cX4_take 2 (some .int), Cond.methodLink RL 61 yX3_putAll, Cond.instanceMethod yX3_putAll, Cond.selects RX3 yX3_putAll yX3_putAll, Cond.code yX3_putAll cX3_putAll 2 (some .int)]
def wsL_law_r25 : List Cond := [Cond.fieldLink RX3 138 "VoiceWords$Scene" "order" "[I", Cond.methodLink RX3 132 yX0_takeAllWords, Cond.instanceMethod yX0_takeAllWords, Cond.selects RX0 yX0_takeAllWords yX0_takeAllWords, Cond.code yX0_takeAllWords cX0_takeAllWords 2 none, Cond.methodLink RX3 135 yX0_sortForPutting, Cond.instanceMethod yX0_sortForPutting, Cond.selects RX0 yX0_sortForPutting yX0_sortForPutting, Cond.code yX0_sortForPutting cX0_sortForPutting 3 none, Cond.methodLink RX0 136 yX0_comesBefore, Cond.static yX0_comesBefore, Cond.code yX0_comesBefore cX0_comesBefore 2 (some .boolean), Cond.methodLink RX3 141 yX0_putAtFirstPlace, Cond.instanceMethod yX0_putAtFirstPlace, Cond.selects RX0 yX0_putAtFirstPlace yX0_putAtFirstPlace, Cond.code yX0_putAtFirstPlace cX0_putAtFirstPlace 8 none, Cond.methodLink RX0 140 yX2_lastColumn, Cond.methodLink RX0 146 yX0_isFree, Cond.methodLink RL 64 yX4_putAll, Cond.instanceMethod yX4_putAll, Cond.selects RX4 yX4_putAll yX4_putAll, Cond.code yX4_putAll cX4_putAll 4 (some .int), Cond.methodLink RX4 214 yX4_nextWord, Cond.instanceMethod yX4_nextWord]
def wsL_law_r26 : List Cond := [Cond.selects RX4 yX4_nextWord yX4_nextWord, Cond.code yX4_nextWord cX4_nextWord 4 (some .int), Cond.methodLink RX4 217 yX4_laneOf, Cond.static yX4_laneOf, Cond.code yX4_laneOf cX4_laneOf 1 (some .int), Cond.methodLink RX4 220 yX4_laysIn, Cond.instanceMethod yX4_laysIn, Cond.selects RX4 yX4_laysIn yX4_laysIn, Cond.code yX4_laysIn cX4_laysIn 8 (some .boolean), Cond.methodLink RL 65 yX3_undo, Cond.instanceMethod yX3_undo, Cond.selects RX3 yX3_undo yX3_undo, Cond.code yX3_undo cX3_undo 1 (some .int), Cond.methodLink RL 68 yX4_undo, Cond.instanceMethod yX4_undo, Cond.selects RX4 yX4_undo yX4_undo, Cond.code yX4_undo cX4_undo 2 (some .int), Cond.methodLink RL 69 yX3_count, Cond.instanceMethod yX3_count, Cond.selects RX3 yX3_count yX3_count, Cond.code yX3_count cX3_count 2 (some .int), Cond.methodLink RX3 144 yX0_countMeetingPairs, Cond.instanceMethod yX0_countMeetingPairs, Cond.selects RX0 yX0_countMeetingPairs yX0_countMeetingPairs]
def wsL_law_r27 : List Cond := [Cond.code yX0_countMeetingPairs cX0_countMeetingPairs 4 (some .int), Cond.methodLink RL 72 yX4_count, Cond.instanceMethod yX4_count, Cond.selects RX4 yX4_count yX4_count, Cond.code yX4_count cX4_count 2 (some .int), Cond.methodLink RX4 223 yX4_meetingPairs, Cond.instanceMethod yX4_meetingPairs, Cond.selects RX4 yX4_meetingPairs yX4_meetingPairs, Cond.code yX4_meetingPairs cX4_meetingPairs 4 (some .int), Cond.methodLink RL 73 yX3_word, Cond.instanceMethod yX3_word, Cond.selects RX3 yX3_word yX3_word, Cond.code yX3_word cX3_word 4 (some .int), Cond.fieldLink RX3 147 "VoiceWords$Word" "length" "I", Cond.fieldLink RX3 148 "VoiceWords$Word" "lane" "I", Cond.fieldLink RX3 151 "VoiceWords$Word" "column" "I", Cond.methodLink RX3 154 yX0_goneFrom, Cond.methodLink RL 77 yX4_word, Cond.instanceMethod yX4_word, Cond.selects RX4 yX4_word yX4_word, Cond.code yX4_word cX4_word 3 (some .int), Cond.methodLink RX4 226 yX4_lastOn, Cond.instanceMethod yX4_lastOn, Cond.selects RX4 yX4_lastOn yX4_lastOn]
def wsL_law_r28 : List Cond := [Cond.code yX4_lastOn cX4_lastOn 3 (some .int), Cond.methodLink RL 78 yX3_letter, Cond.instanceMethod yX3_letter, Cond.selects RX3 yX3_letter yX3_letter, Cond.code yX3_letter cX3_letter 4 (some .int), Cond.fieldLink RX3 158 "VoiceWords$Word" "letters" "[I", Cond.methodLink RL 81 yX4_letter, Cond.instanceMethod yX4_letter, Cond.selects RX4 yX4_letter yX4_letter, Cond.code yX4_letter cX4_letter 3 (some .int), Cond.methodLink RL 82 yX3_shot, Cond.instanceMethod yX3_shot, Cond.selects RX3 yX3_shot yX3_shot, Cond.code yX3_shot cX3_shot 2 (some .int), Cond.fieldLink RX3 161 "VoiceWords$Scene" "shots" "[I", Cond.methodLink RL 85 yX4_shot, Cond.instanceMethod yX4_shot, Cond.selects RX4 yX4_shot yX4_shot, Cond.code yX4_shot cX4_shot 2 (some .int), Cond.methodLink RL 86 yX3_where, Cond.instanceMethod yX3_where, Cond.selects RX3 yX3_where yX3_where, Cond.code yX3_where cX3_where 6 (some .int), Cond.methodLink RX3 164 yX3_isAskedFrame]
def wsL_law_r29 : List Cond := [Cond.static yX3_isAskedFrame, Cond.code yX3_isAskedFrame cX3_isAskedFrame 1 (some .boolean), Cond.methodLink RX3 167 yX0_isVisible, Cond.instanceMethod yX0_isVisible, Cond.selects RX0 yX0_isVisible yX0_isVisible, Cond.code yX0_isVisible cX0_isVisible 3 (some .boolean), Cond.methodLink RX3 171 yX0_rowOf, Cond.methodLink RX3 175 yX0_columnOf, Cond.methodLink RL 89 yX4_where, Cond.instanceMethod yX4_where, Cond.selects RX4 yX4_where yX4_where, Cond.code yX4_where cX4_where 5 (some .int), Cond.constantLong RX4 234 (39), Cond.methodLink RX4 231 yX4_isFrame, Cond.static yX4_isFrame, Cond.code yX4_isFrame cX4_isFrame 1 (some .boolean), Cond.constantLong RX4 229 (4000), Cond.methodLink RL 90 yX3_written, Cond.instanceMethod yX3_written, Cond.selects RX3 yX3_written yX3_written, Cond.code yX3_written cX3_written 4 (some .int), Cond.methodLink RX3 178 yX0_characterIn, Cond.instanceMethod yX0_characterIn, Cond.selects RX0 yX0_characterIn yX0_characterIn]
def wsL_law_r30 : List Cond := [Cond.code yX0_characterIn cX0_characterIn 7 (some .int), Cond.methodLink RX0 109 yX0_isVisible, Cond.methodLink RL 93 yX4_written, Cond.instanceMethod yX4_written, Cond.selects RX4 yX4_written yX4_written, Cond.code yX4_written cX4_written 5 (some .int), Cond.methodLink RX4 236 yX4_wordIn, Cond.instanceMethod yX4_wordIn, Cond.selects RX4 yX4_wordIn yX4_wordIn, Cond.code yX4_wordIn cX4_wordIn 6 (some .int), Cond.methodLink RL 94 yX3_onScreen, Cond.instanceMethod yX3_onScreen, Cond.selects RX3 yX3_onScreen yX3_onScreen, Cond.code yX3_onScreen cX3_onScreen 2 (some .int), Cond.methodLink RX3 182 yX0_visibleSet, Cond.instanceMethod yX0_visibleSet, Cond.selects RX0 yX0_visibleSet yX0_visibleSet, Cond.code yX0_visibleSet cX0_visibleSet 4 (some .int), Cond.methodLink RL 97 yX4_onScreen, Cond.instanceMethod yX4_onScreen, Cond.selects RX4 yX4_onScreen yX4_onScreen, Cond.code yX4_onScreen cX4_onScreen 4 (some .int), Cond.methodLink RL 98 yX3_meeting, Cond.instanceMethod yX3_meeting]
def wsL_law_r31 : List Cond := [Cond.selects RX3 yX3_meeting yX3_meeting, Cond.code yX3_meeting cX3_meeting 3 (some .int), Cond.methodLink RX3 185 yX0_firstMeeting, Cond.methodLink RL 101 yX4_meeting, Cond.instanceMethod yX4_meeting, Cond.selects RX4 yX4_meeting yX4_meeting, Cond.code yX4_meeting cX4_meeting 3 (some .int), Cond.methodLink RL 102 yX3_pace, Cond.instanceMethod yX3_pace, Cond.selects RX3 yX3_pace yX3_pace, Cond.code yX3_pace cX3_pace 2 (some .int), Cond.methodLink RX3 189 yX0_readingPace, Cond.instanceMethod yX0_readingPace, Cond.selects RX0 yX0_readingPace yX0_readingPace, Cond.code yX0_readingPace cX0_readingPace 5 (some .int), Cond.constantFloat RX0 123 (1103626240), Cond.methodLink RL 105 yX4_pace, Cond.instanceMethod yX4_pace, Cond.selects RX4 yX4_pace yX4_pace, Cond.code yX4_pace cX4_pace 4 (some .int), Cond.constantFloat RX4 240 (1103626240), Cond.methodLink RL 106 yX3_earliest, Cond.instanceMethod yX3_earliest, Cond.selects RX3 yX3_earliest yX3_earliest]
def wsL_law_r32 : List Cond := [Cond.code yX3_earliest cX3_earliest 5 (some .int), Cond.methodLink RL 109 yX4_earliest, Cond.instanceMethod yX4_earliest, Cond.selects RX4 yX4_earliest yX4_earliest, Cond.code yX4_earliest cX4_earliest 6 (some .int), Cond.methodLink RL 110 yX3_filled, Cond.instanceMethod yX3_filled, Cond.selects RX3 yX3_filled yX3_filled, Cond.code yX3_filled cX3_filled 4 (some .int), Cond.methodLink RX3 192 yX0_cellsInRow, Cond.instanceMethod yX0_cellsInRow, Cond.selects RX0 yX0_cellsInRow yX0_cellsInRow, Cond.code yX0_cellsInRow cX0_cellsInRow 10 (some .long), Cond.methodLink RX3 196 yJ13_bitCount_95d88, Cond.static yJ13_bitCount_95d88, Cond.initialized RJ13, Cond.code yJ13_bitCount_95d88 cJ13_bitCount_95d88 2 (some .int), Cond.constantLong RJ13 314 (6148914691236517205), Cond.constantLong RJ13 316 (3689348814741910323), Cond.constantLong RJ13 318 (1085102592571150095), Cond.methodLink RL 113 yX4_filled, Cond.instanceMethod yX4_filled, Cond.selects RX4 yX4_filled yX4_filled, Cond.code yX4_filled cX4_filled 5 (some .int)]
def wsL_law : List Cond := (wsL_law_r1 ++ (wsL_law_r2 ++ (wsL_law_r3 ++ (wsL_law_r4 ++ (wsL_law_r5 ++ (wsL_law_r6 ++ (wsL_law_r7 ++ (wsL_law_r8 ++ (wsL_law_r9 ++ (wsL_law_r10 ++ (wsL_law_r11 ++ (wsL_law_r12 ++ (wsL_law_r13 ++ (wsL_law_r14 ++ (wsL_law_r15 ++ (wsL_law_r16 ++ (wsL_law_r17 ++ (wsL_law_r18 ++ (wsL_law_r19 ++ (wsL_law_r20 ++ (wsL_law_r21 ++ (wsL_law_r22 ++ (wsL_law_r23 ++ (wsL_law_r24 ++ (wsL_law_r25 ++ (wsL_law_r26 ++ (wsL_law_r27 ++ (wsL_law_r28 ++ (wsL_law_r29 ++ (wsL_law_r30 ++ (wsL_law_r31 ++ wsL_law_r32))))))))))))))))))))))))))))))) ++ wsX30 ++ wsX40 ++ wsX00 ++ wsX10 ++ wsX20 ++ ([] : List Cond)
abbrev vwCl : List vw_C := [(RX0, TX0, 7), (RX1, TX1, 5), (RX2, TX2, 9), (RX3, TX3, 5), (RX4, TX4, 13)]
end
section
/-! BASE 1: machine ints as integers; the flat memory of the class and of the reference -/
def i32 (n : Int) : Int32 := Int32.ofInt n
def i64 (n : Int) : Int64 := Int64.ofInt n
theorem i32_self (x : Int32) : i32 x.toInt = x := by
  first
    | exact Int32.ofInt_toInt x
    | (apply Int32.toInt_inj.mp; unfold i32; rw [Int32.toInt_ofInt_of_le x.le_toInt x.toInt_lt])
theorem i32_toInt {n : Int} (h : -2147483648 ≤ n ∧ n ≤ 2147483647) : (i32 n).toInt = n := by
  unfold i32
  first
    | exact Int32.toInt_ofInt_of_le (by omega) (by omega)
    | (rw [Int32.toInt_ofInt]; exact Jvm.Kit.bmod32 (by omega) (by omega))
theorem i64_toInt {n : Int} (h : -9223372036854775808 ≤ n ∧ n ≤ 9223372036854775807) : (i64 n).toInt = n := by
  unfold i64
  first
    | exact Int64.toInt_ofInt_of_le (by omega) (by omega)
    | (rw [Int64.toInt_ofInt]; exact Jvm.Kit.bmod64 (by omega) (by omega))
theorem i32_add (a b : Int) : i32 a + i32 b = i32 (a + b) := by
  unfold i32
  first | exact (Int32.ofInt_add a b).symm | exact (Int32.ofInt_add).symm
theorem i32_sub (a b : Int) : i32 a - i32 b = i32 (a - b) := by
  unfold i32
  first | exact (Int32.ofInt_sub a b).symm | exact (Int32.ofInt_sub).symm
theorem i32_mul (a b : Int) : i32 a * i32 b = i32 (a * b) := by
  unfold i32
  first | exact (Int32.ofInt_mul a b).symm | exact (Int32.ofInt_mul).symm
theorem i32_neg (a : Int) : - i32 a = i32 (-a) := by
  unfold i32
  first | exact (Int32.ofInt_neg a).symm | exact (Int32.ofInt_neg).symm
theorem i64_add (a b : Int) : i64 a + i64 b = i64 (a + b) := by
  unfold i64
  first | exact (Int64.ofInt_add a b).symm | exact (Int64.ofInt_add).symm
theorem i64_sub (a b : Int) : i64 a - i64 b = i64 (a - b) := by
  unfold i64
  first | exact (Int64.ofInt_sub a b).symm | exact (Int64.ofInt_sub).symm
theorem i64_mul (a b : Int) : i64 a * i64 b = i64 (a * b) := by
  unfold i64
  first | exact (Int64.ofInt_mul a b).symm | exact (Int64.ofInt_mul).symm
theorem i32_l {a : Int} (h : -2147483648 ≤ a ∧ a ≤ 2147483647) : (i32 a).toInt64 = i64 a := by
  apply Int64.toInt_inj.mp
  rw [Int32.toInt_toInt64, i32_toInt h, i64_toInt (by omega)]
theorem i64_i {a : Int} (h : -2147483648 ≤ a ∧ a ≤ 2147483647) : (i64 a).toInt32 = i32 a := by
  apply Int32.toInt_inj.mp
  rw [Int64.toInt_toInt32, i32_toInt h, i64_toInt (by omega)]
  exact Jvm.Kit.bmod32 (by omega) (by omega)
theorem i32_lt {a b : Int} (ha : -2147483648 ≤ a ∧ a ≤ 2147483647) (hb : -2147483648 ≤ b ∧ b ≤ 2147483647) : i32 a < i32 b ↔ a < b := by
  rw [Int32.lt_iff_toInt_lt, i32_toInt ha, i32_toInt hb]
theorem i32_le {a b : Int} (ha : -2147483648 ≤ a ∧ a ≤ 2147483647) (hb : -2147483648 ≤ b ∧ b ≤ 2147483647) : i32 a ≤ i32 b ↔ a ≤ b := by
  rw [Int32.le_iff_toInt_le, i32_toInt ha, i32_toInt hb]
theorem i32_eq {a b : Int} (ha : -2147483648 ≤ a ∧ a ≤ 2147483647) (hb : -2147483648 ≤ b ∧ b ≤ 2147483647) : i32 a = i32 b ↔ a = b := by
  rw [← Int32.toInt_inj, i32_toInt ha, i32_toInt hb]
theorem i64_lt {a b : Int} (ha : -9223372036854775808 ≤ a ∧ a ≤ 9223372036854775807) (hb : -9223372036854775808 ≤ b ∧ b ≤ 9223372036854775807) : i64 a < i64 b ↔ a < b := by
  rw [Int64.lt_iff_toInt_lt, i64_toInt ha, i64_toInt hb]
theorem i64_eq {a b : Int} (ha : -9223372036854775808 ≤ a ∧ a ≤ 9223372036854775807) (hb : -9223372036854775808 ≤ b ∧ b ≤ 9223372036854775807) : i64 a = i64 b ↔ a = b := by
  rw [← Int64.toInt_inj, i64_toInt ha, i64_toInt hb]
theorem i32_clamp {a : Int} (h : 0 ≤ a ∧ a ≤ 2147483647) : (((i32 a).toNatClampNeg : Nat) : Int) = a := by
  have e : (i32 a).toNatClampNeg = (i32 a).toInt.toNat := rfl
  rw [e, i32_toInt (by omega)]
  omega
theorem i32_in {a : Int} {n : Nat} (h : 0 ≤ a ∧ a < (n : Int)) (hn : (n : Int) ≤ 2147483647) : vp_in (i32 a) n := by
  rw [vp_in_iff, i32_toInt (by omega)]
  exact h
/-- a truth value as the machine has it -/
def fB (c : Bool) : Int := if c then 1 else 0
theorem fB_t : fB true = 1 := rfl
theorem fB_f : fB false = 0 := rfl
theorem fB_r (c : Bool) : -2147483648 ≤ fB c ∧ fB c ≤ 2147483647 := by cases c <;> decide
/-! the memory: what stands at place j of object k: ints in I, references (by their object's number) in P -/
abbrev fM : Type := Nat → Int → Int
abbrev fN : Type := Nat → Int → Nat
def fup (I : fM) (k : Nat) (j x : Int) : fM := fun a b => if a = k ∧ b = j then x else I a b
def fuq (P : fN) (k : Nat) (j : Int) (x : Nat) : fN := fun a b => if a = k ∧ b = j then x else P a b
theorem fup_s (I : fM) (k : Nat) (j x : Int) : fup I k j x k j = x := by simp [fup]
theorem fup_k {I : fM} {k a : Nat} {j b x : Int} (h : a ≠ k) : fup I k j x a b = I a b := by simp [fup, h]
theorem fup_j {I : fM} {k a : Nat} {j b x : Int} (h : b ≠ j) : fup I k j x a b = I a b := by simp [fup, h]
theorem fuq_s (P : fN) (k : Nat) (j : Int) (x : Nat) : fuq P k j x k j = x := by simp [fuq]
theorem fuq_k {P : fN} {k a : Nat} {j b : Int} {x : Nat} (h : a ≠ k) : fuq P k j x a b = P a b := by simp [fuq, h]
theorem fuq_j {P : fN} {k a : Nat} {j b : Int} {x : Nat} (h : b ≠ j) : fuq P k j x a b = P a b := by simp [fuq, h]
/-- the kinds of the objects by their numbers. 0 Scene, 1 Text, 2 Word, 3 VoiceWords, 4 VoiceWordsModel, 5 int[12], 6 int[10], 7 int[160], 8 int[241], 9 int[1205], 10 boolean[12], 11 Word[12], 12 Scene[5] -/
def fso (o : Nat) : Nat := match o with
  | 0 => 0
  | 1 => 11
  | 2 => 6
  | 3 => 2
  | 4 => 5
  | 5 => 5
  | n => if n % 2 = 0 then 2 else 5
def fkd (k : Nat) : Nat := if k = 0 then 3 else if k < 61 then fso ((k - 1) % 30) else if k = 61 then 12 else if k < 212 then fso ((k - 62) % 30) else if k = 212 then 1 else if k = 213 then 7 else if k = 214 then 4 else if k < 217 then 8 else if k = 217 then 9 else if k = 218 then 7 else 10
/-- what a cell holds, by its kind. Γ: addresses, the array classes (0 int[], 1 Word[], 2 Scene[], 3 boolean[]), the classes' numbers, the addresses of constants -/
abbrev fG : Type := (Nat → Nat) × (Nat → ClassId) × va_G × (Nat → Nat)
def fen (Γ : fG) (K k : Nat) (r : Int → Int) (q : Int → Nat) : va_E := match K with
  | 0 => .inr (0, [.ref (Γ.1 (k + 1)), .int (i32 (r 1)), .ref (Γ.1 (k + 2)), .int (i32 (r 3)), .int (i32 (r 4)), .ref (Γ.1 (k + 3)), .ref (Γ.1 (k + 5))])
  | 1 => .inr (1, [.ref (Γ.1 (k + 1)), .int (i32 (r 1)), .int (i32 (r 2)), .int (i32 (r 3)), .int (i32 (r 4))])
  | 2 => .inr (2, [.ref (Γ.1 (k + 1)), .int (i32 (r 1)), .int (i32 (r 2)), .int (i32 (r 3)), .int (i32 (r 4)), .int (i32 (r 5)), .int (i32 (r 6)), .int (i32 (r 7)), .int (i32 (r 8))])
  | 3 => .inr (3, [.ref (Γ.1 1), .ref (Γ.1 31), .ref (Γ.1 61), .int (i32 (r 3)), .ref (Γ.1 212)])
  | 4 => .inr (4, [.int (i32 (r 0)), .ref (Γ.1 (k + 1)), .ref (Γ.1 (k + 2)), .ref (Γ.1 (k + 3)), .int (i32 (r 4)), .ref (Γ.1 (k + 4)), .int (i32 (r 6)), .int (i32 (r 7)), .int (i32 (r 8)), .int (i32 (r 9)), .long (i64 (r 10)), .int (i32 (r 11)), .ref (Γ.1 (k + 5))])
  | 5 => .inl (Γ.2.1 0, 12, .inl (fun j => i32 (r (j : Int))))
  | 6 => .inl (Γ.2.1 0, 10, .inl (fun j => i32 (r (j : Int))))
  | 7 => .inl (Γ.2.1 0, 160, .inl (fun j => i32 (r (j : Int))))
  | 8 => .inl (Γ.2.1 0, 241, .inl (fun j => i32 (r (j : Int))))
  | 9 => .inl (Γ.2.1 0, 1205, .inl (fun j => i32 (r (j : Int))))
  | 10 => .inl (Γ.2.1 3, 12, .inl (fun j => i32 (r (j : Int))))
  | 11 => .inl (Γ.2.1 1, 12, .inr (.inr (.inr (.inr (fun j => some (Γ.1 (q (j : Int))))))))
  | _ => .inl (Γ.2.1 2, 5, .inr (.inr (.inr (.inr (fun j => some (Γ.1 (q (j : Int))))))))
def flay (Γ : fG) (I : fM) (P : fN) (k : Nat) : va_E := fen Γ (fkd k) k (I k) (P k)
def fws (Γ : fG) (N : Nat) (I : fM) (P : fN) : va_W := (List.range N).map (fun k => (Γ.1 k, flay Γ I P k))
theorem fws_get {Γ : fG} {N : Nat} {I : fM} {P : fN} {k : Nat} (h : k < N) : (fws Γ N I P)[k]? = some (Γ.1 k, flay Γ I P k) := by
  unfold fws
  rw [List.getElem?_map, List.getElem?_range h]
  rfl
theorem fws_at {Γ : fG} {N : Nat} {I : fM} {P : fN} {k K : Nat} {e : va_E} (h : k < N) (hk : fkd k = K) (he : fen Γ K k (I k) (P k) = e) : (fws Γ N I P)[k]? = some (Γ.1 k, e) := by
  rw [fws_get h, flay, hk, he]
theorem fws_set {Γ : fG} {N : Nat} {I I' : fM} {P P' : fN} {k K : Nat} {e : va_E} (hk : fkd k = K) (hI : ∀ a, a ≠ k → I' a = I a) (hP : ∀ a, a ≠ k → P' a = P a) (he : fen Γ K k (I' k) (P' k) = e) : (fws Γ N I P).set k (Γ.1 k, e) = fws Γ N I' P' := by
  apply List.ext_getElem?
  intro i
  by_cases hi : i = k
  · subst hi
    by_cases hl : i < N
    · rw [List.getElem?_set_self (by simp [fws]; exact hl), fws_at hl hk he]
    · rw [List.getElem?_eq_none (by simp [fws]; omega), List.getElem?_eq_none (by simp [fws]; omega)]
  · rw [List.getElem?_set_ne (Ne.symm hi)]
    by_cases hl : i < N
    · rw [fws_get hl, fws_get hl, flay, flay, hI i hi, hP i hi]
    · rw [List.getElem?_eq_none (by simp [fws]; omega), List.getElem?_eq_none (by simp [fws]; omega)]
theorem fws_mem {Γ : fG} {N : Nat} {I : fM} {P : fN} {i : Nat} {q : Nat × va_E} (h : (fws Γ N I P)[i]? = some q) : i < N ∧ q.1 = Γ.1 i := by
  have hl : i < N := by
    have := (List.getElem?_eq_some_iff.mp h).1
    simpa [fws] using this
  rw [fws_get hl] at h
  cases h
  exact ⟨hl, rfl⟩
/-- the addresses are apart -/
def finj (Γ : fG) (N : Nat) : Prop := ∀ i j : Nat, i < N → j < N → Γ.1 i = Γ.1 j → i = j
def fA (Γ : fG) (N : Nat) : Nat → Prop := fun q => ∃ k, k < N ∧ q = Γ.1 k
theorem fD_of {Γ : fG} {N : Nat} {I : fM} {P : fN} {A : Nat → Prop} (h : finj Γ N) (hA : ∀ k, k < N → A (Γ.1 k)) : va_D A (fws Γ N I P) := by
  refine ⟨fun i j p q hi hj e => ?_, fun k q hk => ?_⟩
  · obtain ⟨h1, e1⟩ := fws_mem hi
    obtain ⟨h2, e2⟩ := fws_mem hj
    exact h i j h1 h2 (by rw [← e1, ← e2]; exact e)
  · obtain ⟨h1, e1⟩ := fws_mem hk
    rw [e1]
    exact hA k h1
/-- the lanes in the order in which they are tried -/
def flane (j : Nat) : Int := match j with
  | 0 => 3
  | 1 => 4
  | 2 => 2
  | 3 => 5
  | 4 => 1
  | 5 => 6
  | 6 => 0
  | _ => 7
/-- the text constants: say, cut, left, right, up, down -/
def fLen : List Nat := [3, 3, 4, 5, 2, 4]
def fByt : List (List Int32) := [[115, 97, 121], [99, 117, 116], [108, 101, 102, 116], [114, 105, 103, 104, 116], [117, 112], [100, 111, 119, 110]]
def fTx (i : Nat) : String := match i with
  | 0 => "say"
  | 1 => "cut"
  | 2 => "left"
  | 3 => "right"
  | 4 => "up"
  | _ => "down"
end
section
/-! BASE 2: contexts, contracts, and the judgement over the flat memory -/
def fSt (i : Nat) : Nat := match i with
  | 0 => 32
  | 1 => 47
  | 2 => 108
  | 3 => 110
  | 4 => 112
  | _ => 114
/-- what no method changes: the table of lanes, the text constants, statics of the JDK, links to nest mates -/
def fS (Γ : fG) (A : Nat → Prop) (U : State) (H : Heap) : Prop :=
  va_Z "VoiceWords" "LANE_ORDER" "[I" (.ref (Γ.2.2.2 0)) A U H ∧ va_T .int (Γ.2.2.2 0) 8 (fun j => .int (i32 (flane j))) A U H ∧
  vk_S 6 fLen fByt (fun i => Γ.2.2.2 (1 + i)) (fun i => Γ.2.2.2 (7 + i)) A U H ∧ (∀ i, i < 6 → vk_R RX1 (fSt i) (fTx i) (Γ.2.2.2 (1 + i)) U) ∧
  va_Z "java/lang/String" "COMPACT_STRINGS" "Z" (.int 1) A U H ∧ va_Zq "jdk/internal/util/Preconditions" "SIOOBE_FORMATTER" "Ljava/util/function/BiFunction;" A U H ∧
  va_Nw (.methodLinkNest RX3 29 yX1_init "VoiceWords") U ∧ va_Nw (.methodLinkNest RX0 25 yX2_init "VoiceWords") U ∧ va_Nw (.methodLinkNest RX1 59 yX3_isAllowed "VoiceWords") U ∧ va_Nw (.methodLinkNest RX1 81 yX3_isBetween "VoiceWords") U
theorem fS.warm {Γ : fG} {A : Nat → Prop} {s U : State} {H : Heap} (hW : s.WarmedH U.vm) (h : fS Γ A s H) : fS Γ A U H := by
  obtain ⟨h1, h2, h3, h4, h5, h6, h7, h8, h9, h10⟩ := h
  exact ⟨h1.moved hW.alike, h2.moved hW.alike, h3.moved hW.alike, fun i hi => (h4 i hi).warm hW, h5.moved hW.alike, h6.moved hW.alike, h7.warmM hW, h8.warmM hW, h9.warmM hW, h10.warmM hW⟩
theorem fS.same {Γ : fG} {A : Nat → Prop} {s U : State} {H : Heap} (hv : s.vm = U.vm) (h : fS Γ A s H) : fS Γ A U H := by
  obtain ⟨h1, h2, h3, h4, h5, h6, h7, h8, h9, h10⟩ := h
  have hal : s.vm.Alike U.vm := by rw [hv]; exact Vm.Alike.refl _
  exact ⟨h1.moved hal, h2.moved hal, h3.moved hal, fun i hi => (h4 i hi).same hv.symm, h5.moved hal, h6.moved hal, h7.same rfl hv, h8.same rfl hv, h9.same rfl hv, h10.same rfl hv⟩
theorem fS.kept {Γ : fG} {A : Nat → Prop} {U : State} {H H1 : Heap} (h : fS Γ A U H) (hq : ∀ a : Nat, a < H.size → ¬ A a → H1[a]? = H[a]?) : fS Γ A U H1 := by
  obtain ⟨h1, h2, h3, h4, h5, h6, h7⟩ := h
  exact ⟨h1.kept hq, h2.kept hq, h3.kept hq, h4, h5.kept hq, h6.kept hq, h7⟩
theorem fS.narrow {Γ : fG} {A B : Nat → Prop} {U : State} {H : Heap} (h : fS Γ A U H) (hAB : ∀ q, B q → A q) : fS Γ B U H := by
  obtain ⟨h1, h2, h3, h4, h5, h6, h7⟩ := h
  exact ⟨h1.narrow hAB, h2.narrow hAB, h3.narrow hAB, h4, h5.narrow hAB, h6.narrow hAB, h7⟩
def fty (Γ : fG) : List (ClassId × FieldType) := [(Γ.2.1 0, .int), (Γ.2.1 1, .object RX2), (Γ.2.1 2, .object RX0), (Γ.2.1 3, .boolean)]
/-- a method's start -/
def fW (Γ : fG) (N : Nat) (I : fM) (P : fN) (U : State) : Prop := va_P Γ.2.2.1 vwCl (fws Γ N I P) U.heap ∧ va_K Γ.2.2.1 vwCl (fty Γ) U ∧ finj Γ N ∧ fS Γ (fA Γ N) U U.heap
/-- a method's end: its answer, the memory, nothing else changed -/
def fQ (Γ : fG) (N : Nat) (post : Option Value → fM → fN → Prop) : Array Value → State → Outcome → State → Prop := fun _ st oc t => (∃ (v : Option Value) (I' : fM) (P' : fN), oc = .returned v ∧ post v I' P' ∧ va_P Γ.2.2.1 vwCl (fws Γ N I' P') t.heap) ∧ va_F (fA Γ N) st t
/-- a contract -/
def fMet (l : Launch) (y : MethodName) (ws : List Cond) (rm : Room) (Γ : fG) (N : Nat) (av : List Value) (I : fM) (P : fN) (post : Option Value → fM → fN → Prop) : Prop := Met l y ws rm (va_Pc av (fW Γ N I P)) (fQ Γ N post) 0 0 (fA Γ N)
/-- the answer v, the memory I', P' -/
abbrev fE (v : Option Value) (I' : fM) (P' : fN) : Option Value → fM → fN → Prop := fun a b c => a = v ∧ b = I' ∧ c = P'
/-- what holds all through a method's body -/
def fC (p : Program) (s : State) (m : MethodId) (args : Array Value) (meth : Method) (c : Code) (cc : ByteArray) (own : String) (Ts : List Cond) (A : Nat → Prop) (Γ : fG) (N nL : Nat) (ret : Option FieldType) : Prop :=
  p.tables.exec = Jvm.exec ∧ c.code = cc ∧ c.maxLocals = nL ∧ s.vm.findClass own = some m.cls ∧ (∀ w ∈ Ts, w.before args s = true) ∧ va_K Γ.2.2.1 vwCl (fty Γ) s ∧ finj Γ N ∧ (∀ k, k < N → A (Γ.1 k)) ∧ fS Γ A s s.heap ∧ meth.sig.returnType = ret ∧ meth.locks = false
/-- from here, with the memory I, P, the machine comes to Q -/
def fV (p : Program) (l : Launch) (e : Env) (R : Room) (s : State) (m : MethodId) (args : Array Value) (below : List Frame) (meth : Method) (c : Code) (Q : State → Prop) (A : Nat → Prop) (Γ : fG) (N nL kc ks : Nat) (I : fM) (P : fN) (pc : Nat) (lv : List (Nat × Value)) (st : List Value) : Prop :=
  ∀ (H : Heap) (locs : List Loc) (ls : Array Slot), va_P Γ.2.2.1 vwCl (fws Γ N I P) H → va_S A s.heap H locs → lv_has ls nL lv → W p l e R s m args below meth c H locs kc ks Q (F0 m pc ls st)
/-- a field's link: the field j of the class ci is what the constant index of own's pool names -/
def fFl (Ts : List Cond) (own : String) (index ci j : Nat) : Prop := ∃ q : vw_C, vwCl[ci]? = some q ∧ j < q.2.2 ∧ (∀ w ∈ u_ws q.1 q.2.1 q.2.2, w ∈ Ts) ∧ Cond.fieldLink own index q.1 (q.2.1 j).2.1 (q.2.1 j).2.2.1 ∈ Ts ∧ (q.2.1 j).1 = q.1 ∧ ((q.2.1 j).2.2.2 = false → ∃ ty : Nat → FieldType, (∀ k, k < q.2.2 → parseFieldDescriptor (q.2.1 k).2.2.1 = some (ty k)) ∧ (∀ a, a < q.2.2 → ∀ b, b < q.2.2 → a ≠ b → (q.2.1 a).2.1 ≠ (q.2.1 b).2.1))
/-- a call's link (a virtual method): the callee's words among the caller's, its room in the caller's -/
def fCv (Ts : List Cond) (own : String) (index ci : Nat) (y : MethodName) (wsy : List Cond) (R rm : Room) (n : Nat) : Prop :=
  ∃ (q : vw_C) (bytes : ByteArray) (maxL : Nat) (ret : Option FieldType) (ws' : List Cond), vwCl[ci]? = some q ∧ GoodIn Ts (wsV own index q.1 y wsy) ∧ wsy = Cond.code y bytes maxL ret :: ws' ∧ rm.cells = 0 ∧ rm.slots = 0 ∧
    (y.cls = q.1 ∧ y.cls ≠ "java/lang/invoke/MethodHandle" ∧ y.cls ≠ "java/lang/invoke/VarHandle" ∧ (parseMethodDescriptor y.desc).map (fun d => d.parameters.length) = some n) ∧ rm.frames + 1 ≤ R.frames ∧ 8 + (maxL + 11) + rm.locals ≤ R.locals
/-- a call's link (a static method of the class itself) -/
def fCs (Ts : List Cond) (own : String) (index : Nat) (y : MethodName) (wsy : List Cond) (R rm : Room) (n : Nat) : Prop :=
  ∃ (bytes : ByteArray) (maxL : Nat) (ret : Option FieldType) (ws' : List Cond), GoodIn Ts (wsS own index y wsy) ∧ wsy = Cond.code y bytes maxL ret :: ws' ∧ rm.cells = 0 ∧ rm.slots = 0 ∧
    (y.cls = own ∧ y.cls ≠ "java/lang/invoke/MethodHandle" ∧ y.cls ≠ "java/lang/invoke/VarHandle" ∧ (parseMethodDescriptor y.desc).map (fun d => d.parameters.length) = some n) ∧ rm.frames + 1 ≤ R.frames ∧ 8 + (maxL + 11) + rm.locals ≤ R.locals
theorem fW_blind {Γ : fG} {N : Nat} {I : fM} {P : fN} {av : List Value} : FrameBlind (va_Pc av (fW Γ N I P)) := by
  intro a U g mk h
  obtain ⟨h1, h2, h3, h4, h5⟩ := h
  exact ⟨h1, h2, va_K.moved (u := U) (U := U.calling g mk a) (Vm.Alike.refl U.vm) h3, h4, fS.same (s := U) (U := U.calling g mk a) rfl h5⟩
theorem fMet_of {l : Launch} {y : MethodName} {ws ws' : List Cond} {rm : Room} {Γ : fG} {N : Nat} {av : List Value} {I : fM} {P : fN} {post : Option Value → fM → fN → Prop} {cc : ByteArray} {maxL : Nat} {ret : Option FieldType} {own : String} (hw : ws = Cond.code y cc maxL ret :: ws') (hy : plainName y.cls = true) (ho : y.cls = own) (hlen : (lg_sl av).length ≤ maxL)
    (body : ∀ (p : Program) (e : Env) (s : State) (m : MethodId) (args : Array Value) (below : List Frame) (meth : Method) (c : Code), fC p s m args meth c cc own ws (fA Γ N) Γ N maxL ret → fV p l e rm s m args below meth c (MQ below (fQ Γ N post) args s 0 0 (fA Γ N)) (fA Γ N) Γ N maxL 0 0 I P 0 (lv_args 0 av) []) : fMet l y ws rm Γ N av I P post := by
  refine Met.ofW (cc := cc) (maxL := maxL) (ret := ret) hy hw ?_
  intro p e s m args below meth c s₁ B hml hv
  obtain ⟨rfl, hP, hK, hinj, hS⟩ := hv
  have hx := B.exec
  have hb := B.bytes
  have hr := B.returns
  have hts := atoms_spec (ws := ws) B.pre
  have hown : s.vm.findClass own = some m.cls := by rw [← ho]; exact findClass_of_methodNamed B.named
  have hlocks := B.notSynchronized
  rw [lg_entry_eq]
  exact body p e s m _ below meth c ⟨hx, hb, hml, hown, hts, hK, hinj, fun k hk => ⟨k, hk, rfl⟩, hS, hr, hlocks⟩ _ _ _ hP va_S.rf (lv_entry av hlen)
section FV
variable {p : Program} {l : Launch} {e : Env} {R : Room} {s : State} {m : MethodId} {args : Array Value} {below : List Frame} {meth : Method} {c : Code} {Q : State → Prop} {A : Nat → Prop} {Γ : fG} {N nL kc ks : Nat} {I : fM} {P : fN} {pc pc' : Nat} {lv lv' : List (Nat × Value)} {st rest : List Value} {cc : ByteArray} {own : String} {Ts : List Cond} {ret : Option FieldType}
theorem fV_iconst (G : fC p s m args meth c cc own Ts A Γ N nL ret) {n : Int} (hdg : decode cc pc = .ok (.iconst n, 1)) (hpc : pc + 1 = pc') (k : fV p l e R s m args below meth c Q A Γ N nL kc ks I P pc' lv (.int (i32 n) :: st)) : fV p l e R s m args below meth c Q A Γ N nL kc ks I P pc lv st := by
  subst hpc
  exact fun H locs ls hP hS hl => lv_iconst G.1 G.2.1 hdg rfl (k H locs ls hP hS hl)
theorem fV_bipush (G : fC p s m args meth c cc own Ts A Γ N nL ret) {n : Int} (hdg : decode cc pc = .ok (.bipush n, 2)) (hv : (Int8.ofInt n).toInt32 = i32 n) (hpc : pc + 2 = pc') (k : fV p l e R s m args below meth c Q A Γ N nL kc ks I P pc' lv (.int (i32 n) :: st)) : fV p l e R s m args below meth c Q A Γ N nL kc ks I P pc lv st := by
  subst hpc
  exact fun H locs ls hP hS hl => lv_bipush G.1 G.2.1 hdg hv (k H locs ls hP hS hl)
theorem fV_sipush (G : fC p s m args meth c cc own Ts A Γ N nL ret) {n : Int} (hdg : decode cc pc = .ok (.sipush n, 3)) (hv : (Int16.ofInt n).toInt32 = i32 n) (hpc : pc + 3 = pc') (k : fV p l e R s m args below meth c Q A Γ N nL kc ks I P pc' lv (.int (i32 n) :: st)) : fV p l e R s m args below meth c Q A Γ N nL kc ks I P pc lv st := by
  subst hpc
  exact fun H locs ls hP hS hl => lv_sipush G.1 G.2.1 hdg hv (k H locs ls hP hS hl)
theorem fV_lconst (G : fC p s m args meth c cc own Ts A Γ N nL ret) {n : Fin 2} {v : Int} (hdg : decode cc pc = .ok (.lconst n, 1)) (hv : Int64.ofNat (n : Nat) = i64 v) (hpc : pc + 1 = pc') (k : fV p l e R s m args below meth c Q A Γ N nL kc ks I P pc' lv (.long (i64 v) :: st)) : fV p l e R s m args below meth c Q A Γ N nL kc ks I P pc lv st := by
  subst hpc
  exact fun H locs ls hP hS hl => lv_lconst G.1 G.2.1 hdg hv (k H locs ls hP hS hl)
theorem fV_ldc2 (G : fC p s m args meth c cc own Ts A Γ N nL ret) {index : Nat} {v : Int64} {a : Int} (hm : Cond.constantLong own index v ∈ Ts) (hv : v = i64 a) (hdg : decode cc pc = .ok (.ldc2_w index, 3)) (hpc : pc + 3 = pc') (k : fV p l e R s m args below meth c Q A Γ N nL kc ks I P pc' lv (.long (i64 a) :: st)) : fV p l e R s m args below meth c Q A Γ N nL kc ks I P pc lv st := by
  subst hpc; subst hv
  exact fun H locs ls hP hS hl => lv_ldc2 G.1 G.2.1 G.2.2.2.1 (G.2.2.2.2.1 _ hm) hdg (k H locs ls hP hS hl)
theorem fV_iload_n (G : fC p s m args meth c cc own Ts A Γ N nL ret) {j : Fin 4} (q : Nat) {i : Nat} {x : Int32} (hdg : decode cc pc = .ok (.iload_n j, 1)) (hi : (j : Nat) = i) (hq : lv[q]? = some (i, .int x)) (hpc : pc + 1 = pc') (k : fV p l e R s m args below meth c Q A Γ N nL kc ks I P pc' lv (.int x :: st)) : fV p l e R s m args below meth c Q A Γ N nL kc ks I P pc lv st := by
  subst hpc
  exact fun H locs ls hP hS hl => lv_iload_n G.1 G.2.1 hdg hi (lv_at hl q hq) (k H locs ls hP hS hl)
theorem fV_iload (G : fC p s m args meth c cc own Ts A Γ N nL ret) (q : Nat) {i : Nat} {x : Int32} (hdg : decode cc pc = .ok (.iload i, 2)) (hq : lv[q]? = some (i, .int x)) (hpc : pc + 2 = pc') (k : fV p l e R s m args below meth c Q A Γ N nL kc ks I P pc' lv (.int x :: st)) : fV p l e R s m args below meth c Q A Γ N nL kc ks I P pc lv st := by
  subst hpc
  exact fun H locs ls hP hS hl => lv_iload G.1 G.2.1 hdg (lv_at hl q hq) (k H locs ls hP hS hl)
theorem fV_lload_n (G : fC p s m args meth c cc own Ts A Γ N nL ret) {j : Fin 4} (q : Nat) {i : Nat} {x : Int64} (hdg : decode cc pc = .ok (.lload_n j, 1)) (hi : (j : Nat) = i) (hq : lv[q]? = some (i, .long x)) (hpc : pc + 1 = pc') (k : fV p l e R s m args below meth c Q A Γ N nL kc ks I P pc' lv (.long x :: st)) : fV p l e R s m args below meth c Q A Γ N nL kc ks I P pc lv st := by
  subst hpc
  exact fun H locs ls hP hS hl => lv_lload_n G.1 G.2.1 hdg hi (lv_at hl q hq) (k H locs ls hP hS hl)
theorem fV_lload (G : fC p s m args meth c cc own Ts A Γ N nL ret) (q : Nat) {i : Nat} {x : Int64} (hdg : decode cc pc = .ok (.lload i, 2)) (hq : lv[q]? = some (i, .long x)) (hpc : pc + 2 = pc') (k : fV p l e R s m args below meth c Q A Γ N nL kc ks I P pc' lv (.long x :: st)) : fV p l e R s m args below meth c Q A Γ N nL kc ks I P pc lv st := by
  subst hpc
  exact fun H locs ls hP hS hl => lv_lload G.1 G.2.1 hdg (lv_at hl q hq) (k H locs ls hP hS hl)
theorem fV_fload_n (G : fC p s m args meth c cc own Ts A Γ N nL ret) {j : Fin 4} (q : Nat) {i : Nat} {x : UInt32} (hdg : decode cc pc = .ok (.fload_n j, 1)) (hi : (j : Nat) = i) (hq : lv[q]? = some (i, .float x)) (hpc : pc + 1 = pc') (k : fV p l e R s m args below meth c Q A Γ N nL kc ks I P pc' lv (.float x :: st)) : fV p l e R s m args below meth c Q A Γ N nL kc ks I P pc lv st := by
  subst hpc
  exact fun H locs ls hP hS hl => lv_fload_n G.1 G.2.1 hdg hi (lv_at hl q hq) (k H locs ls hP hS hl)
theorem fV_fload (G : fC p s m args meth c cc own Ts A Γ N nL ret) (q : Nat) {i : Nat} {x : UInt32} (hdg : decode cc pc = .ok (.fload i, 2)) (hq : lv[q]? = some (i, .float x)) (hpc : pc + 2 = pc') (k : fV p l e R s m args below meth c Q A Γ N nL kc ks I P pc' lv (.float x :: st)) : fV p l e R s m args below meth c Q A Γ N nL kc ks I P pc lv st := by
  subst hpc
  exact fun H locs ls hP hS hl => lv_fload G.1 G.2.1 hdg (lv_at hl q hq) (k H locs ls hP hS hl)
theorem fV_aload_n (G : fC p s m args meth c cc own Ts A Γ N nL ret) {j : Fin 4} (q : Nat) {i : Nat} {x : Nat} (hdg : decode cc pc = .ok (.aload_n j, 1)) (hi : (j : Nat) = i) (hq : lv[q]? = some (i, .ref x)) (hpc : pc + 1 = pc') (k : fV p l e R s m args below meth c Q A Γ N nL kc ks I P pc' lv (.ref x :: st)) : fV p l e R s m args below meth c Q A Γ N nL kc ks I P pc lv st := by
  subst hpc
  exact fun H locs ls hP hS hl => lv_aload_n G.1 G.2.1 hdg hi (lv_at hl q hq) (k H locs ls hP hS hl)
theorem fV_aload (G : fC p s m args meth c cc own Ts A Γ N nL ret) (q : Nat) {i : Nat} {x : Nat} (hdg : decode cc pc = .ok (.aload i, 2)) (hq : lv[q]? = some (i, .ref x)) (hpc : pc + 2 = pc') (k : fV p l e R s m args below meth c Q A Γ N nL kc ks I P pc' lv (.ref x :: st)) : fV p l e R s m args below meth c Q A Γ N nL kc ks I P pc lv st := by
  subst hpc
  exact fun H locs ls hP hS hl => lv_aload G.1 G.2.1 hdg (lv_at hl q hq) (k H locs ls hP hS hl)
theorem fV_istore_n (G : fC p s m args meth c cc own Ts A Γ N nL ret) {j : Fin 4} {i : Nat} {x : Int32} (hdg : decode cc pc = .ok (.istore_n j, 1)) (hi : (j : Nat) = i) (hn : i < nL) (hl9 : (i, Value.int x) :: lv.filter (fun q => !(q.1 == i) && !(q.1 + 1 == i && q.2.category == 2)) = lv') (hpc : pc + 1 = pc') (k : fV p l e R s m args below meth c Q A Γ N nL kc ks I P pc' lv' st) : fV p l e R s m args below meth c Q A Γ N nL kc ks I P pc lv (.int x :: st) := by
  subst hpc
  exact fun H locs ls hP hS hl => lv_istore_n G.1 G.2.1 hdg hi hl hn hl9 (fun ls' hl' => k H locs ls' hP hS hl')
theorem fV_istore (G : fC p s m args meth c cc own Ts A Γ N nL ret) {i : Nat} {x : Int32} (hdg : decode cc pc = .ok (.istore i, 2)) (hn : i < nL) (hl9 : (i, Value.int x) :: lv.filter (fun q => !(q.1 == i) && !(q.1 + 1 == i && q.2.category == 2)) = lv') (hpc : pc + 2 = pc') (k : fV p l e R s m args below meth c Q A Γ N nL kc ks I P pc' lv' st) : fV p l e R s m args below meth c Q A Γ N nL kc ks I P pc lv (.int x :: st) := by
  subst hpc
  exact fun H locs ls hP hS hl => lv_istore G.1 G.2.1 hdg hl hn hl9 (fun ls' hl' => k H locs ls' hP hS hl')
theorem fV_astore_n (G : fC p s m args meth c cc own Ts A Γ N nL ret) {j : Fin 4} {i : Nat} {x : Nat} (hdg : decode cc pc = .ok (.astore_n j, 1)) (hi : (j : Nat) = i) (hn : i < nL) (hl9 : (i, Value.ref x) :: lv.filter (fun q => !(q.1 == i) && !(q.1 + 1 == i && q.2.category == 2)) = lv') (hpc : pc + 1 = pc') (k : fV p l e R s m args below meth c Q A Γ N nL kc ks I P pc' lv' st) : fV p l e R s m args below meth c Q A Γ N nL kc ks I P pc lv (.ref x :: st) := by
  subst hpc
  exact fun H locs ls hP hS hl => lv_astore_n G.1 G.2.1 hdg hi hl hn hl9 (fun ls' hl' => k H locs ls' hP hS hl')
theorem fV_astore (G : fC p s m args meth c cc own Ts A Γ N nL ret) {i : Nat} {x : Nat} (hdg : decode cc pc = .ok (.astore i, 2)) (hn : i < nL) (hl9 : (i, Value.ref x) :: lv.filter (fun q => !(q.1 == i) && !(q.1 + 1 == i && q.2.category == 2)) = lv') (hpc : pc + 2 = pc') (k : fV p l e R s m args below meth c Q A Γ N nL kc ks I P pc' lv' st) : fV p l e R s m args below meth c Q A Γ N nL kc ks I P pc lv (.ref x :: st) := by
  subst hpc
  exact fun H locs ls hP hS hl => lv_astore G.1 G.2.1 hdg hl hn hl9 (fun ls' hl' => k H locs ls' hP hS hl')
theorem fV_fstore_n (G : fC p s m args meth c cc own Ts A Γ N nL ret) {j : Fin 4} {i : Nat} {x : UInt32} (hdg : decode cc pc = .ok (.fstore_n j, 1)) (hi : (j : Nat) = i) (hn : i < nL) (hl9 : (i, Value.float x) :: lv.filter (fun q => !(q.1 == i) && !(q.1 + 1 == i && q.2.category == 2)) = lv') (hpc : pc + 1 = pc') (k : fV p l e R s m args below meth c Q A Γ N nL kc ks I P pc' lv' st) : fV p l e R s m args below meth c Q A Γ N nL kc ks I P pc lv (.float x :: st) := by
  subst hpc
  exact fun H locs ls hP hS hl => lv_fstore_n G.1 G.2.1 hdg hi hl hn hl9 (fun ls' hl' => k H locs ls' hP hS hl')
theorem fV_fstore (G : fC p s m args meth c cc own Ts A Γ N nL ret) {i : Nat} {x : UInt32} (hdg : decode cc pc = .ok (.fstore i, 2)) (hn : i < nL) (hl9 : (i, Value.float x) :: lv.filter (fun q => !(q.1 == i) && !(q.1 + 1 == i && q.2.category == 2)) = lv') (hpc : pc + 2 = pc') (k : fV p l e R s m args below meth c Q A Γ N nL kc ks I P pc' lv' st) : fV p l e R s m args below meth c Q A Γ N nL kc ks I P pc lv (.float x :: st) := by
  subst hpc
  exact fun H locs ls hP hS hl => lv_fstore G.1 G.2.1 hdg hl hn hl9 (fun ls' hl' => k H locs ls' hP hS hl')
theorem fV_lstore_n (G : fC p s m args meth c cc own Ts A Γ N nL ret) {j : Fin 4} {i : Nat} {x : Int64} (hdg : decode cc pc = .ok (.lstore_n j, 1)) (hi : (j : Nat) = i) (hn : i + 1 < nL) (hl9 : (i, Value.long x) :: lv.filter (fun q => !(q.1 == i) && (!(q.1 == i + 1) && !(q.1 + 1 == i && q.2.category == 2))) = lv') (hpc : pc + 1 = pc') (k : fV p l e R s m args below meth c Q A Γ N nL kc ks I P pc' lv' st) : fV p l e R s m args below meth c Q A Γ N nL kc ks I P pc lv (.long x :: st) := by
  subst hpc
  exact fun H locs ls hP hS hl => lv_lstore_n G.1 G.2.1 hdg hi hl hn hl9 (fun ls' hl' => k H locs ls' hP hS hl')
theorem fV_iinc (G : fC p s m args meth c cc own Ts A Γ N nL ret) (q : Nat) {i : Nat} {n a : Int} (hdg : decode cc pc = .ok (.iinc i n, 3)) (hq : lv[q]? = some (i, .int (i32 a))) (hn : i < nL) (hl9 : (i, Value.int (i32 (a + n))) :: lv.filter (fun q => !(q.1 == i) && !(q.1 + 1 == i && q.2.category == 2)) = lv') (hpc : pc + 3 = pc') (k : fV p l e R s m args below meth c Q A Γ N nL kc ks I P pc' lv' st) : fV p l e R s m args below meth c Q A Γ N nL kc ks I P pc lv st := by
  subst hpc
  exact fun H locs ls hP hS hl => lv_iinc G.1 G.2.1 hdg hl hq (i32_add a n) hn hl9 (fun ls' hl' => k H locs ls' hP hS hl')
theorem fV_iadd (G : fC p s m args meth c cc own Ts A Γ N nL ret) {a b : Int} (hdg : decode cc pc = .ok (.iadd, 1)) (hpc : pc + 1 = pc') (k : fV p l e R s m args below meth c Q A Γ N nL kc ks I P pc' lv (.int (i32 (a + b)) :: st)) : fV p l e R s m args below meth c Q A Γ N nL kc ks I P pc lv (.int (i32 b) :: .int (i32 a) :: st) := by
  subst hpc
  exact fun H locs ls hP hS hl => lv_iadd G.1 G.2.1 hdg (by rw [i32_add]; exact k H locs ls hP hS hl)
theorem fV_isub (G : fC p s m args meth c cc own Ts A Γ N nL ret) {a b : Int} (hdg : decode cc pc = .ok (.isub, 1)) (hpc : pc + 1 = pc') (k : fV p l e R s m args below meth c Q A Γ N nL kc ks I P pc' lv (.int (i32 (a - b)) :: st)) : fV p l e R s m args below meth c Q A Γ N nL kc ks I P pc lv (.int (i32 b) :: .int (i32 a) :: st) := by
  subst hpc
  exact fun H locs ls hP hS hl => lv_isub G.1 G.2.1 hdg (by rw [i32_sub]; exact k H locs ls hP hS hl)
theorem fV_imul (G : fC p s m args meth c cc own Ts A Γ N nL ret) {a b : Int} (hdg : decode cc pc = .ok (.imul, 1)) (hpc : pc + 1 = pc') (k : fV p l e R s m args below meth c Q A Γ N nL kc ks I P pc' lv (.int (i32 (a * b)) :: st)) : fV p l e R s m args below meth c Q A Γ N nL kc ks I P pc lv (.int (i32 b) :: .int (i32 a) :: st) := by
  subst hpc
  exact fun H locs ls hP hS hl => lv_imul G.1 G.2.1 hdg (by rw [i32_mul]; exact k H locs ls hP hS hl)
theorem fV_ineg (G : fC p s m args meth c cc own Ts A Γ N nL ret) {a : Int} (hdg : decode cc pc = .ok (.ineg, 1)) (hpc : pc + 1 = pc') (k : fV p l e R s m args below meth c Q A Γ N nL kc ks I P pc' lv (.int (i32 (-a)) :: st)) : fV p l e R s m args below meth c Q A Γ N nL kc ks I P pc lv (.int (i32 a) :: st) := by
  subst hpc
  exact fun H locs ls hP hS hl => lv_ineg G.1 G.2.1 hdg (by rw [i32_neg]; exact k H locs ls hP hS hl)
theorem i32_div2 {a b : Int} (ha : 0 ≤ a ∧ a ≤ 2147483647) (hb : 0 < b ∧ b ≤ 2147483647) : i32 a / i32 b = i32 (a / b) := by
  apply Int32.toInt_inj.mp
  have h0 : a / b ≤ a := Int.ediv_le_self _ ha.1
  have h1 : 0 ≤ a / b := Int.ediv_nonneg ha.1 (by omega)
  rw [Jvm.Kit.i32_div (by rw [i32_toInt (by omega), i32_toInt (by omega)]; omega), i32_toInt (by omega), i32_toInt (by omega), i32_toInt (by omega), Int.tdiv_eq_ediv_of_nonneg ha.1]
theorem fV_idiv (G : fC p s m args meth c cc own Ts A Γ N nL ret) {a b : Int} (hdg : decode cc pc = .ok (.idiv, 1)) (hpc : pc + 1 = pc') (ha : 0 ≤ a ∧ a ≤ 2147483647) (hb : 0 < b ∧ b ≤ 2147483647) (k : fV p l e R s m args below meth c Q A Γ N nL kc ks I P pc' lv (.int (i32 (a / b)) :: st)) : fV p l e R s m args below meth c Q A Γ N nL kc ks I P pc lv (.int (i32 b) :: .int (i32 a) :: st) := by
  subst hpc
  exact fun H locs ls hP hS hl => lv_idiv G.1 G.2.1 hdg (fun z => by have := (i32_eq (a := b) (b := 0) (by omega) (by omega)).mp z; omega) (by rw [i32_div2 ha hb]; exact k H locs ls hP hS hl)
theorem fV_irem (G : fC p s m args meth c cc own Ts A Γ N nL ret) {a b : Int} (hdg : decode cc pc = .ok (.irem, 1)) (hpc : pc + 1 = pc') (ha : 0 ≤ a ∧ a ≤ 2147483647) (hb : 0 < b ∧ b ≤ 2147483647) (k : fV p l e R s m args below meth c Q A Γ N nL kc ks I P pc' lv (.int (i32 (a % b)) :: st)) : fV p l e R s m args below meth c Q A Γ N nL kc ks I P pc lv (.int (i32 b) :: .int (i32 a) :: st) := by
  subst hpc
  have he : a - a / b * b = a % b := by rw [Int.emod_def, Int.mul_comm b]
  exact fun H locs ls hP hS hl => lv_irem G.1 G.2.1 hdg (fun z => by have := (i32_eq (a := b) (b := 0) (by omega) (by omega)).mp z; omega) (by rw [i32_div2 ha hb, i32_mul, i32_sub, he]; exact k H locs ls hP hS hl)
theorem fV_i2l (G : fC p s m args meth c cc own Ts A Γ N nL ret) {a : Int} (hdg : decode cc pc = .ok (.i2l, 1)) (hpc : pc + 1 = pc') (ha : -2147483648 ≤ a ∧ a ≤ 2147483647) (k : fV p l e R s m args below meth c Q A Γ N nL kc ks I P pc' lv (.long (i64 a) :: st)) : fV p l e R s m args below meth c Q A Γ N nL kc ks I P pc lv (.int (i32 a) :: st) := by
  subst hpc
  exact fun H locs ls hP hS hl => lv_i2l G.1 G.2.1 hdg (i32_l ha) (k H locs ls hP hS hl)
theorem fV_l2i (G : fC p s m args meth c cc own Ts A Γ N nL ret) {a : Int} (hdg : decode cc pc = .ok (.l2i, 1)) (hpc : pc + 1 = pc') (ha : -2147483648 ≤ a ∧ a ≤ 2147483647) (k : fV p l e R s m args below meth c Q A Γ N nL kc ks I P pc' lv (.int (i32 a) :: st)) : fV p l e R s m args below meth c Q A Γ N nL kc ks I P pc lv (.long (i64 a) :: st) := by
  subst hpc
  exact fun H locs ls hP hS hl => lv_l2i G.1 G.2.1 hdg (i64_i ha) (k H locs ls hP hS hl)
theorem fV_ladd (G : fC p s m args meth c cc own Ts A Γ N nL ret) {a b : Int} (hdg : decode cc pc = .ok (.ladd, 1)) (hpc : pc + 1 = pc') (k : fV p l e R s m args below meth c Q A Γ N nL kc ks I P pc' lv (.long (i64 (a + b)) :: st)) : fV p l e R s m args below meth c Q A Γ N nL kc ks I P pc lv (.long (i64 b) :: .long (i64 a) :: st) := by
  subst hpc
  exact fun H locs ls hP hS hl => lv_ladd G.1 G.2.1 hdg (by rw [i64_add]; exact k H locs ls hP hS hl)
theorem fV_lsub (G : fC p s m args meth c cc own Ts A Γ N nL ret) {a b : Int} (hdg : decode cc pc = .ok (.lsub, 1)) (hpc : pc + 1 = pc') (k : fV p l e R s m args below meth c Q A Γ N nL kc ks I P pc' lv (.long (i64 (a - b)) :: st)) : fV p l e R s m args below meth c Q A Γ N nL kc ks I P pc lv (.long (i64 b) :: .long (i64 a) :: st) := by
  subst hpc
  exact fun H locs ls hP hS hl => lv_lsub G.1 G.2.1 hdg (by rw [i64_sub]; exact k H locs ls hP hS hl)
theorem fV_lmul (G : fC p s m args meth c cc own Ts A Γ N nL ret) {a b : Int} (hdg : decode cc pc = .ok (.lmul, 1)) (hpc : pc + 1 = pc') (k : fV p l e R s m args below meth c Q A Γ N nL kc ks I P pc' lv (.long (i64 (a * b)) :: st)) : fV p l e R s m args below meth c Q A Γ N nL kc ks I P pc lv (.long (i64 b) :: .long (i64 a) :: st) := by
  subst hpc
  exact fun H locs ls hP hS hl => lv_lmul G.1 G.2.1 hdg (by rw [i64_mul]; exact k H locs ls hP hS hl)
/-- lcmp and the branch behind it are one: the compare's answer -/
def fcm (a b : Int) : Int := if b < a then 1 else if a = b then 0 else -1
theorem fcm_eq {a b : Int} (ha : -9223372036854775808 ≤ a ∧ a ≤ 9223372036854775807) (hb : -9223372036854775808 ≤ b ∧ b ≤ 9223372036854775807) : lg_cmp (i64 a) (i64 b) = i32 (fcm a b) := by
  unfold lg_cmp fcm
  have h1 := i64_lt hb ha
  have h2 := i64_eq ha hb
  by_cases h : b < a
  · rw [if_pos (h1.mpr h), if_pos h]
    rfl
  · rw [if_neg (fun z => h (h1.mp z)), if_neg h]
    by_cases h3 : a = b
    · rw [if_pos (h2.mpr h3), if_pos h3]
      rfl
    · rw [if_neg (fun z => h3 (h2.mp z)), if_neg h3]
      rfl
theorem fV_lcmp (G : fC p s m args meth c cc own Ts A Γ N nL ret) {a b : Int} (hdg : decode cc pc = .ok (.lcmp, 1)) (hpc : pc + 1 = pc') (ha : -9223372036854775808 ≤ a ∧ a ≤ 9223372036854775807) (hb : -9223372036854775808 ≤ b ∧ b ≤ 9223372036854775807) (k : fV p l e R s m args below meth c Q A Γ N nL kc ks I P pc' lv (.int (i32 (fcm a b)) :: st)) : fV p l e R s m args below meth c Q A Γ N nL kc ks I P pc lv (.long (i64 b) :: .long (i64 a) :: st) := by
  subst hpc
  exact fun H locs ls hP hS hl => W.lcmp G.1 G.2.1 hdg (by rw [fcm_eq ha hb]; exact k H locs ls hP hS hl)
theorem fV_dup (G : fC p s m args meth c cc own Ts A Γ N nL ret) {v : Value} (hdg : decode cc pc = .ok (.dup, 1)) (hv : v.category = 1) (hpc : pc + 1 = pc') (k : fV p l e R s m args below meth c Q A Γ N nL kc ks I P pc' lv (v :: v :: st)) : fV p l e R s m args below meth c Q A Γ N nL kc ks I P pc lv (v :: st) := by
  subst hpc
  exact fun H locs ls hP hS hl => lv_dup G.1 G.2.1 hdg hv (k H locs ls hP hS hl)
theorem fV_dup2 (G : fC p s m args meth c cc own Ts A Γ N nL ret) {v w : Value} (hdg : decode cc pc = .ok (.dup2, 1)) (hv : v.category = 1) (hw : w.category = 1) (hpc : pc + 1 = pc') (k : fV p l e R s m args below meth c Q A Γ N nL kc ks I P pc' lv (v :: w :: v :: w :: st)) : fV p l e R s m args below meth c Q A Γ N nL kc ks I P pc lv (v :: w :: st) := by
  subst hpc
  exact fun H locs ls hP hS hl => lv_dup2_11 G.1 G.2.1 hdg hv hw (k H locs ls hP hS hl)
theorem fV_pop (G : fC p s m args meth c cc own Ts A Γ N nL ret) {v : Value} (hdg : decode cc pc = .ok (.pop, 1)) (hv : v.category = 1) (hpc : pc + 1 = pc') (k : fV p l e R s m args below meth c Q A Γ N nL kc ks I P pc' lv st) : fV p l e R s m args below meth c Q A Γ N nL kc ks I P pc lv (v :: st) := by
  subst hpc
  exact fun H locs ls hP hS hl => lv_pop G.1 G.2.1 hdg hv (k H locs ls hP hS hl)
theorem fV_goto (G : fC p s m args meth c cc own Ts A Γ N nL ret) {off : Int} {tgt : Nat} (hdg : decode cc pc = .ok (.goto off, 3)) (ht : (pc : Int) + off = (tgt : Int)) (k : fV p l e R s m args below meth c Q A Γ N nL kc ks I P tgt lv st) : fV p l e R s m args below meth c Q A Γ N nL kc ks I P pc lv st :=
  fun H locs ls hP hS hl => lv_goto G.1 G.2.1 hdg ht (k H locs ls hP hS hl)
end FV
end
section
/-! BASE 3: branches, fields, arrays, calls, returns -/
section FV
variable {p : Program} {l : Launch} {e : Env} {R : Room} {s : State} {m : MethodId} {args : Array Value} {below : List Frame} {meth : Method} {c : Code} {Q : State → Prop} {A : Nat → Prop} {Γ : fG} {N nL kc ks : Nat} {I : fM} {P : fN} {pc pc' : Nat} {lv lv' : List (Nat × Value)} {st rest : List Value} {cc : ByteArray} {own : String} {Ts : List Cond} {ret : Option FieldType}

theorem fV_icmp_eq (G : fC p s m args meth c cc own Ts A Γ N nL ret) {a b : Int} {off : Int} {tgt : Nat} (hdg : decode cc pc = .ok (.if_icmp .eq off, 3)) (ht : (pc : Int) + off = (tgt : Int)) (hpc : pc + 3 = pc') (ha : -2147483648 ≤ a ∧ a ≤ 2147483647) (hb : -2147483648 ≤ b ∧ b ≤ 2147483647) (kt : a = b → fV p l e R s m args below meth c Q A Γ N nL kc ks I P tgt lv st) (kf : ¬ (a = b) → fV p l e R s m args below meth c Q A Γ N nL kc ks I P pc' lv st) : fV p l e R s m args below meth c Q A Γ N nL kc ks I P pc lv (.int (i32 b) :: .int (i32 a) :: st) := by
  subst hpc
  have hiff := i32_eq ha hb
  exact fun H locs ls hP hS hl => lv_icmp_eq G.1 G.2.1 hdg ht (fun z => kt (by first | exact hiff.mp z | (apply hiff.mp; simpa using z) | (simp only [ne_eq] at z; exact hiff.mp z)) H locs ls hP hS hl) (fun z => kf (by first | exact fun q => z (hiff.mpr q) | (intro q; apply z; simpa using hiff.mpr q)) H locs ls hP hS hl)
theorem fV_if_eq (G : fC p s m args meth c cc own Ts A Γ N nL ret) {a : Int} {off : Int} {tgt : Nat} (hdg : decode cc pc = .ok (.ifCond .eq off, 3)) (ht : (pc : Int) + off = (tgt : Int)) (hpc : pc + 3 = pc') (ha : -2147483648 ≤ a ∧ a ≤ 2147483647) (kt : a = 0 → fV p l e R s m args below meth c Q A Γ N nL kc ks I P tgt lv st) (kf : ¬ (a = 0) → fV p l e R s m args below meth c Q A Γ N nL kc ks I P pc' lv st) : fV p l e R s m args below meth c Q A Γ N nL kc ks I P pc lv (.int (i32 a) :: st) := by
  subst hpc
  have hiff := i32_eq (b := 0) ha (by omega)
  exact fun H locs ls hP hS hl => lv_if_eq G.1 G.2.1 hdg ht (fun z => kt (by first | exact hiff.mp z | (apply hiff.mp; simpa using z) | (simp only [ne_eq] at z; exact hiff.mp z)) H locs ls hP hS hl) (fun z => kf (by first | exact fun q => z (hiff.mpr q) | (intro q; apply z; simpa using hiff.mpr q)) H locs ls hP hS hl)
theorem fV_icmp_ne (G : fC p s m args meth c cc own Ts A Γ N nL ret) {a b : Int} {off : Int} {tgt : Nat} (hdg : decode cc pc = .ok (.if_icmp .ne off, 3)) (ht : (pc : Int) + off = (tgt : Int)) (hpc : pc + 3 = pc') (ha : -2147483648 ≤ a ∧ a ≤ 2147483647) (hb : -2147483648 ≤ b ∧ b ≤ 2147483647) (kt : ¬ a = b → fV p l e R s m args below meth c Q A Γ N nL kc ks I P tgt lv st) (kf : a = b → fV p l e R s m args below meth c Q A Γ N nL kc ks I P pc' lv st) : fV p l e R s m args below meth c Q A Γ N nL kc ks I P pc lv (.int (i32 b) :: .int (i32 a) :: st) := by
  subst hpc
  have hiff := i32_eq ha hb
  exact fun H locs ls hP hS hl => lv_icmp_ne G.1 G.2.1 hdg ht (fun z => kt (fun q => z (hiff.mpr q)) H locs ls hP hS hl) (fun z => kf (hiff.mp z) H locs ls hP hS hl)
theorem fV_if_ne (G : fC p s m args meth c cc own Ts A Γ N nL ret) {a : Int} {off : Int} {tgt : Nat} (hdg : decode cc pc = .ok (.ifCond .ne off, 3)) (ht : (pc : Int) + off = (tgt : Int)) (hpc : pc + 3 = pc') (ha : -2147483648 ≤ a ∧ a ≤ 2147483647) (kt : ¬ a = 0 → fV p l e R s m args below meth c Q A Γ N nL kc ks I P tgt lv st) (kf : a = 0 → fV p l e R s m args below meth c Q A Γ N nL kc ks I P pc' lv st) : fV p l e R s m args below meth c Q A Γ N nL kc ks I P pc lv (.int (i32 a) :: st) := by
  subst hpc
  have hiff := i32_eq (b := 0) ha (by omega)
  exact fun H locs ls hP hS hl => lv_if_ne G.1 G.2.1 hdg ht (fun z => kt (fun q => z (hiff.mpr q)) H locs ls hP hS hl) (fun z => kf (hiff.mp z) H locs ls hP hS hl)
theorem fV_icmp_lt (G : fC p s m args meth c cc own Ts A Γ N nL ret) {a b : Int} {off : Int} {tgt : Nat} (hdg : decode cc pc = .ok (.if_icmp .lt off, 3)) (ht : (pc : Int) + off = (tgt : Int)) (hpc : pc + 3 = pc') (ha : -2147483648 ≤ a ∧ a ≤ 2147483647) (hb : -2147483648 ≤ b ∧ b ≤ 2147483647) (kt : a < b → fV p l e R s m args below meth c Q A Γ N nL kc ks I P tgt lv st) (kf : ¬ (a < b) → fV p l e R s m args below meth c Q A Γ N nL kc ks I P pc' lv st) : fV p l e R s m args below meth c Q A Γ N nL kc ks I P pc lv (.int (i32 b) :: .int (i32 a) :: st) := by
  subst hpc
  have hiff := i32_lt ha hb
  exact fun H locs ls hP hS hl => lv_icmp_lt G.1 G.2.1 hdg ht (fun z => kt (by first | exact hiff.mp z | (apply hiff.mp; simpa using z) | (simp only [ne_eq] at z; exact hiff.mp z)) H locs ls hP hS hl) (fun z => kf (by first | exact fun q => z (hiff.mpr q) | (intro q; apply z; simpa using hiff.mpr q)) H locs ls hP hS hl)
theorem fV_if_lt (G : fC p s m args meth c cc own Ts A Γ N nL ret) {a : Int} {off : Int} {tgt : Nat} (hdg : decode cc pc = .ok (.ifCond .lt off, 3)) (ht : (pc : Int) + off = (tgt : Int)) (hpc : pc + 3 = pc') (ha : -2147483648 ≤ a ∧ a ≤ 2147483647) (kt : a < 0 → fV p l e R s m args below meth c Q A Γ N nL kc ks I P tgt lv st) (kf : ¬ (a < 0) → fV p l e R s m args below meth c Q A Γ N nL kc ks I P pc' lv st) : fV p l e R s m args below meth c Q A Γ N nL kc ks I P pc lv (.int (i32 a) :: st) := by
  subst hpc
  have hiff := i32_lt (b := 0) ha (by omega)
  exact fun H locs ls hP hS hl => lv_if_lt G.1 G.2.1 hdg ht (fun z => kt (by first | exact hiff.mp z | (apply hiff.mp; simpa using z) | (simp only [ne_eq] at z; exact hiff.mp z)) H locs ls hP hS hl) (fun z => kf (by first | exact fun q => z (hiff.mpr q) | (intro q; apply z; simpa using hiff.mpr q)) H locs ls hP hS hl)
theorem fV_icmp_ge (G : fC p s m args meth c cc own Ts A Γ N nL ret) {a b : Int} {off : Int} {tgt : Nat} (hdg : decode cc pc = .ok (.if_icmp .ge off, 3)) (ht : (pc : Int) + off = (tgt : Int)) (hpc : pc + 3 = pc') (ha : -2147483648 ≤ a ∧ a ≤ 2147483647) (hb : -2147483648 ≤ b ∧ b ≤ 2147483647) (kt : b ≤ a → fV p l e R s m args below meth c Q A Γ N nL kc ks I P tgt lv st) (kf : ¬ (b ≤ a) → fV p l e R s m args below meth c Q A Γ N nL kc ks I P pc' lv st) : fV p l e R s m args below meth c Q A Γ N nL kc ks I P pc lv (.int (i32 b) :: .int (i32 a) :: st) := by
  subst hpc
  have hiff := i32_le hb ha
  exact fun H locs ls hP hS hl => lv_icmp_ge G.1 G.2.1 hdg ht (fun z => kt (by first | exact hiff.mp z | (apply hiff.mp; simpa using z) | (simp only [ne_eq] at z; exact hiff.mp z)) H locs ls hP hS hl) (fun z => kf (by first | exact fun q => z (hiff.mpr q) | (intro q; apply z; simpa using hiff.mpr q)) H locs ls hP hS hl)
theorem fV_if_ge (G : fC p s m args meth c cc own Ts A Γ N nL ret) {a : Int} {off : Int} {tgt : Nat} (hdg : decode cc pc = .ok (.ifCond .ge off, 3)) (ht : (pc : Int) + off = (tgt : Int)) (hpc : pc + 3 = pc') (ha : -2147483648 ≤ a ∧ a ≤ 2147483647) (kt : 0 ≤ a → fV p l e R s m args below meth c Q A Γ N nL kc ks I P tgt lv st) (kf : ¬ (0 ≤ a) → fV p l e R s m args below meth c Q A Γ N nL kc ks I P pc' lv st) : fV p l e R s m args below meth c Q A Γ N nL kc ks I P pc lv (.int (i32 a) :: st) := by
  subst hpc
  have hiff := i32_le (a := 0) (by omega) ha
  exact fun H locs ls hP hS hl => lv_if_ge G.1 G.2.1 hdg ht (fun z => kt (by first | exact hiff.mp z | (apply hiff.mp; simpa using z) | (simp only [ne_eq] at z; exact hiff.mp z)) H locs ls hP hS hl) (fun z => kf (by first | exact fun q => z (hiff.mpr q) | (intro q; apply z; simpa using hiff.mpr q)) H locs ls hP hS hl)
theorem fV_icmp_gt (G : fC p s m args meth c cc own Ts A Γ N nL ret) {a b : Int} {off : Int} {tgt : Nat} (hdg : decode cc pc = .ok (.if_icmp .gt off, 3)) (ht : (pc : Int) + off = (tgt : Int)) (hpc : pc + 3 = pc') (ha : -2147483648 ≤ a ∧ a ≤ 2147483647) (hb : -2147483648 ≤ b ∧ b ≤ 2147483647) (kt : b < a → fV p l e R s m args below meth c Q A Γ N nL kc ks I P tgt lv st) (kf : ¬ (b < a) → fV p l e R s m args below meth c Q A Γ N nL kc ks I P pc' lv st) : fV p l e R s m args below meth c Q A Γ N nL kc ks I P pc lv (.int (i32 b) :: .int (i32 a) :: st) := by
  subst hpc
  have hiff := i32_lt hb ha
  exact fun H locs ls hP hS hl => lv_icmp_gt G.1 G.2.1 hdg ht (fun z => kt (by first | exact hiff.mp z | (apply hiff.mp; simpa using z) | (simp only [ne_eq] at z; exact hiff.mp z)) H locs ls hP hS hl) (fun z => kf (by first | exact fun q => z (hiff.mpr q) | (intro q; apply z; simpa using hiff.mpr q)) H locs ls hP hS hl)
theorem fV_if_gt (G : fC p s m args meth c cc own Ts A Γ N nL ret) {a : Int} {off : Int} {tgt : Nat} (hdg : decode cc pc = .ok (.ifCond .gt off, 3)) (ht : (pc : Int) + off = (tgt : Int)) (hpc : pc + 3 = pc') (ha : -2147483648 ≤ a ∧ a ≤ 2147483647) (kt : 0 < a → fV p l e R s m args below meth c Q A Γ N nL kc ks I P tgt lv st) (kf : ¬ (0 < a) → fV p l e R s m args below meth c Q A Γ N nL kc ks I P pc' lv st) : fV p l e R s m args below meth c Q A Γ N nL kc ks I P pc lv (.int (i32 a) :: st) := by
  subst hpc
  have hiff := i32_lt (a := 0) (by omega) ha
  exact fun H locs ls hP hS hl => lv_if_gt G.1 G.2.1 hdg ht (fun z => kt (by first | exact hiff.mp z | (apply hiff.mp; simpa using z) | (simp only [ne_eq] at z; exact hiff.mp z)) H locs ls hP hS hl) (fun z => kf (by first | exact fun q => z (hiff.mpr q) | (intro q; apply z; simpa using hiff.mpr q)) H locs ls hP hS hl)
theorem fV_icmp_le (G : fC p s m args meth c cc own Ts A Γ N nL ret) {a b : Int} {off : Int} {tgt : Nat} (hdg : decode cc pc = .ok (.if_icmp .le off, 3)) (ht : (pc : Int) + off = (tgt : Int)) (hpc : pc + 3 = pc') (ha : -2147483648 ≤ a ∧ a ≤ 2147483647) (hb : -2147483648 ≤ b ∧ b ≤ 2147483647) (kt : a ≤ b → fV p l e R s m args below meth c Q A Γ N nL kc ks I P tgt lv st) (kf : ¬ (a ≤ b) → fV p l e R s m args below meth c Q A Γ N nL kc ks I P pc' lv st) : fV p l e R s m args below meth c Q A Γ N nL kc ks I P pc lv (.int (i32 b) :: .int (i32 a) :: st) := by
  subst hpc
  have hiff := i32_le ha hb
  exact fun H locs ls hP hS hl => lv_icmp_le G.1 G.2.1 hdg ht (fun z => kt (by first | exact hiff.mp z | (apply hiff.mp; simpa using z) | (simp only [ne_eq] at z; exact hiff.mp z)) H locs ls hP hS hl) (fun z => kf (by first | exact fun q => z (hiff.mpr q) | (intro q; apply z; simpa using hiff.mpr q)) H locs ls hP hS hl)
theorem fV_if_le (G : fC p s m args meth c cc own Ts A Γ N nL ret) {a : Int} {off : Int} {tgt : Nat} (hdg : decode cc pc = .ok (.ifCond .le off, 3)) (ht : (pc : Int) + off = (tgt : Int)) (hpc : pc + 3 = pc') (ha : -2147483648 ≤ a ∧ a ≤ 2147483647) (kt : a ≤ 0 → fV p l e R s m args below meth c Q A Γ N nL kc ks I P tgt lv st) (kf : ¬ (a ≤ 0) → fV p l e R s m args below meth c Q A Γ N nL kc ks I P pc' lv st) : fV p l e R s m args below meth c Q A Γ N nL kc ks I P pc lv (.int (i32 a) :: st) := by
  subst hpc
  have hiff := i32_le (b := 0) ha (by omega)
  exact fun H locs ls hP hS hl => lv_if_le G.1 G.2.1 hdg ht (fun z => kt (by first | exact hiff.mp z | (apply hiff.mp; simpa using z) | (simp only [ne_eq] at z; exact hiff.mp z)) H locs ls hP hS hl) (fun z => kf (by first | exact fun q => z (hiff.mpr q) | (intro q; apply z; simpa using hiff.mpr q)) H locs ls hP hS hl)
theorem fB_0 {b : Bool} : fB b = 0 ↔ b = false := by cases b <;> simp [fB]
theorem fV_ifeq_b (G : fC p s m args meth c cc own Ts A Γ N nL ret) {b : Bool} {off : Int} {tgt : Nat} (hdg : decode cc pc = .ok (.ifCond .eq off, 3)) (ht : (pc : Int) + off = (tgt : Int)) (hpc : pc + 3 = pc') (kt : b = false → fV p l e R s m args below meth c Q A Γ N nL kc ks I P tgt lv st) (kf : b = true → fV p l e R s m args below meth c Q A Γ N nL kc ks I P pc' lv st) : fV p l e R s m args below meth c Q A Γ N nL kc ks I P pc lv (.int (i32 (fB b)) :: st) :=
  fV_if_eq G hdg ht hpc (fB_r b) (fun z => kt (fB_0.mp z)) (fun z => kf (by cases b with | false => exact absurd rfl z | true => rfl))
theorem fV_ifne_b (G : fC p s m args meth c cc own Ts A Γ N nL ret) {b : Bool} {off : Int} {tgt : Nat} (hdg : decode cc pc = .ok (.ifCond .ne off, 3)) (ht : (pc : Int) + off = (tgt : Int)) (hpc : pc + 3 = pc') (kt : b = true → fV p l e R s m args below meth c Q A Γ N nL kc ks I P tgt lv st) (kf : b = false → fV p l e R s m args below meth c Q A Γ N nL kc ks I P pc' lv st) : fV p l e R s m args below meth c Q A Γ N nL kc ks I P pc lv (.int (i32 (fB b)) :: st) :=
  fV_if_ne G hdg ht hpc (fB_r b) (fun z => kt (by cases b with | false => exact absurd rfl z | true => rfl)) (fun z => kf (fB_0.mp z))
theorem fV_top {a b : Int} (h : a = b) (k : fV p l e R s m args below meth c Q A Γ N nL kc ks I P pc lv (.int (i32 b) :: st)) : fV p l e R s m args below meth c Q A Γ N nL kc ks I P pc lv (.int (i32 a) :: st) := by subst h; exact k
theorem fV_st {st' : List Value} (h : st = st') (k : fV p l e R s m args below meth c Q A Γ N nL kc ks I P pc lv st') : fV p l e R s m args below meth c Q A Γ N nL kc ks I P pc lv st := by subst h; exact k
theorem fV_lv (ks9 : List Nat) (h : lv_pick lv ks9 = lv') (k : fV p l e R s m args below meth c Q A Γ N nL kc ks I P pc lv' st) : fV p l e R s m args below meth c Q A Γ N nL kc ks I P pc lv st := fun H locs ls hP hS hl => k H locs ls hP hS (lv_sub hl ks9 h)
theorem fV_mem {I' : fM} {P' : fN} (h : I = I') (h2 : P = P') (k : fV p l e R s m args below meth c Q A Γ N nL kc ks I' P' pc lv st) : fV p l e R s m args below meth c Q A Γ N nL kc ks I P pc lv st := by subst h; subst h2; exact k
theorem fV_lookup (G : fC p s m args meth c cc own Ts A Γ N nL ret) {dflt : Int} {ps : Array (Int × Int)} {len : Nat} {a off : Int} {tgt : Nat} (hdg : decode cc pc = .ok (.lookupswitch dflt ps, len)) (ha : -2147483648 ≤ a ∧ a ≤ 2147483647) (hp : (ps.toList.zip (ps.toList.drop 1)).all (fun (a, next) => a.1 < next.1) = true) (ho : Op.lookupswitch.offset ps.toList dflt a = off) (ht : (pc : Int) + off = (tgt : Int)) (k : fV p l e R s m args below meth c Q A Γ N nL kc ks I P tgt lv st) : fV p l e R s m args below meth c Q A Γ N nL kc ks I P pc lv (.int (i32 a) :: st) :=
  fun H locs ls hP hS hl => lv_lookup G.1 G.2.1 hdg hp (by rw [i32_toInt ha]; exact ho) ht (k H locs ls hP hS hl)
theorem fV_tableIn (G : fC p s m args meth c cc own Ts A Γ N nL ret) {dflt lo hi : Int} {offs : Array Int} {len : Nat} {a off : Int} {tgt : Nat} (hdg : decode cc pc = .ok (.tableswitch dflt lo hi offs, len)) (ha : -2147483648 ≤ a ∧ a ≤ 2147483647) (h1 : ¬ a < lo) (h2 : ¬ hi < a) (ho : offs[(a - lo).toNat]? = some off) (ht : (pc : Int) + off = (tgt : Int)) (k : fV p l e R s m args below meth c Q A Γ N nL kc ks I P tgt lv st) : fV p l e R s m args below meth c Q A Γ N nL kc ks I P pc lv (.int (i32 a) :: st) :=
  fun H locs ls hP hS hl => lv_tableIn G.1 G.2.1 hdg (by rw [i32_toInt ha]; exact h1) (by rw [i32_toInt ha]; exact h2) (by rw [i32_toInt ha]; exact ho) ht (k H locs ls hP hS hl)
theorem fV_tableOut (G : fC p s m args meth c cc own Ts A Γ N nL ret) {dflt lo hi : Int} {offs : Array Int} {len : Nat} {a : Int} {tgt : Nat} (hdg : decode cc pc = .ok (.tableswitch dflt lo hi offs, len)) (ha : -2147483648 ≤ a ∧ a ≤ 2147483647) (h : a < lo ∨ hi < a) (ht : (pc : Int) + dflt = (tgt : Int)) (k : fV p l e R s m args below meth c Q A Γ N nL kc ks I P tgt lv st) : fV p l e R s m args below meth c Q A Γ N nL kc ks I P pc lv (.int (i32 a) :: st) :=
  fun H locs ls hP hS hl => lv_tableOut G.1 G.2.1 hdg (by rw [i32_toInt ha]; exact h) ht (k H locs ls hP hS hl)
theorem fV_get (G : fC p s m args meth c cc own Ts A Γ N nL ret) {index ci j k K : Nat} {fs : List Value} {v : Value} (hf : fFl Ts own index ci j) (hkN : k < N) (hk : fkd k = K) (he : fen Γ K k (I k) (P k) = .inr (ci, fs)) (hv : fs[j]? = some v) (hdg : decode cc pc = .ok (.getfield index, 3)) (hpc : pc + 3 = pc') (kk : fV p l e R s m args below meth c Q A Γ N nL kc ks I P pc' lv (v :: st)) : fV p l e R s m args below meth c Q A Γ N nL kc ks I P pc lv (.ref (Γ.1 k) :: st) := by
  subst hpc
  obtain ⟨⟨C, T, NN⟩, hc, hj, hin, hlk, hcl, -⟩ := hf
  obtain ⟨hx, hb, -, hown, hts, hK, -⟩ := G
  intro H locs ls hP hS hl
  exact va_get (ref := C) hx hb hts hin hown hK hP k (fws_at hkN hk he) hc j hj (hts _ hlk) (fun x h => by dsimp only at hcl; rw [hcl] at h; exact h) hv hdg (kk H locs ls hP hS hl)
/-- a row of the memory with one place changed -/
def rup (r : Int → Int) (j x : Int) : Int → Int := fun b => if b = j then x else r b
theorem fup_row (I : fM) (k : Nat) (j x : Int) : fup I k j x k = rup (I k) j x := by funext b; simp [fup, rup]
theorem fup_ne {I : fM} {k a : Nat} {j x : Int} (h : a ≠ k) : fup I k j x a = I a := by funext b; simp [fup, h]
theorem fuq_ne {P : fN} {k a : Nat} {j : Int} {x : Nat} (h : a ≠ k) : fuq P k j x a = P a := by funext b; simp [fuq, h]
theorem fV_put (G : fC p s m args meth c cc own Ts A Γ N nL ret) {index ci j k K : Nat} {fs : List Value} {v : Value} {jj x : Int} {ty : FieldType} (hf : fFl Ts own index ci j) (hkN : k < N) (hk : fkd k = K) (he : fen Γ K k (I k) (P k) = .inr (ci, fs)) (he2 : fen Γ K k (rup (I k) jj x) (P k) = .inr (ci, fs.set j v)) (hfin : ∀ q : vw_C, vwCl[ci]? = some q → (q.2.1 j).2.2.2 = false ∧ parseFieldDescriptor (q.2.1 j).2.2.1 = some ty) (hn : narrow ty v = v) (hfit : fits ty v = true) (hl9 : j < fs.length) (hdg : decode cc pc = .ok (.putfield index, 3)) (hpc : pc + 3 = pc') (kk : ∀ I' : fM, I' = fup I k jj x → fV p l e R s m args below meth c Q A Γ N nL kc ks I' P pc' lv st) : fV p l e R s m args below meth c Q A Γ N nL kc ks I P pc lv (v :: .ref (Γ.1 k) :: st) := by
  subst hpc
  obtain ⟨⟨C, T, NN⟩, hc, hj, hin, hlk, hcl, hty⟩ := hf
  obtain ⟨hx, hb, -, hown, hts, hK, hinj, hA, -⟩ := G
  obtain ⟨hfi, hde⟩ := hfin _ hc
  obtain ⟨ty0, hty0, hnm⟩ := hty hfi
  intro H locs ls hP hS hl
  refine va_put (ref := C) hx hb hts hin ty0 hty0 hnm hown hK hP (fD_of hinj hA) hS k (fws_at hkN hk he) hc j hj (hts _ hlk) (fun x h => by dsimp only at hcl; rw [hcl] at h; exact h) hfi hde hn hfit hl9 hdg (fun H1 locs1 hP1 _ hS1 => ?_)
  rw [fws_set (I' := fup I k jj x) (P' := P) hk (fun a h => fup_ne h) (fun _ _ => rfl) (by rw [fup_row]; exact he2)] at hP1
  exact kk _ rfl H1 locs1 ls hP1 hS1 hl
theorem fV_iald (G : fC p s m args meth c cc own Ts A Γ N nL ret) {k K n : Nat} {i : Int} (hkN : k < N) (hk : fkd k = K) (he : ∀ r q, fen Γ K k r q = .inl (Γ.2.1 0, n, .inl (fun j => i32 (r (j : Int))))) (hn : (n : Int) ≤ 2147483647) (hi : 0 ≤ i ∧ i < (n : Int)) (hdg : decode cc pc = .ok (.iaload, 1)) (hpc : pc + 1 = pc') (kk : fV p l e R s m args below meth c Q A Γ N nL kc ks I P pc' lv (.int (i32 (I k i)) :: st)) : fV p l e R s m args below meth c Q A Γ N nL kc ks I P pc lv (.int (i32 i) :: .ref (Γ.1 k) :: st) := by
  subst hpc
  obtain ⟨hx, hb, -, hown, hts, hK, -⟩ := G
  intro H locs ls hP hS hl
  refine va_iald hx hb hK hP k 0 (fws_at hkN hk (he _ _)) rfl (i32_in hi hn) hdg ?_
  rw [i32_clamp (by omega)]
  exact kk H locs ls hP hS hl
theorem fV_zald (G : fC p s m args meth c cc own Ts A Γ N nL ret) {k K n : Nat} {i : Int} (hkN : k < N) (hk : fkd k = K) (he : ∀ r q, fen Γ K k r q = .inl (Γ.2.1 3, n, .inl (fun j => i32 (r (j : Int))))) (hn : (n : Int) ≤ 2147483647) (hi : 0 ≤ i ∧ i < (n : Int)) (hdg : decode cc pc = .ok (.baload, 1)) (hpc : pc + 1 = pc') (kk : fV p l e R s m args below meth c Q A Γ N nL kc ks I P pc' lv (.int (i32 (I k i)) :: st)) : fV p l e R s m args below meth c Q A Γ N nL kc ks I P pc lv (.int (i32 i) :: .ref (Γ.1 k) :: st) := by
  subst hpc
  obtain ⟨hx, hb, -, hown, hts, hK, -⟩ := G
  intro H locs ls hP hS hl
  refine va_zald hx hb hK hP k 3 (fws_at hkN hk (he _ _)) rfl (i32_in hi hn) hdg ?_
  rw [i32_clamp (by omega)]
  exact kk H locs ls hP hS hl
theorem fupd_row (r : Int → Int) {i x : Int} (hi : 0 ≤ i ∧ i ≤ 2147483647) : upd (fun j => i32 (r (j : Int))) (i32 i).toNatClampNeg (i32 x) = fun j : Nat => i32 (rup r i x (j : Int)) := by
  funext j
  have e := i32_clamp hi
  unfold upd rup
  by_cases h : j = (i32 i).toNatClampNeg
  · have h2 : (j : Int) = i := by rw [h]; exact e
    rw [if_pos h, if_pos h2]
  · have h2 : ¬ (j : Int) = i := fun z => h (by omega)
    rw [if_neg h, if_neg h2]
theorem fV_iast (G : fC p s m args meth c cc own Ts A Γ N nL ret) {k K n : Nat} {i x : Int} (hkN : k < N) (hk : fkd k = K) (he : ∀ r q, fen Γ K k r q = .inl (Γ.2.1 0, n, .inl (fun j => i32 (r (j : Int))))) (hn : (n : Int) ≤ 2147483647) (hi : 0 ≤ i ∧ i < (n : Int)) (hdg : decode cc pc = .ok (.iastore, 1)) (hpc : pc + 1 = pc') (kk : ∀ I' : fM, I' = fup I k i x → fV p l e R s m args below meth c Q A Γ N nL kc ks I' P pc' lv st) : fV p l e R s m args below meth c Q A Γ N nL kc ks I P pc lv (.int (i32 x) :: .int (i32 i) :: .ref (Γ.1 k) :: st) := by
  subst hpc
  obtain ⟨hx, hb, -, hown, hts, hK, hinj, hA, -⟩ := G
  intro H locs ls hP hS hl
  refine va_iast hx hb hK hP (fD_of hinj hA) hS k 0 (fws_at hkN hk (he _ _)) rfl (i32_in hi hn) hdg (fun H1 locs1 hP1 _ hS1 => ?_)
  rw [fws_set (I' := fup I k i x) (P' := P) hk (fun a h => fup_ne h) (fun _ _ => rfl) (by rw [he, fup_row, fupd_row _ (by omega)])] at hP1
  exact kk _ rfl H1 locs1 ls hP1 hS1 hl
theorem fV_zast (G : fC p s m args meth c cc own Ts A Γ N nL ret) {k K n : Nat} {i : Int} {b : Bool} (hkN : k < N) (hk : fkd k = K) (he : ∀ r q, fen Γ K k r q = .inl (Γ.2.1 3, n, .inl (fun j => i32 (r (j : Int))))) (hn : (n : Int) ≤ 2147483647) (hi : 0 ≤ i ∧ i < (n : Int)) (hdg : decode cc pc = .ok (.bastore, 1)) (hpc : pc + 1 = pc') (kk : ∀ I' : fM, I' = fup I k i (fB b) → fV p l e R s m args below meth c Q A Γ N nL kc ks I' P pc' lv st) : fV p l e R s m args below meth c Q A Γ N nL kc ks I P pc lv (.int (i32 (fB b)) :: .int (i32 i) :: .ref (Γ.1 k) :: st) := by
  subst hpc
  obtain ⟨hx, hb, -, hown, hts, hK, hinj, hA, -⟩ := G
  intro H locs ls hP hS hl
  refine va_zast hx hb hK hP (fD_of hinj hA) hS k 3 (fws_at hkN hk (he _ _)) rfl (i32_in hi hn) hdg (fun H1 locs1 hP1 _ hS1 => ?_)
  have hz : vp_nar .boolean (i32 (fB b)) = i32 (fB b) := by cases b <;> rfl
  rw [hz, fws_set (I' := fup I k i (fB b)) (P' := P) hk (fun a h => fup_ne h) (fun _ _ => rfl) (by rw [he, fup_row, fupd_row _ (by omega)])] at hP1
  exact kk _ rfl H1 locs1 ls hP1 hS1 hl
theorem fV_aald (G : fC p s m args meth c cc own Ts A Γ N nL ret) {k K t n : Nat} {C : String} {i : Int} (hkN : k < N) (hk : fkd k = K) (he : ∀ r q, fen Γ K k r q = .inl (Γ.2.1 t, n, .inr (.inr (.inr (.inr (fun j => some (Γ.1 (q (j : Int)))))))))  (ht : (fty Γ)[t]? = some (Γ.2.1 t, .object C)) (hn : (n : Int) ≤ 2147483647) (hi : 0 ≤ i ∧ i < (n : Int)) (hdg : decode cc pc = .ok (.aaload, 1)) (hpc : pc + 1 = pc') (kk : fV p l e R s m args below meth c Q A Γ N nL kc ks I P pc' lv (.ref (Γ.1 (P k i)) :: st)) : fV p l e R s m args below meth c Q A Γ N nL kc ks I P pc lv (.int (i32 i) :: .ref (Γ.1 k) :: st) := by
  subst hpc
  obtain ⟨hx, hb, -, hown, hts, hK, -⟩ := G
  intro H locs ls hP hS hl
  refine va_aldq hx hb hK hP k t (fws_at hkN hk (he _ _)) ht (i32_in hi hn) hdg ?_
  rw [i32_clamp (by omega)]
  exact kk H locs ls hP hS hl
theorem fV_aast (G : fC p s m args meth c cc own Ts A Γ N nL ret) {k k2 K K2 t n ci : Nat} {r9 : vw_C} {vs : List Value} {i : Int} (hkN : k < N) (hk : fkd k = K) (he : ∀ r q, fen Γ K k r q = .inl (Γ.2.1 t, n, .inr (.inr (.inr (.inr (fun j => some (Γ.1 (q (j : Int)))))))))  (hk2N : k2 < N) (hk2 : fkd k2 = K2) (he2 : fen Γ K2 k2 (I k2) (P k2) = .inr (ci, vs)) (hc : vwCl[ci]? = some r9) (ht : (fty Γ)[t]? = some (Γ.2.1 t, .object r9.1)) (hn : (n : Int) ≤ 2147483647) (hi : 0 ≤ i ∧ i < (n : Int)) (hdg : decode cc pc = .ok (.aastore, 1)) (hpc : pc + 1 = pc') (kk : ∀ P' : fN, P' = fuq P k i k2 → fV p l e R s m args below meth c Q A Γ N nL kc ks I P' pc' lv st) : fV p l e R s m args below meth c Q A Γ N nL kc ks I P pc lv (.ref (Γ.1 k2) :: .int (i32 i) :: .ref (Γ.1 k) :: st) := by
  subst hpc
  obtain ⟨hx, hb, -, hown, hts, hK, hinj, hA, -⟩ := G
  intro H locs ls hP hS hl
  refine va_astq hx hb hK hP (fD_of hinj hA) hS k t k2 ci (fws_at hkN hk (he _ _)) ht (fws_at hk2N hk2 he2) hc (i32_in hi hn) hdg (fun H1 locs1 hP1 _ hS1 => ?_)
  rw [fws_set (I' := I) (P' := fuq P k i k2) hk (fun _ _ => rfl) (fun a h => fuq_ne h) (by
    rw [he]
    congr 7
    funext j
    have e := i32_clamp (a := i) (by omega)
    unfold va_up fuq
    by_cases h : j = (i32 i).toNatClampNeg
    · have h2 : (j : Int) = i := by rw [h]; exact e
      simp [h, h2, e]
    · have h2 : ¬ (j : Int) = i := fun z => h (by omega)
      simp [h, h2])] at hP1
  exact kk _ rfl H1 locs1 ls hP1 hS1 hl
theorem fV_of_run {post : Option Value → fM → fN → Prop} {a : Array Value} (hAA : ∀ k, k < N → A (Γ.1 k)) (hr : ∀ (H : Heap) (locs : List Loc) (ls : Array Slot), va_P Γ.2.2.1 vwCl (fws Γ N I P) H → va_S A s.heap H locs → lv_has ls nL lv → va_Run p l e R s m args below meth c H locs kc ks 0 0 (F0 m pc ls st) rest (fQ Γ N post a) (fA Γ N)) (kk : ∀ (v : Option Value) (I' : fM) (P' : fN), post v I' P' → fV p l e R s m args below meth c Q A Γ N nL kc ks I' P' (pc + 3) lv (v.toList ++ rest)) : fV p l e R s m args below meth c Q A Γ N nL kc ks I P pc lv st := by
  intro H locs ls hP hS hl T hT X
  obtain ⟨v, st₀, t, T', L, h0, X', hL, e1, e2, ⟨⟨v', I', P', hv, hp, hPt⟩, hz, hk⟩, st⟩ := hr H locs ls hP hS hl T hT X
  cases hv
  rw [h0] at hz hk
  have hAq : ∀ q, fA Γ N q → A q := fun q h => by obtain ⟨k, h1, h2⟩ := h; rw [h2]; exact hAA k h1
  obtain ⟨t2, a1, b1⟩ := kk v I' P' hp T'.heap (locs ++ L) ls (by rw [e1]; exact hPt)
    ⟨Nat.le_trans hS.1 (by rw [e1]; exact hz), fun q h1 h2 => by rw [e1, hk q (Nat.lt_of_lt_of_le h1 hS.1) (fun z => h2 (hAq q z))]; exact hS.2.1 q h1 h2, fun q hq => by
      rcases List.mem_append.mp hq with h | h
      · exact hS.2.2 q h
      · exact hAq _ (hL q h)⟩ hl T' rfl X'
  exact ⟨t2, st t2 a1, b1⟩
theorem fW_pre (G : fC p s m args meth c cc own Ts A Γ N nL ret) {H : Heap} {locs : List Loc} {av : List Value} (hP : va_P Γ.2.2.1 vwCl (fws Γ N I P) H) (hS : va_S A s.heap H locs) (U : State) (hU : U.heap = H) (hW : s.WarmedH U.vm) : va_Pc av (fW Γ N I P) av.toArray U := by
  obtain ⟨hx, hb, hml, hown, hts, hK, hinj, hA, hst, -⟩ := G
  refine ⟨rfl, by rw [hU]; exact hP, va_K.moved hW.alike hK, hinj, ?_⟩
  rw [hU]
  exact ((hst.kept hS.2.1).warm hW).narrow (fun q h => by obtain ⟨k, h1, h2⟩ := h; rw [h2]; exact hA k h1)
theorem fV_callV (G : fC p s m args meth c cc own Ts A Γ N nL ret) {index ci n k K : Nat} {y : MethodName} {wsy : List Cond} {rmy : Room} {post : Option Value → fM → fN → Prop} {As : List Value} {fs : List Value} (hM : fMet l y wsy rmy Γ N (.ref (Γ.1 k) :: As) I P post) (hcv : fCv Ts own index ci y wsy R rmy n) (hkN : k < N) (hk : fkd k = K) (he : fen Γ K k (I k) (P k) = .inr (ci, fs)) (hn : As.length = n) (hst : st = As.reverse ++ .ref (Γ.1 k) :: rest) (hW : (rest.map fun v => v.category).sum ≤ 8) (hkc : kc ≤ R.cells) (hks : ks ≤ R.slots) (hdg : decode cc pc = .ok (.invokevirtual index, 3)) (hpc : pc + 3 = pc') (kk : ∀ (v : Option Value) (I' : fM) (P' : fN), post v I' P' → fV p l e R s m args below meth c Q A Γ N nL kc ks I' P' pc' lv (v.toList ++ rest)) : fV p l e R s m args below meth c Q A Γ N nL kc ks I P pc lv st := by
  subst hpc; subst hst
  obtain ⟨⟨C, T, NN⟩, bytes, maxL, ret', ws', hc, hg, hw, hrc, hrs, hd, hR⟩ := hcv
  have hx := G.1
  have hb := G.2.1
  have hml := G.2.2.1
  have hown := G.2.2.2.1
  have hts := G.2.2.2.2.1
  have hK := G.2.2.2.2.2.1
  refine fV_of_run (a := (Value.ref (Γ.1 k) :: As).toArray) G.2.2.2.2.2.2.2.1 (fun H locs ls hP hS hl => ?_) kk
  exact va_runV (As := As) (rest := rest) ⟨hx, hb, hml, hown, hts⟩ hM (cwV n hts hg hw hrc hrs hd hR) ⟨fW_blind, va_recv hK hP hc (fws_at hkN hk he), fun U hU hW => fW_pre G hP hS U hU hW⟩ rfl hn hl.1 rfl (lv_room hW) hdg ⟨by omega, by omega⟩
theorem fV_callS (G : fC p s m args meth c cc own Ts A Γ N nL ret) {index n : Nat} {y : MethodName} {wsy : List Cond} {rmy : Room} {post : Option Value → fM → fN → Prop} {As : List Value} (hM : fMet l y wsy rmy Γ N As I P post) (hcv : fCs Ts own index y wsy R rmy n) (hn : As.length = n) (hst : st = As.reverse ++ rest) (hW : (rest.map fun v => v.category).sum ≤ 8) (hkc : kc ≤ R.cells) (hks : ks ≤ R.slots) (hdg : decode cc pc = .ok (.invokestatic index, 3)) (hpc : pc + 3 = pc') (kk : ∀ (v : Option Value) (I' : fM) (P' : fN), post v I' P' → fV p l e R s m args below meth c Q A Γ N nL kc ks I' P' pc' lv (v.toList ++ rest)) : fV p l e R s m args below meth c Q A Γ N nL kc ks I P pc lv st := by
  subst hpc; subst hst
  obtain ⟨bytes, maxL, ret', ws', hg, hw, hrc, hrs, hd, hR⟩ := hcv
  have hx := G.1
  have hb := G.2.1
  have hml := G.2.2.1
  have hown := G.2.2.2.1
  have hts := G.2.2.2.2.1
  have hK := G.2.2.2.2.2.1
  refine fV_of_run (a := As.toArray) G.2.2.2.2.2.2.2.1 (fun H locs ls hP hS hl => ?_) kk
  exact va_runS (As := As) (rest := rest) ⟨hx, hb, hml, hown, hts⟩ hM (cwS n hts hg hw hrc hrs hd hR) ⟨fW_blind, fun U hU hW => fW_pre G hP hS U hU hW⟩ rfl hn hl.1 rfl (lv_room hW) hdg ⟨by omega, by omega⟩
theorem fV_callVf (G : fC p s m args meth c cc own Ts A Γ N nL ret) {index ci n k K : Nat} {y : MethodName} {wsy : List Cond} {rmy : Room} {v : Option Value} {I' : fM} {P' : fN} {st' As : List Value} {fs : List Value} (hM : fMet l y wsy rmy Γ N (.ref (Γ.1 k) :: As) I P (fE v I' P')) (hcv : fCv Ts own index ci y wsy R rmy n) (hkN : k < N) (hk : fkd k = K) (he : fen Γ K k (I k) (P k) = .inr (ci, fs)) (hn : As.length = n) (hst : st = As.reverse ++ .ref (Γ.1 k) :: rest) (hW : (rest.map fun v => v.category).sum ≤ 8) (hkc : kc ≤ R.cells) (hks : ks ≤ R.slots) (hdg : decode cc pc = .ok (.invokevirtual index, 3)) (hpc : pc + 3 = pc') (hst' : v.toList ++ rest = st') (kk : fV p l e R s m args below meth c Q A Γ N nL kc ks I' P' pc' lv st') : fV p l e R s m args below meth c Q A Γ N nL kc ks I P pc lv st :=
  fV_callV G hM hcv hkN hk he hn hst hW hkc hks hdg hpc (fun a b c h => by obtain ⟨h1, h2, h3⟩ := h; rw [h1, h2, h3, hst']; exact kk)
theorem fV_callSf (G : fC p s m args meth c cc own Ts A Γ N nL ret) {index n : Nat} {y : MethodName} {wsy : List Cond} {rmy : Room} {v : Option Value} {I' : fM} {P' : fN} {st' As : List Value} (hM : fMet l y wsy rmy Γ N As I P (fE v I' P')) (hcv : fCs Ts own index y wsy R rmy n) (hn : As.length = n) (hst : st = As.reverse ++ rest) (hW : (rest.map fun v => v.category).sum ≤ 8) (hkc : kc ≤ R.cells) (hks : ks ≤ R.slots) (hdg : decode cc pc = .ok (.invokestatic index, 3)) (hpc : pc + 3 = pc') (hst' : v.toList ++ rest = st') (kk : fV p l e R s m args below meth c Q A Γ N nL kc ks I' P' pc' lv st') : fV p l e R s m args below meth c Q A Γ N nL kc ks I P pc lv st :=
  fV_callS G hM hcv hn hst hW hkc hks hdg hpc (fun a b c h => by obtain ⟨h1, h2, h3⟩ := h; rw [h1, h2, h3, hst']; exact kk)
/-- a call's link (a private static method of a nest mate) -/
def fCn (Ts : List Cond) (own : String) (index : Nat) (y : MethodName) (wsy : List Cond) (R rm : Room) (n : Nat) : Prop :=
  ∃ (bytes : ByteArray) (maxL : Nat) (ret : Option FieldType) (ws' : List Cond), GoodIn Ts wsy ∧ wsy = Cond.code y bytes maxL ret :: ws' ∧ rm.cells = 0 ∧ rm.slots = 0 ∧
    (y.cls ≠ "java/lang/invoke/MethodHandle" ∧ y.cls ≠ "java/lang/invoke/VarHandle" ∧ (parseMethodDescriptor y.desc).map (fun d => d.parameters.length) = some n) ∧ (rm.frames + 1 ≤ R.frames ∧ 8 + (maxL + 11) + rm.locals ≤ R.locals) ∧ Cond.initialized y.cls ∈ Ts ∧ Cond.static y ∈ Ts
theorem fV_callN (G : fC p s m args meth c cc own Ts A Γ N nL ret) {index n : Nat} {y : MethodName} {wsy : List Cond} {rmy : Room} {post : Option Value → fM → fN → Prop} {As : List Value} (hnw : va_Nw (.methodLinkNest own index y "VoiceWords") s) (hM : fMet l y wsy rmy Γ N As I P post) (hcv : fCn Ts own index y wsy R rmy n) (hn : As.length = n) (hst : st = As.reverse ++ rest) (hW : (rest.map fun v => v.category).sum ≤ 8) (hkc : kc ≤ R.cells) (hks : ks ≤ R.slots) (hdg : decode cc pc = .ok (.invokestatic index, 3)) (hpc : pc + 3 = pc') (kk : ∀ (v : Option Value) (I' : fM) (P' : fN), post v I' P' → fV p l e R s m args below meth c Q A Γ N nL kc ks I' P' pc' lv (v.toList ++ rest)) : fV p l e R s m args below meth c Q A Γ N nL kc ks I P pc lv st := by
  subst hpc; subst hst
  obtain ⟨bytes, maxL, ret', ws', hg, hw, hrc, hrs, hd, hR, hini, hstt⟩ := hcv
  have hx := G.1
  have hb := G.2.1
  have hml := G.2.2.1
  have hown := G.2.2.2.1
  have hts := G.2.2.2.2.1
  refine fV_of_run (a := As.toArray) G.2.2.2.2.2.2.2.1 (fun H locs ls hP hS hl => ?_) kk
  exact va_runSN (As := As) (rest := rest) (host := "VoiceWords") ⟨hx, hb, hml, hown, hts⟩ hM ⟨va_cnB n hts hg hw hrc hrs hnw (hts _ hini) hd hR, hts _ hstt, trivial⟩ ⟨fW_blind, fun U hU hW => fW_pre G hP hS U hU hW⟩ rfl hn hl.1 rfl (lv_room hW) hdg ⟨by omega, by omega⟩
theorem fV_callNf (G : fC p s m args meth c cc own Ts A Γ N nL ret) {index n : Nat} {y : MethodName} {wsy : List Cond} {rmy : Room} {v : Option Value} {I' : fM} {P' : fN} {st' As : List Value} (hnw : va_Nw (.methodLinkNest own index y "VoiceWords") s) (hM : fMet l y wsy rmy Γ N As I P (fE v I' P')) (hcv : fCn Ts own index y wsy R rmy n) (hn : As.length = n) (hst : st = As.reverse ++ rest) (hW : (rest.map fun v => v.category).sum ≤ 8) (hkc : kc ≤ R.cells) (hks : ks ≤ R.slots) (hdg : decode cc pc = .ok (.invokestatic index, 3)) (hpc : pc + 3 = pc') (hst' : v.toList ++ rest = st') (kk : fV p l e R s m args below meth c Q A Γ N nL kc ks I' P' pc' lv st') : fV p l e R s m args below meth c Q A Γ N nL kc ks I P pc lv st :=
  fV_callN G hnw hM hcv hn hst hW hkc hks hdg hpc (fun a b c h => by obtain ⟨h1, h2, h3⟩ := h; rw [h1, h2, h3, hst']; exact kk)
theorem fV_mmax (G : fC p s m args meth c cc own Ts A Γ N nL ret) {index : Nat} {a b : Int} (hcm : Cond.methodLink own index Lib.Math.max.name ∈ Ts ∧ Cond.static Lib.Math.max.name ∈ Ts ∧ Cond.initialized "java/lang/Math" ∈ Ts ∧ Cond.code Lib.Math.max.name Lib.Math.max.code 2 (some .int) ∈ Ts) (hR : 1 ≤ R.frames ∧ (st.map fun v => v.category).sum + 13 ≤ R.locals) (hkc : kc ≤ R.cells) (hks : ks ≤ R.slots) (ha : -2147483648 ≤ a ∧ a ≤ 2147483647) (hb : -2147483648 ≤ b ∧ b ≤ 2147483647) (hdg : decode cc pc = .ok (.invokestatic index, 3)) (hpc : pc + 3 = pc') (kk : fV p l e R s m args below meth c Q A Γ N nL kc ks I P pc' lv (.int (i32 (max a b)) :: st)) : fV p l e R s m args below meth c Q A Γ N nL kc ks I P pc lv (.int (i32 b) :: .int (i32 a) :: st) := by
  subst hpc
  intro H locs ls hP hS hl
  refine va_mmax G.1 G.2.1 (by rw [G.2.2.1]; exact hl.1.symm) G.2.2.2.1 (G.2.2.2.2.1 _ hcm.1) (G.2.2.2.2.1 _ hcm.2.1) (G.2.2.2.2.1 _ hcm.2.2.1) (G.2.2.2.2.1 _ hcm.2.2.2) hR.1 hR.2 hkc hks hdg ?_
  have he : (if i32 a < i32 b then i32 b else i32 a) = i32 (max a b) := by
    by_cases h : a < b
    · rw [if_pos ((i32_lt (by assumption) (by assumption)).mpr h)]; congr 1; omega
    · rw [if_neg (fun z => h ((i32_lt (by assumption) (by assumption)).mp z))]; congr 1; omega
  rw [he]
  exact kk H locs ls hP hS hl
theorem fV_mmin (G : fC p s m args meth c cc own Ts A Γ N nL ret) {index : Nat} {a b : Int} (hcm : Cond.methodLink own index Lib.Math.min.name ∈ Ts ∧ Cond.static Lib.Math.min.name ∈ Ts ∧ Cond.initialized "java/lang/Math" ∈ Ts ∧ Cond.code Lib.Math.min.name Lib.Math.min.code 2 (some .int) ∈ Ts) (hR : 1 ≤ R.frames ∧ (st.map fun v => v.category).sum + 13 ≤ R.locals) (hkc : kc ≤ R.cells) (hks : ks ≤ R.slots) (ha : -2147483648 ≤ a ∧ a ≤ 2147483647) (hb : -2147483648 ≤ b ∧ b ≤ 2147483647) (hdg : decode cc pc = .ok (.invokestatic index, 3)) (hpc : pc + 3 = pc') (kk : fV p l e R s m args below meth c Q A Γ N nL kc ks I P pc' lv (.int (i32 (min a b)) :: st)) : fV p l e R s m args below meth c Q A Γ N nL kc ks I P pc lv (.int (i32 b) :: .int (i32 a) :: st) := by
  subst hpc
  intro H locs ls hP hS hl
  refine va_mmin G.1 G.2.1 (by rw [G.2.2.1]; exact hl.1.symm) G.2.2.2.1 (G.2.2.2.2.1 _ hcm.1) (G.2.2.2.2.1 _ hcm.2.1) (G.2.2.2.2.1 _ hcm.2.2.1) (G.2.2.2.2.1 _ hcm.2.2.2) hR.1 hR.2 hkc hks hdg ?_
  have he : (if i32 b < i32 a then i32 b else i32 a) = i32 (min a b) := by
    by_cases h : b < a
    · rw [if_pos ((i32_lt (by assumption) (by assumption)).mpr h)]; congr 1; omega
    · rw [if_neg (fun z => h ((i32_lt (by assumption) (by assumption)).mp z))]; congr 1; omega
  rw [he]
  exact kk H locs ls hP hS hl
theorem fB_nar (b : Bool) : narrow .boolean (.int (i32 (fB b))) = .int (i32 (fB b)) := by cases b <;> rfl
theorem fB_fit (b : Bool) : fits .boolean (.int (i32 (fB b))) = true := by cases b <;> rfl
theorem fZ_nar {x : Int} (h : x = 0 ∨ x = 1) : narrow .boolean (.int (i32 x)) = .int (i32 x) := by rcases h with rfl | rfl <;> rfl
theorem fZ_fit {x : Int} (h : x = 0 ∨ x = 1) : fits .boolean (.int (i32 x)) = true := by rcases h with rfl | rfl <;> rfl
theorem fE_i {I : fM} {P : fN} {a b : Int} (h : a = b) : fE (some (.int (i32 b))) I P (some (.int (i32 a))) I P := ⟨by rw [h], rfl, rfl⟩
theorem fE_b {I : fM} {P : fN} {a b : Bool} (h : a = b) : fE (some (.int (i32 (fB b)))) I P (some (.int (i32 (fB a)))) I P := ⟨by rw [h], rfl, rfl⟩
theorem fE_im {I I' : fM} {P P' : fN} {a b : Int} (h : a = b) (hI : I = I') (hP : P = P') : fE (some (.int (i32 b))) I' P' (some (.int (i32 a))) I P := ⟨by rw [h], hI, hP⟩
theorem fE_bm {I I' : fM} {P P' : fN} {a b : Bool} (h : a = b) (hI : I = I') (hP : P = P') : fE (some (.int (i32 (fB b)))) I' P' (some (.int (i32 (fB a)))) I P := ⟨by rw [h], hI, hP⟩
theorem fE_vm {I I' : fM} {P P' : fN} (hI : I = I') (hP : P = P') : fE none I' P' none I P := ⟨rfl, hI, hP⟩
/-- what System.arraycopy leaves -/
def fcpy (I : fM) (k1 : Nat) (sp : Int) (k2 : Nat) (dp n : Int) : fM := fun a b => if a = k2 ∧ dp ≤ b ∧ b < dp + n then I k1 (sp + (b - dp)) else I a b
theorem fV_copy (G : fC p s m args meth c cc own Ts A Γ N nL ret) {index k1 k2 K1 K2 n1 n2 : Nat} {sp dp n : Int} (hcm : Cond.methodLink own index arraycopyName ∈ Ts ∧ Cond.native arraycopyName ∈ Ts ∧ Cond.static arraycopyName ∈ Ts ∧ Cond.initialized "java/lang/System" ∈ Ts) (hR : 1 ≤ R.frames ∧ (st.map fun v => v.category).sum + (nativeFrameWords "java/lang/System" "arraycopy" 5 + 11) ≤ R.locals) (h1N : k1 < N) (h1 : fkd k1 = K1) (he1 : ∀ r q, fen Γ K1 k1 r q = .inl (Γ.2.1 0, n1, .inl (fun j => i32 (r (j : Int))))) (h2N : k2 < N) (h2 : fkd k2 = K2) (he2 : ∀ r q, fen Γ K2 k2 r q = .inl (Γ.2.1 0, n2, .inl (fun j => i32 (r (j : Int))))) (hn1 : (n1 : Int) ≤ 2147483647) (hn2 : (n2 : Int) ≤ 2147483647) (hb : 0 ≤ sp ∧ 0 ≤ dp ∧ 0 ≤ n ∧ sp + n ≤ (n1 : Int) ∧ dp + n ≤ (n2 : Int)) (hdg : decode cc pc = .ok (.invokestatic index, 3)) (hpc : pc + 3 = pc') (kk : ∀ I' : fM, I' = fcpy I k1 sp k2 dp n → fV p l e R s m args below meth c Q A Γ N nL kc ks I' P pc' lv st) : fV p l e R s m args below meth c Q A Γ N nL kc ks I P pc lv (.int (i32 n) :: .int (i32 dp) :: .ref (Γ.1 k2) :: .int (i32 sp) :: .ref (Γ.1 k1) :: st) := by
  subst hpc
  obtain ⟨hx, hb9, hml, hown, hts, hK, hinj, hA, -⟩ := G
  have c1 := i32_clamp (a := sp) (by omega)
  have c2 := i32_clamp (a := dp) (by omega)
  have c3 := i32_clamp (a := n) (by omega)
  have neg : ∀ x : Int, 0 ≤ x → x ≤ 2147483647 → ¬ i32 x < 0 := fun x h0 h9 z => by
    have := (i32_lt (a := x) (b := 0) (by omega) (by omega)).mp z
    omega
  intro H locs ls hP hS hl
  refine va_copyi hx hb9 (by rw [hml]; exact hl.1.symm) hown (hts _ hcm.1) (hts _ hcm.2.1) (hts _ hcm.2.2.1) (hts _ hcm.2.2.2) hK hP (fD_of hinj hA) hS k1 k2 0 0 (fws_at h1N h1 (he1 _ _)) (fws_at h2N h2 (he2 _ _)) rfl rfl rfl (neg sp (by omega) (by omega)) (neg dp (by omega) (by omega)) (neg n (by omega) (by omega)) (by omega) (by omega) (fun _ _ => rfl) hR.1 hR.2 hdg (fun H1 locs1 hP1 _ hS1 => ?_)
  rw [fws_set (I' := fcpy I k1 sp k2 dp n) (P' := P) h2 (fun a h => by funext b; simp [fcpy, h]) (fun _ _ => rfl) (by
    rw [he2]
    congr 4
    funext j
    unfold va_cpy fcpy
    by_cases h : (i32 dp).toNatClampNeg ≤ j ∧ j < (i32 dp).toNatClampNeg + (i32 n).toNatClampNeg
    · rw [if_pos h, if_pos (by omega)]
      congr 2
      omega
    · rw [if_neg h, if_neg (by omega)])] at hP1
  exact kk _ rfl H1 locs1 ls hP1 hS1 hl
theorem fV_i2f (G : fC p s m args meth c cc own Ts A Γ N nL ret) {a : Int} (hdg : decode cc pc = .ok (.i2f, 1)) (hpc : pc + 1 = pc') (k : fV p l e R s m args below meth c Q A Γ N nL kc ks I P pc' lv (.float (FP.i2f (i32 a)) :: st)) : fV p l e R s m args below meth c Q A Γ N nL kc ks I P pc lv (.int (i32 a) :: st) := by
  subst hpc
  exact fun H locs ls hP hS hl => lv_i2f G.1 G.2.1 hdg (k H locs ls hP hS hl)
theorem fV_f2i (G : fC p s m args meth c cc own Ts A Γ N nL ret) {x : UInt32} {a : Int} (hdg : decode cc pc = .ok (.f2i, 1)) (ha : FP.f2i x = i32 a) (hpc : pc + 1 = pc') (k : fV p l e R s m args below meth c Q A Γ N nL kc ks I P pc' lv (.int (i32 a) :: st)) : fV p l e R s m args below meth c Q A Γ N nL kc ks I P pc lv (.float x :: st) := by
  subst hpc
  exact fun H locs ls hP hS hl => lv_f2i G.1 G.2.1 hdg (by rw [ha]; exact k H locs ls hP hS hl)
theorem fV_fadd (G : fC p s m args meth c cc own Ts A Γ N nL ret) {x y : UInt32} (hdg : decode cc pc = .ok (.fadd, 1)) (hne : vf_n32 (FP.fadd x y)) (hpc : pc + 1 = pc') (k : fV p l e R s m args below meth c Q A Γ N nL kc ks I P pc' lv (.float (FP.fadd x y) :: st)) : fV p l e R s m args below meth c Q A Γ N nL kc ks I P pc lv (.float y :: .float x :: st) := by
  subst hpc
  exact fun H locs ls hP hS hl => lv_fadd G.1 G.2.1 hdg hne (k H locs ls hP hS hl)
theorem fV_fmul (G : fC p s m args meth c cc own Ts A Γ N nL ret) {x y : UInt32} (hdg : decode cc pc = .ok (.fmul, 1)) (hne : vf_n32 (FP.fmul x y)) (hpc : pc + 1 = pc') (k : fV p l e R s m args below meth c Q A Γ N nL kc ks I P pc' lv (.float (FP.fmul x y) :: st)) : fV p l e R s m args below meth c Q A Γ N nL kc ks I P pc lv (.float y :: .float x :: st) := by
  subst hpc
  exact fun H locs ls hP hS hl => lv_fmul G.1 G.2.1 hdg hne (k H locs ls hP hS hl)
theorem fV_fdiv (G : fC p s m args meth c cc own Ts A Γ N nL ret) {x y : UInt32} (hdg : decode cc pc = .ok (.fdiv, 1)) (hne : vf_n32 (FP.fdiv x y)) (hpc : pc + 1 = pc') (k : fV p l e R s m args below meth c Q A Γ N nL kc ks I P pc' lv (.float (FP.fdiv x y) :: st)) : fV p l e R s m args below meth c Q A Γ N nL kc ks I P pc lv (.float y :: .float x :: st) := by
  subst hpc
  exact fun H locs ls hP hS hl => lv_fdiv G.1 G.2.1 hdg hne (k H locs ls hP hS hl)
theorem fV_fconst0 (G : fC p s m args meth c cc own Ts A Γ N nL ret) (hdg : decode cc pc = .ok (.fconst 0, 1)) (hpc : pc + 1 = pc') (k : fV p l e R s m args below meth c Q A Γ N nL kc ks I P pc' lv (.float FP.fconst0 :: st)) : fV p l e R s m args below meth c Q A Γ N nL kc ks I P pc lv st := by
  subst hpc
  exact fun H locs ls hP hS hl => lv_fconst0 G.1 G.2.1 hdg (k H locs ls hP hS hl)
theorem fV_ldcf (G : fC p s m args meth c cc own Ts A Γ N nL ret) {index : Nat} {v : UInt32} (hm : Cond.constantFloat own index v ∈ Ts) (hdg : decode cc pc = .ok (.ldc index, 2)) (hpc : pc + 2 = pc') (k : fV p l e R s m args below meth c Q A Γ N nL kc ks I P pc' lv (.float v :: st)) : fV p l e R s m args below meth c Q A Γ N nL kc ks I P pc lv st := by
  subst hpc
  exact fun H locs ls hP hS hl => lv_ldcf G.1 G.2.1 G.2.2.2.1 (G.2.2.2.2.1 _ hm) hdg (k H locs ls hP hS hl)
theorem fV_iret (G : fC p s m args meth c cc own Ts (fA Γ N) Γ N nL (some .int)) {v : Int32} {post : Option Value → fM → fN → Prop} (hdg : decode cc pc = .ok (.ireturn, 1)) (h : post (some (.int v)) I P) : fV p l e R s m args below meth c (MQ below (fQ Γ N post) args s 0 0 (fA Γ N)) (fA Γ N) Γ N nL 0 0 I P pc lv [.int v] := by
  intro H locs ls hP hS hl
  obtain ⟨hx, hb, -, -, -, -, -, -, -, hr, hlk⟩ := G
  exact W.iret hx hb hr (fun t ht hW => ⟨⟨_, I, P, rfl, h, by rw [ht]; exact hP⟩, hS.F ht⟩) hS.2.2 hdg hlk
theorem fV_zret (G : fC p s m args meth c cc own Ts (fA Γ N) Γ N nL (some .boolean)) {b : Bool} {post : Option Value → fM → fN → Prop} (hdg : decode cc pc = .ok (.ireturn, 1)) (h : post (some (.int (i32 (fB b)))) I P) : fV p l e R s m args below meth c (MQ below (fQ Γ N post) args s 0 0 (fA Γ N)) (fA Γ N) Γ N nL 0 0 I P pc lv [.int (i32 (fB b))] := by
  intro H locs ls hP hS hl
  obtain ⟨hx, hb, -, -, -, -, -, -, -, hr, hlk⟩ := G
  exact W.zret hx hb hr (by cases b <;> rfl) (fun t ht hW => ⟨⟨_, I, P, rfl, h, by rw [ht]; exact hP⟩, hS.F ht⟩) hS.2.2 hdg hlk
theorem fV_vret (G : fC p s m args meth c cc own Ts (fA Γ N) Γ N nL none) {post : Option Value → fM → fN → Prop} (hdg : decode cc pc = .ok (.return_, 1)) (h : post none I P) : fV p l e R s m args below meth c (MQ below (fQ Γ N post) args s 0 0 (fA Γ N)) (fA Γ N) Γ N nL 0 0 I P pc lv [] := by
  intro H locs ls hP hS hl
  obtain ⟨hx, hb, -, -, -, -, -, -, -, hr, hlk⟩ := G
  exact W.vret hx hb hr (fun t ht hW => ⟨⟨_, I, P, rfl, h, by rw [ht]; exact hP⟩, hS.F ht⟩) hS.2.2 hdg hlk
theorem fV_aret (G : fC p s m args meth c cc own Ts (fA Γ N) Γ N nL ret) {C : String} (hC : ret = some (.object C)) {a : Nat} {post : Option Value → fM → fN → Prop} (hdg : decode cc pc = .ok (.areturn, 1)) (h : post (some (.ref a)) I P) : fV p l e R s m args below meth c (MQ below (fQ Γ N post) args s 0 0 (fA Γ N)) (fA Γ N) Γ N nL 0 0 I P pc lv [.ref a] := by
  intro H locs ls hP hS hl
  obtain ⟨hx, hb, -, -, -, -, -, -, -, hr, hlk⟩ := G
  exact W.aret (v := .ref a) hx hb (by rw [hr]; exact hC) (Or.inl ⟨_, rfl⟩) (Or.inr ⟨_, rfl⟩) (fun t ht hW => ⟨⟨_, I, P, rfl, h, by rw [ht]; exact hP⟩, hS.F ht⟩) hS.2.2 hdg hlk
theorem fV_lret (G : fC p s m args meth c cc own Ts (fA Γ N) Γ N nL (some .long)) {v : Int64} {post : Option Value → fM → fN → Prop} (hdg : decode cc pc = .ok (.lreturn, 1)) (h : post (some (.long v)) I P) : fV p l e R s m args below meth c (MQ below (fQ Γ N post) args s 0 0 (fA Γ N)) (fA Γ N) Γ N nL 0 0 I P pc lv [.long v] := by
  intro H locs ls hP hS hl
  obtain ⟨hx, hb, -, -, -, -, -, -, -, hr, hlk⟩ := G
  exact W.lret hx hb hr (fun t ht hW => ⟨⟨_, I, P, rfl, h, by rw [ht]; exact hP⟩, hS.F ht⟩) hS.2.2 hdg hlk
end FV
end
section
set_option maxRecDepth 20000 in
theorem ggJ0_length_8abf5_J0_coder_7d493 : GoodIn wsJ0_length_8abf5 wsJ0_coder_7d493 := goodIn_r _ [6, 7, 8] (by decide +kernel) (by decide +kernel)
set_option maxRecDepth 20000 in
theorem gJ0_length_8abf5_J0_coder_7d493 : GoodIn wsJ0_length_8abf5 (wsV RJ0 335 RJ0 yJ0_coder_7d493 wsJ0_coder_7d493) := goodIn_app (goodIn_of _ (by decide +kernel)) ggJ0_length_8abf5_J0_coder_7d493
set_option maxRecDepth 20000 in
theorem ggJ0_charAt_5068e_J0_isLatin1_aae02 : GoodIn wsJ0_charAt_5068e wsJ0_isLatin1_aae02 := goodIn_r _ [6, 7, 8] (by decide +kernel) (by decide +kernel)
set_option maxRecDepth 20000 in
theorem gJ0_charAt_5068e_J0_isLatin1_aae02 : GoodIn wsJ0_charAt_5068e (wsV RJ0 492 RJ0 yJ0_isLatin1_aae02 wsJ0_isLatin1_aae02) := goodIn_app (goodIn_of _ (by decide +kernel)) ggJ0_charAt_5068e_J0_isLatin1_aae02
set_option maxRecDepth 20000 in
theorem ggJ0_charAt_5068e_J1_charAt_3b067 : GoodIn wsJ0_charAt_5068e wsJ1_charAt_3b067 := goodIn_r _ [12, 13, 14, 5, 15, 16, 17, 18, 19, 20] (by decide +kernel) (by decide +kernel)
set_option maxRecDepth 20000 in
theorem gJ0_charAt_5068e_J1_charAt_3b067 : GoodIn wsJ0_charAt_5068e (va_wsS RJ0 495 yJ1_charAt_3b067 wsJ1_charAt_3b067) := goodIn_app (goodIn_of _ (by decide +kernel)) ggJ0_charAt_5068e_J1_charAt_3b067
set_option maxRecDepth 20000 in
theorem ggJ0_charAt_5068e_J2_charAt_3b067 : GoodIn wsJ0_charAt_5068e wsJ2_charAt_3b067 := goodIn_r _ [24, 25, 26, 23, 27, 28, 29, 30, 31, 14, 5, 15, 16, 17, 18, 19, 20, 32, 33, 34, 35, 36, 37] (by decide +kernel) (by decide +kernel)
set_option maxRecDepth 20000 in
theorem gJ0_charAt_5068e_J2_charAt_3b067 : GoodIn wsJ0_charAt_5068e (va_wsS RJ0 498 yJ2_charAt_3b067 wsJ2_charAt_3b067) := goodIn_app (goodIn_of _ (by decide +kernel)) ggJ0_charAt_5068e_J2_charAt_3b067
set_option maxRecDepth 20000 in
theorem ggJ0_checkIndex_df160_J3_checkIndex_8e157 : GoodIn wsJ0_checkIndex_df160 wsJ3_checkIndex_8e157 := goodIn_r _ [5] (by decide +kernel) (by decide +kernel)
set_option maxRecDepth 20000 in
theorem gJ0_checkIndex_df160_J3_checkIndex_8e157 : GoodIn wsJ0_checkIndex_df160 (va_wsS RJ0 1059 yJ3_checkIndex_8e157 wsJ3_checkIndex_8e157) := goodIn_app (goodIn_of _ (by decide +kernel)) ggJ0_checkIndex_df160_J3_checkIndex_8e157
set_option maxRecDepth 20000 in
theorem ggJ1_charAt_3b067_J0_checkIndex_df160 : GoodIn wsJ1_charAt_3b067 wsJ0_checkIndex_df160 := goodIn_r _ [4, 5, 6, 7, 8, 9] (by decide +kernel) (by decide +kernel)
set_option maxRecDepth 20000 in
theorem gJ1_charAt_3b067_J0_checkIndex_df160 : GoodIn wsJ1_charAt_3b067 (va_wsS RJ1 9 yJ0_checkIndex_df160 wsJ0_checkIndex_df160) := goodIn_app (goodIn_of _ (by decide +kernel)) ggJ1_charAt_3b067_J0_checkIndex_df160
set_option maxRecDepth 20000 in
theorem ggJ2_getChar_3b067_J2_length_9d52b : GoodIn wsJ2_getChar_3b067 wsJ2_length_9d52b := goodIn_r _ [7] (by decide +kernel) (by decide +kernel)
set_option maxRecDepth 20000 in
theorem gJ2_getChar_3b067_J2_length_9d52b : GoodIn wsJ2_getChar_3b067 (va_wsS RJ2 48 yJ2_length_9d52b wsJ2_length_9d52b) := goodIn_app (goodIn_of _ (by decide +kernel)) ggJ2_getChar_3b067_J2_length_9d52b
set_option maxRecDepth 20000 in
theorem ggJ2_charAt_3b067_J2_checkIndex_2214a : GoodIn wsJ2_charAt_3b067 wsJ2_checkIndex_2214a := goodIn_r _ [4, 5, 6, 3, 7, 8, 9, 10, 11, 12, 13, 14, 15, 16] (by decide +kernel) (by decide +kernel)
set_option maxRecDepth 20000 in
theorem gJ2_charAt_3b067_J2_checkIndex_2214a : GoodIn wsJ2_charAt_3b067 (va_wsS RJ2 67 yJ2_checkIndex_2214a wsJ2_checkIndex_2214a) := goodIn_app (goodIn_of _ (by decide +kernel)) ggJ2_charAt_3b067_J2_checkIndex_2214a
set_option maxRecDepth 20000 in
theorem ggJ2_charAt_3b067_J2_getChar_3b067 : GoodIn wsJ2_charAt_3b067 wsJ2_getChar_3b067 := goodIn_r _ [19, 20, 21, 22, 5, 6, 3, 7] (by decide +kernel) (by decide +kernel)
set_option maxRecDepth 20000 in
theorem gJ2_charAt_3b067_J2_getChar_3b067 : GoodIn wsJ2_charAt_3b067 (va_wsS RJ2 71 yJ2_getChar_3b067 wsJ2_getChar_3b067) := goodIn_app (goodIn_of _ (by decide +kernel)) ggJ2_charAt_3b067_J2_getChar_3b067
set_option maxRecDepth 20000 in
theorem ggJ2_checkIndex_2214a_J2_length_9d52b : GoodIn wsJ2_checkIndex_2214a wsJ2_length_9d52b := goodIn_r _ [4] (by decide +kernel) (by decide +kernel)
set_option maxRecDepth 20000 in
theorem gJ2_checkIndex_2214a_J2_length_9d52b : GoodIn wsJ2_checkIndex_2214a (va_wsS RJ2 48 yJ2_length_9d52b wsJ2_length_9d52b) := goodIn_app (goodIn_of _ (by decide +kernel)) ggJ2_checkIndex_2214a_J2_length_9d52b
set_option maxRecDepth 20000 in
theorem ggJ2_checkIndex_2214a_J0_checkIndex_df160 : GoodIn wsJ2_checkIndex_2214a wsJ0_checkIndex_df160 := goodIn_r _ [8, 9, 10, 11, 12, 13] (by decide +kernel) (by decide +kernel)
set_option maxRecDepth 20000 in
theorem gJ2_checkIndex_2214a_J0_checkIndex_df160 : GoodIn wsJ2_checkIndex_2214a (va_wsS RJ2 414 yJ0_checkIndex_df160 wsJ0_checkIndex_df160) := goodIn_app (goodIn_of _ (by decide +kernel)) ggJ2_checkIndex_2214a_J0_checkIndex_df160
set_option maxRecDepth 20000 in
theorem ggX0_init_X2_init : GoodIn wsX0_init wsX2_init := goodIn_r _ [14, 15, 2, 3, 6, 16, 24, 25, 26, 27, 28, 29, 30, 31, 32] (by decide +kernel) (by decide +kernel)
set_option maxRecDepth 20000 in
theorem gX0_init_X2_init_n25 : GoodIn wsX0_init (wsX2_init) := ggX0_init_X2_init
set_option maxRecDepth 20000 in
theorem ggX0_copyFrom_X2_copyFrom : GoodIn wsX0_copyFrom wsX2_copyFrom := goodIn_r _ [14, 15, 16, 5, 6, 7, 17, 18, 19, 20, 21, 22, 23, 24, 32, 33, 34, 35, 36, 37, 38, 39, 40] (by decide +kernel) (by decide +kernel)
set_option maxRecDepth 20000 in
theorem gX0_copyFrom_X2_copyFrom : GoodIn wsX0_copyFrom (wsV RX0 36 RX2 yX2_copyFrom wsX2_copyFrom) := goodIn_app (goodIn_of _ (by decide +kernel)) ggX0_copyFrom_X2_copyFrom
set_option maxRecDepth 20000 in
theorem ggX0_countMeetingPairs_X0_firstMeeting : GoodIn wsX0_countMeetingPairs wsX0_firstMeeting := goodIn_r _ [7, 8, 9, 10, 11, 12, 13, 14, 15, 16, 17, 18, 19, 20, 21, 22, 23, 24, 25, 26, 6, 27, 28, 29, 30, 31, 32, 33, 34, 35, 36, 37, 38, 39, 40, 41, 42, 43, 44, 45, 46, 47, 48, 49, 50, 51, 52, 53, 54, 55, 56, 57, 58, 59, 60, 61, 62, 63, 64, 65, 66, 67, 68, 69, 70, 71, 72, 80, 81, 82, 83, 84, 85, 86, 87, 88, 73, 74, 75, 76, 77, 78, 79] (by decide +kernel) (by decide +kernel)
set_option maxRecDepth 20000 in
theorem gX0_countMeetingPairs_X0_firstMeeting : GoodIn wsX0_countMeetingPairs (wsV RX0 71 RX0 yX0_firstMeeting wsX0_firstMeeting) := goodIn_app (goodIn_of _ (by decide +kernel)) ggX0_countMeetingPairs_X0_firstMeeting
set_option maxRecDepth 20000 in
theorem ggX0_rowOf_X2_stepsIn : GoodIn wsX0_rowOf wsX2_stepsIn := goodIn_r _ [7, 8, 9, 10, 18, 19, 20, 21, 22, 23, 24, 25, 26] (by decide +kernel) (by decide +kernel)
set_option maxRecDepth 20000 in
theorem gX0_rowOf_X2_stepsIn : GoodIn wsX0_rowOf (wsV RX0 79 RX2 yX2_stepsIn wsX2_stepsIn) := goodIn_app (goodIn_of _ (by decide +kernel)) ggX0_rowOf_X2_stepsIn
set_option maxRecDepth 20000 in
theorem ggX0_rowOf_X0_cellsMoved : GoodIn wsX0_rowOf wsX0_cellsMoved := goodIn_r _ [15, 16, 17, 27, 28, 29, 30, 31, 32, 33] (by decide +kernel) (by decide +kernel)
set_option maxRecDepth 20000 in
theorem gX0_rowOf_X0_cellsMoved : GoodIn wsX0_rowOf (wsV RX0 83 RX0 yX0_cellsMoved wsX0_cellsMoved) := goodIn_app (goodIn_of _ (by decide +kernel)) ggX0_rowOf_X0_cellsMoved
set_option maxRecDepth 20000 in
theorem ggX0_columnOf_X2_stepsIn : GoodIn wsX0_columnOf wsX2_stepsIn := goodIn_r _ [7, 8, 9, 10, 18, 19, 20, 21, 22, 23, 24, 25, 26] (by decide +kernel) (by decide +kernel)
set_option maxRecDepth 20000 in
theorem gX0_columnOf_X2_stepsIn : GoodIn wsX0_columnOf (wsV RX0 79 RX2 yX2_stepsIn wsX2_stepsIn) := goodIn_app (goodIn_of _ (by decide +kernel)) ggX0_columnOf_X2_stepsIn
set_option maxRecDepth 20000 in
theorem ggX0_columnOf_X0_cellsMoved : GoodIn wsX0_columnOf wsX0_cellsMoved := goodIn_r _ [15, 16, 17, 27, 28, 29, 30, 31, 32, 33] (by decide +kernel) (by decide +kernel)
set_option maxRecDepth 20000 in
theorem gX0_columnOf_X0_cellsMoved : GoodIn wsX0_columnOf (wsV RX0 83 RX0 yX0_cellsMoved wsX0_cellsMoved) := goodIn_app (goodIn_of _ (by decide +kernel)) ggX0_columnOf_X0_cellsMoved
set_option maxRecDepth 20000 in
theorem ggX0_goneFrom_X2_leavesIn : GoodIn wsX0_goneFrom wsX2_leavesIn := goodIn_r _ [13, 14, 15, 16, 36, 37, 38, 39, 40, 41, 42, 43, 44] (by decide +kernel) (by decide +kernel)
set_option maxRecDepth 20000 in
theorem gX0_goneFrom_X2_leavesIn : GoodIn wsX0_goneFrom (wsV RX0 89 RX2 yX2_leavesIn wsX2_leavesIn) := goodIn_app (goodIn_of _ (by decide +kernel)) ggX0_goneFrom_X2_leavesIn
set_option maxRecDepth 20000 in
theorem ggX0_goneFrom_X0_stepsToLeave : GoodIn wsX0_goneFrom wsX0_stepsToLeave := goodIn_r _ [21, 22, 23, 24, 12, 25, 26, 27, 28, 29, 30, 31, 32, 20, 33, 34, 35, 36, 37, 38, 39, 40, 41, 42, 43, 44, 45, 46, 47, 48, 49, 50, 51] (by decide +kernel) (by decide +kernel)
set_option maxRecDepth 20000 in
theorem gX0_goneFrom_X0_stepsToLeave : GoodIn wsX0_goneFrom (wsV RX0 93 RX0 yX0_stepsToLeave wsX0_stepsToLeave) := goodIn_app (goodIn_of _ (by decide +kernel)) ggX0_goneFrom_X0_stepsToLeave
set_option maxRecDepth 20000 in
theorem ggX0_stepsToLeave_X2_cellsToLeave : GoodIn wsX0_stepsToLeave wsX2_cellsToLeave := goodIn_r _ [5, 6, 7, 8, 9, 17, 18, 19, 20, 21, 22, 23, 24, 25] (by decide +kernel) (by decide +kernel)
set_option maxRecDepth 20000 in
theorem gX0_stepsToLeave_X2_cellsToLeave : GoodIn wsX0_stepsToLeave (wsV RX0 103 RX2 yX2_cellsToLeave wsX2_cellsToLeave) := goodIn_app (goodIn_of _ (by decide +kernel)) ggX0_stepsToLeave_X2_cellsToLeave
set_option maxRecDepth 20000 in
theorem ggX0_stepsToLeave_X0_cellsMoved : GoodIn wsX0_stepsToLeave wsX0_cellsMoved := goodIn_r _ [14, 15, 16, 26, 27, 28, 29, 30, 31, 32] (by decide +kernel) (by decide +kernel)
set_option maxRecDepth 20000 in
theorem gX0_stepsToLeave_X0_cellsMoved : GoodIn wsX0_stepsToLeave (wsV RX0 83 RX0 yX0_cellsMoved wsX0_cellsMoved) := goodIn_app (goodIn_of _ (by decide +kernel)) ggX0_stepsToLeave_X0_cellsMoved
set_option maxRecDepth 20000 in
theorem ggX0_isVisible_X0_goneFrom : GoodIn wsX0_isVisible wsX0_goneFrom := goodIn_r _ [7, 8, 9, 10, 2, 11, 12, 13, 14, 15, 16, 17, 18, 19, 20, 21, 22, 23, 24, 25, 6, 26, 27, 28, 29, 30, 31, 32, 33, 34, 35, 36, 37, 38, 39, 40, 41, 42, 43, 44, 45, 46, 47, 48, 49, 50, 51, 52, 53, 54, 55, 56] (by decide +kernel) (by decide +kernel)
set_option maxRecDepth 20000 in
theorem gX0_isVisible_X0_goneFrom : GoodIn wsX0_isVisible (wsV RX0 106 RX0 yX0_goneFrom wsX0_goneFrom) := goodIn_app (goodIn_of _ (by decide +kernel)) ggX0_isVisible_X0_goneFrom
set_option maxRecDepth 20000 in
theorem ggX0_visibleSet_X0_isVisible : GoodIn wsX0_visibleSet wsX0_isVisible := goodIn_r _ [7, 8, 9, 10, 11, 12, 6, 13, 14, 15, 16, 17, 18, 19, 20, 21, 22, 23, 24, 25, 26, 27, 28, 29, 30, 31, 32, 33, 34, 35, 36, 37, 38, 39, 40, 41, 42, 43, 44, 45, 46, 54, 55, 56, 57, 58, 59, 60, 61, 62, 47, 48, 49, 50, 51, 52, 53] (by decide +kernel) (by decide +kernel)
set_option maxRecDepth 20000 in
theorem gX0_visibleSet_X0_isVisible : GoodIn wsX0_visibleSet (wsV RX0 109 RX0 yX0_isVisible wsX0_isVisible) := goodIn_app (goodIn_of _ (by decide +kernel)) ggX0_visibleSet_X0_isVisible
set_option maxRecDepth 20000 in
theorem ggX0_characterIn_X0_isVisible : GoodIn wsX0_characterIn wsX0_isVisible := goodIn_r _ [9, 10, 11, 12, 13, 14, 8, 15, 16, 17, 18, 19, 20, 21, 22, 23, 24, 25, 26, 27, 28, 29, 30, 31, 32, 33, 34, 35, 36, 37, 38, 39, 40, 41, 42, 43, 44, 45, 46, 47, 48, 70, 71, 72, 73, 74, 75, 76, 77, 78, 63, 64, 65, 66, 67, 68, 69] (by decide +kernel) (by decide +kernel)
set_option maxRecDepth 20000 in
theorem gX0_characterIn_X0_isVisible : GoodIn wsX0_characterIn (wsV RX0 109 RX0 yX0_isVisible wsX0_isVisible) := goodIn_app (goodIn_of _ (by decide +kernel)) ggX0_characterIn_X0_isVisible
set_option maxRecDepth 20000 in
theorem ggX0_characterIn_X0_rowOf : GoodIn wsX0_characterIn wsX0_rowOf := goodIn_r _ [52, 16, 53, 54, 55, 56, 26, 57, 28, 29, 30, 43, 44, 45, 8, 46, 47, 48, 70, 71, 72, 73, 74, 75, 76, 77, 78, 63, 64, 65, 66, 67, 68, 69] (by decide +kernel) (by decide +kernel)
set_option maxRecDepth 20000 in
theorem gX0_characterIn_X0_rowOf : GoodIn wsX0_characterIn (wsV RX0 113 RX0 yX0_rowOf wsX0_rowOf) := goodIn_app (goodIn_of _ (by decide +kernel)) ggX0_characterIn_X0_rowOf
set_option maxRecDepth 20000 in
theorem ggX0_characterIn_X0_columnOf : GoodIn wsX0_characterIn wsX0_columnOf := goodIn_r _ [61, 16, 62, 54, 55, 56, 26, 57, 28, 29, 30, 43, 44, 45, 8, 46, 47, 48, 70, 71, 72, 73, 74, 75, 76, 77, 78, 63, 64, 65, 66, 67, 68, 69] (by decide +kernel) (by decide +kernel)
set_option maxRecDepth 20000 in
theorem gX0_characterIn_X0_columnOf : GoodIn wsX0_characterIn (wsV RX0 117 RX0 yX0_columnOf wsX0_columnOf) := goodIn_app (goodIn_of _ (by decide +kernel)) ggX0_characterIn_X0_columnOf
set_option maxRecDepth 20000 in
theorem ggX0_cellsInRow_X0_isVisible : GoodIn wsX0_cellsInRow wsX0_isVisible := goodIn_r _ [15, 16, 17, 18, 19, 20, 14, 21, 22, 23, 24, 4, 5, 6, 7, 25, 26, 27, 28, 29, 30, 31, 32, 33, 34, 35, 36, 37, 38, 39, 40, 41, 42, 43, 44, 45, 46, 47, 48, 49, 50, 72, 73, 74, 75, 76, 77, 78, 79, 80, 65, 66, 67, 68, 69, 70, 71] (by decide +kernel) (by decide +kernel)
set_option maxRecDepth 20000 in
theorem gX0_cellsInRow_X0_isVisible : GoodIn wsX0_cellsInRow (wsV RX0 109 RX0 yX0_isVisible wsX0_isVisible) := goodIn_app (goodIn_of _ (by decide +kernel)) ggX0_cellsInRow_X0_isVisible
set_option maxRecDepth 20000 in
theorem ggX0_cellsInRow_X0_rowOf : GoodIn wsX0_cellsInRow wsX0_rowOf := goodIn_r _ [54, 22, 55, 56, 57, 58, 28, 59, 30, 31, 32, 45, 46, 47, 14, 48, 49, 50, 72, 73, 74, 75, 76, 77, 78, 79, 80, 65, 66, 67, 68, 69, 70, 71] (by decide +kernel) (by decide +kernel)
set_option maxRecDepth 20000 in
theorem gX0_cellsInRow_X0_rowOf : GoodIn wsX0_cellsInRow (wsV RX0 113 RX0 yX0_rowOf wsX0_rowOf) := goodIn_app (goodIn_of _ (by decide +kernel)) ggX0_cellsInRow_X0_rowOf
set_option maxRecDepth 20000 in
theorem ggX0_cellsInRow_X0_columnOf : GoodIn wsX0_cellsInRow wsX0_columnOf := goodIn_r _ [63, 22, 64, 56, 57, 58, 28, 59, 30, 31, 32, 45, 46, 47, 14, 48, 49, 50, 72, 73, 74, 75, 76, 77, 78, 79, 80, 65, 66, 67, 68, 69, 70, 71] (by decide +kernel) (by decide +kernel)
set_option maxRecDepth 20000 in
theorem gX0_cellsInRow_X0_columnOf : GoodIn wsX0_cellsInRow (wsV RX0 117 RX0 yX0_columnOf wsX0_columnOf) := goodIn_app (goodIn_of _ (by decide +kernel)) ggX0_cellsInRow_X0_columnOf
set_option maxRecDepth 20000 in
theorem ggX0_firstMeeting_X2_keepsLane : GoodIn wsX0_firstMeeting wsX2_keepsLane := goodIn_r _ [15, 16, 67, 68, 69, 70, 71, 72, 73, 74, 75] (by decide +kernel) (by decide +kernel)
set_option maxRecDepth 20000 in
theorem gX0_firstMeeting_X2_keepsLane : GoodIn wsX0_firstMeeting (wsV RX0 124 RX2 yX2_keepsLane wsX2_keepsLane) := goodIn_app (goodIn_of _ (by decide +kernel)) ggX0_firstMeeting_X2_keepsLane
set_option maxRecDepth 20000 in
theorem ggX0_firstMeeting_X0_goneFrom : GoodIn wsX0_firstMeeting wsX0_goneFrom := goodIn_r _ [21, 22, 23, 24, 3, 8, 9, 6, 10, 25, 26, 27, 14, 28, 29, 30, 31, 32, 33, 34, 20, 35, 36, 37, 38, 39, 16, 40, 41, 42, 43, 44, 45, 46, 47, 48, 67, 68, 69, 70, 71, 72, 73, 74, 75, 76, 77, 78, 79, 80, 81, 82] (by decide +kernel) (by decide +kernel)
set_option maxRecDepth 20000 in
theorem gX0_firstMeeting_X0_goneFrom : GoodIn wsX0_firstMeeting (wsV RX0 106 RX0 yX0_goneFrom wsX0_goneFrom) := goodIn_app (goodIn_of _ (by decide +kernel)) ggX0_firstMeeting_X0_goneFrom
set_option maxRecDepth 20000 in
theorem ggX0_firstMeeting_X0_shareCell : GoodIn wsX0_firstMeeting wsX0_shareCell := goodIn_r _ [52, 4, 5, 6, 7, 53, 8, 9, 10, 54, 55, 56, 20, 57, 22, 2, 58, 59, 60, 14, 61, 29, 30, 31, 43, 44, 45, 46, 47, 48, 62, 63, 64, 65, 66, 67, 68, 69, 70, 71, 72, 73, 74, 75, 76, 77, 78, 79, 80, 81, 82] (by decide +kernel) (by decide +kernel)
set_option maxRecDepth 20000 in
theorem gX0_firstMeeting_X0_shareCell : GoodIn wsX0_firstMeeting (wsV RX0 128 RX0 yX0_shareCell wsX0_shareCell) := goodIn_app (goodIn_of _ (by decide +kernel)) ggX0_firstMeeting_X0_shareCell
set_option maxRecDepth 20000 in
theorem ggX0_firstMeeting_X2_leavesIn : GoodIn wsX0_firstMeeting wsX2_leavesIn := goodIn_r _ [28, 29, 30, 31, 67, 68, 69, 70, 71, 72, 73, 74, 75] (by decide +kernel) (by decide +kernel)
set_option maxRecDepth 20000 in
theorem gX0_firstMeeting_X2_leavesIn : GoodIn wsX0_firstMeeting (wsV RX0 89 RX2 yX2_leavesIn wsX2_leavesIn) := goodIn_app (goodIn_of _ (by decide +kernel)) ggX0_firstMeeting_X2_leavesIn
set_option maxRecDepth 20000 in
theorem ggX0_shareCell_X0_rowOf : GoodIn wsX0_shareCell wsX0_rowOf := goodIn_r _ [13, 14, 15, 16, 17, 18, 19, 20, 21, 22, 23, 24, 25, 26, 12, 27, 28, 29, 35, 36, 37, 38, 39, 40, 41, 42, 43, 44, 45, 46, 47, 48, 49, 50] (by decide +kernel) (by decide +kernel)
set_option maxRecDepth 20000 in
theorem gX0_shareCell_X0_rowOf : GoodIn wsX0_shareCell (wsV RX0 113 RX0 yX0_rowOf wsX0_rowOf) := goodIn_app (goodIn_of _ (by decide +kernel)) ggX0_shareCell_X0_rowOf
set_option maxRecDepth 20000 in
theorem ggX0_shareCell_X0_columnOf : GoodIn wsX0_shareCell wsX0_columnOf := goodIn_r _ [33, 14, 34, 16, 17, 18, 19, 20, 21, 22, 23, 24, 25, 26, 12, 27, 28, 29, 35, 36, 37, 38, 39, 40, 41, 42, 43, 44, 45, 46, 47, 48, 49, 50] (by decide +kernel) (by decide +kernel)
set_option maxRecDepth 20000 in
theorem gX0_shareCell_X0_columnOf : GoodIn wsX0_shareCell (wsV RX0 117 RX0 yX0_columnOf wsX0_columnOf) := goodIn_app (goodIn_of _ (by decide +kernel)) ggX0_shareCell_X0_columnOf
set_option maxRecDepth 20000 in
theorem ggX0_isFree_X2_copyFrom : GoodIn wsX0_isFree wsX2_copyFrom := goodIn_r _ [9, 10, 11, 12, 13, 14, 15, 16, 17, 18, 19, 20, 21, 22, 95, 96, 97, 98, 99, 100, 101, 102, 103] (by decide +kernel) (by decide +kernel)
set_option maxRecDepth 20000 in
theorem gX0_isFree_X2_copyFrom : GoodIn wsX0_isFree (wsV RX0 36 RX2 yX2_copyFrom wsX2_copyFrom) := goodIn_app (goodIn_of _ (by decide +kernel)) ggX0_isFree_X2_copyFrom
set_option maxRecDepth 20000 in
theorem ggX0_isFree_X2_putAt : GoodIn wsX0_isFree wsX2_putAt := goodIn_r _ [26, 20, 21, 22, 95, 96, 97, 98, 99, 100, 101, 102, 103] (by decide +kernel) (by decide +kernel)
set_option maxRecDepth 20000 in
theorem gX0_isFree_X2_putAt : GoodIn wsX0_isFree (wsV RX0 132 RX2 yX2_putAt wsX2_putAt) := goodIn_app (goodIn_of _ (by decide +kernel)) ggX0_isFree_X2_putAt
set_option maxRecDepth 20000 in
theorem ggX0_isFree_X0_firstMeeting : GoodIn wsX0_isFree wsX0_firstMeeting := goodIn_r _ [31, 32, 33, 3, 34, 35, 36, 37, 38, 39, 40, 41, 42, 43, 8, 44, 19, 45, 46, 47, 30, 48, 49, 50, 51, 52, 53, 54, 55, 16, 17, 18, 56, 57, 58, 59, 60, 61, 62, 63, 22, 15, 21, 64, 65, 66, 67, 68, 69, 70, 71, 72, 73, 74, 75, 76, 77, 78, 79, 80, 81, 82, 83, 84, 85, 86, 87, 95, 96, 97, 98, 99, 100, 101, 102, 103, 88, 89, 90, 91, 92, 93, 94] (by decide +kernel) (by decide +kernel)
set_option maxRecDepth 20000 in
theorem gX0_isFree_X0_firstMeeting : GoodIn wsX0_isFree (wsV RX0 71 RX0 yX0_firstMeeting wsX0_firstMeeting) := goodIn_app (goodIn_of _ (by decide +kernel)) ggX0_isFree_X0_firstMeeting
set_option maxRecDepth 20000 in
theorem ggX0_sortForPutting_X0_comesBefore : GoodIn wsX0_sortForPutting wsX0_comesBefore := goodIn_r _ [7, 8, 9, 17, 18, 19, 20, 21, 22, 23, 24, 25] (by decide +kernel) (by decide +kernel)
set_option maxRecDepth 20000 in
theorem gX0_sortForPutting_X0_comesBefore : GoodIn wsX0_sortForPutting (va_wsS RX0 136 yX0_comesBefore wsX0_comesBefore) := goodIn_app (goodIn_of _ (by decide +kernel)) ggX0_sortForPutting_X0_comesBefore
set_option maxRecDepth 20000 in
theorem ggX0_putAtFirstPlace_X2_lastColumn : GoodIn wsX0_putAtFirstPlace wsX2_lastColumn := goodIn_r _ [7, 8, 103, 104, 105, 106, 107, 108, 109, 110, 111] (by decide +kernel) (by decide +kernel)
set_option maxRecDepth 20000 in
theorem gX0_putAtFirstPlace_X2_lastColumn : GoodIn wsX0_putAtFirstPlace (wsV RX0 140 RX2 yX2_lastColumn wsX2_lastColumn) := goodIn_app (goodIn_of _ (by decide +kernel)) ggX0_putAtFirstPlace_X2_lastColumn
set_option maxRecDepth 20000 in
theorem ggX0_putAtFirstPlace_X0_isFree : GoodIn wsX0_putAtFirstPlace wsX0_isFree := goodIn_r _ [13, 14, 1, 2, 15, 16, 17, 18, 6, 19, 20, 21, 22, 23, 24, 8, 25, 26, 27, 28, 29, 30, 31, 32, 33, 34, 35, 36, 37, 38, 12, 39, 40, 41, 42, 43, 44, 45, 46, 47, 48, 49, 50, 51, 52, 53, 54, 55, 56, 57, 58, 59, 60, 61, 62, 63, 64, 65, 66, 67, 68, 69, 70, 71, 72, 73, 74, 75, 76, 77, 78, 79, 80, 81, 82, 83, 84, 85, 86, 87, 88, 89, 90, 91, 92, 93, 94, 95, 96, 97, 98, 99, 100, 101, 102, 103, 104, 105, 106, 107, 108, 109, 110, 111] (by decide +kernel) (by decide +kernel)
set_option maxRecDepth 20000 in
theorem gX0_putAtFirstPlace_X0_isFree : GoodIn wsX0_putAtFirstPlace (wsV RX0 146 RX0 yX0_isFree wsX0_isFree) := goodIn_app (goodIn_of _ (by decide +kernel)) ggX0_putAtFirstPlace_X0_isFree
set_option maxRecDepth 20000 in
theorem ggX0_putAtFirstPlace_X2_putAt : GoodIn wsX0_putAtFirstPlace wsX2_putAt := goodIn_r _ [35, 29, 30, 31, 103, 104, 105, 106, 107, 108, 109, 110, 111] (by decide +kernel) (by decide +kernel)
set_option maxRecDepth 20000 in
theorem gX0_putAtFirstPlace_X2_putAt : GoodIn wsX0_putAtFirstPlace (wsV RX0 132 RX2 yX2_putAt wsX2_putAt) := goodIn_app (goodIn_of _ (by decide +kernel)) ggX0_putAtFirstPlace_X2_putAt
set_option maxRecDepth 20000 in
theorem ggX1_readInto_X1_step : GoodIn wsX1_readInto wsX1_step := goodIn_r _ [8, 1, 3, 9, 10, 2, 11, 12, 13, 7, 14, 131, 132, 133, 134, 135] (by decide +kernel) (by decide +kernel)
set_option maxRecDepth 20000 in
theorem gX1_readInto_X1_step : GoodIn wsX1_readInto (wsV RX1 19 RX1 yX1_step wsX1_step) := goodIn_app (goodIn_of _ (by decide +kernel)) ggX1_readInto_X1_step
set_option maxRecDepth 20000 in
theorem ggX1_readInto_X1_readItem : GoodIn wsX1_readInto wsX1_readItem := goodIn_r _ [18, 19, 20, 21, 7, 22, 2, 1, 3, 10, 23, 24, 25, 26, 27, 28, 29, 30, 31, 32, 33, 34, 35, 36, 37, 38, 39, 40, 41, 42, 43, 44, 45, 46, 47, 48, 49, 50, 51, 52, 53, 54, 55, 56, 57, 58, 59, 60, 61, 62, 63, 64, 65, 66, 67, 68, 69, 70, 71, 72, 73, 74, 75, 76, 77, 78, 79, 80, 81, 82, 83, 84, 85, 86, 4, 5, 6, 8, 9, 11, 12, 13, 14, 87, 88, 89, 90, 91, 92, 93, 94, 95, 96, 97, 98, 99, 100, 101, 102, 103, 104, 105, 106, 107, 108, 109, 110, 111, 112, 113, 114, 115, 116, 117, 118, 119, 120, 121, 122, 123, 124, 125, 126, 127, 128, 129, 130, 131, 132, 133, 134, 135, 136, 137, 138, 139, 140, 141, 142, 143, 144, 145, 146, 147, 148, 149, 150, 151] (by decide +kernel) (by decide +kernel)
set_option maxRecDepth 20000 in
theorem gX1_readInto_X1_readItem : GoodIn wsX1_readInto (wsV RX1 25 RX1 yX1_readItem wsX1_readItem) := goodIn_app (goodIn_of _ (by decide +kernel)) ggX1_readInto_X1_readItem
set_option maxRecDepth 20000 in
theorem ggX1_readItem_X1_isName : GoodIn wsX1_readItem wsX1_isName := goodIn_r _ [5, 6, 7, 8, 9, 10, 11, 12, 13, 14, 15, 16, 17, 18, 19, 20, 21, 22, 23, 24, 25, 26, 27, 28, 29, 30, 31, 32, 33, 34, 35, 36, 37, 38, 39, 40, 41, 42, 43, 44, 45, 46, 47, 48, 49, 50, 51, 52, 53, 54, 55, 56, 57, 58, 127, 128, 129, 130, 131] (by decide +kernel) (by decide +kernel)
set_option maxRecDepth 20000 in
theorem gX1_readItem_X1_isName : GoodIn wsX1_readItem (wsV RX1 34 RX1 yX1_isName wsX1_isName) := goodIn_app (goodIn_of _ (by decide +kernel)) ggX1_readItem_X1_isName
set_option maxRecDepth 20000 in
theorem ggX1_readItem_X0_hasRoomForWord : GoodIn wsX1_readItem wsX0_hasRoomForWord := goodIn_r _ [63, 64, 132, 133, 134, 135, 136, 137, 138] (by decide +kernel) (by decide +kernel)
set_option maxRecDepth 20000 in
theorem gX1_readItem_X0_hasRoomForWord : GoodIn wsX1_readItem (wsV RX1 38 RX0 yX0_hasRoomForWord wsX0_hasRoomForWord) := goodIn_app (goodIn_of _ (by decide +kernel)) ggX1_readItem_X0_hasRoomForWord
set_option maxRecDepth 20000 in
theorem ggX1_readItem_X1_readWord : GoodIn wsX1_readItem wsX1_readWord := goodIn_r _ [68, 8, 7, 6, 9, 69, 70, 71, 72, 73, 74, 75, 76, 4, 77, 78, 79, 80, 81, 82, 83, 84, 85, 86, 87, 88, 89, 90, 91, 92, 93, 94, 95, 96, 1, 2, 3, 5, 10, 11, 12, 13, 14, 15, 16, 17, 18, 19, 20, 21, 22, 23, 24, 25, 26, 27, 28, 29, 30, 31, 32, 33, 34, 35, 36, 37, 38, 39, 40, 41, 42, 43, 44, 45, 46, 47, 48, 49, 50, 51, 52, 53, 54, 55, 56, 57, 58, 97, 98, 99, 62, 100, 101, 64, 102, 103, 104, 105, 106, 107, 108, 127, 128, 129, 130, 131, 139, 140, 141, 142, 143, 144, 145, 146, 147, 132, 133, 134, 135, 136, 137, 138] (by decide +kernel) (by decide +kernel)
set_option maxRecDepth 20000 in
theorem gX1_readItem_X1_readWord : GoodIn wsX1_readItem (wsV RX1 44 RX1 yX1_readWord wsX1_readWord) := goodIn_app (goodIn_of _ (by decide +kernel)) ggX1_readItem_X1_readWord
set_option maxRecDepth 20000 in
theorem ggX1_readItem_X0_hasRoomForShot : GoodIn wsX1_readItem wsX0_hasRoomForShot := goodIn_r _ [112, 113, 132, 133, 134, 135, 136, 137, 138] (by decide +kernel) (by decide +kernel)
set_option maxRecDepth 20000 in
theorem gX1_readItem_X0_hasRoomForShot : GoodIn wsX1_readItem (wsV RX1 49 RX0 yX0_hasRoomForShot wsX0_hasRoomForShot) := goodIn_app (goodIn_of _ (by decide +kernel)) ggX1_readItem_X0_hasRoomForShot
set_option maxRecDepth 20000 in
theorem ggX1_readItem_X1_readShot : GoodIn wsX1_readItem wsX1_readShot := goodIn_r _ [117, 6, 74, 75, 76, 4, 77, 7, 8, 78, 9, 79, 80, 81, 82, 83, 84, 85, 86, 91, 88, 92, 118, 119, 120, 62, 121, 113, 122, 123, 124, 125, 126, 127, 128, 129, 130, 131, 132, 133, 134, 135, 136, 137, 138] (by decide +kernel) (by decide +kernel)
set_option maxRecDepth 20000 in
theorem gX1_readItem_X1_readShot : GoodIn wsX1_readItem (wsV RX1 52 RX1 yX1_readShot wsX1_readShot) := goodIn_app (goodIn_of _ (by decide +kernel)) ggX1_readItem_X1_readShot
set_option maxRecDepth 20000 in
theorem ggX1_readWord_X1_step : GoodIn wsX1_readWord wsX1_step := goodIn_r _ [14, 2, 1, 15, 4, 3, 16, 17, 18, 13, 19, 101, 102, 103, 104, 105] (by decide +kernel) (by decide +kernel)
set_option maxRecDepth 20000 in
theorem gX1_readWord_X1_step : GoodIn wsX1_readWord (wsV RX1 19 RX1 yX1_step wsX1_step) := goodIn_app (goodIn_of _ (by decide +kernel)) ggX1_readWord_X1_step
set_option maxRecDepth 20000 in
theorem ggX1_readWord_X1_numberOf : GoodIn wsX1_readWord wsX1_numberOf := goodIn_r _ [23, 3, 4, 1, 2, 101, 102, 103, 104, 105] (by decide +kernel) (by decide +kernel)
set_option maxRecDepth 20000 in
theorem gX1_readWord_X1_numberOf : GoodIn wsX1_readWord (wsV RX1 55 RX1 yX1_numberOf wsX1_numberOf) := goodIn_app (goodIn_of _ (by decide +kernel)) ggX1_readWord_X1_numberOf
set_option maxRecDepth 20000 in
theorem ggX1_readWord_X3_isAllowed : GoodIn wsX1_readWord wsX3_isAllowed := goodIn_r _ [26, 27, 28, 25, 29] (by decide +kernel) (by decide +kernel)
set_option maxRecDepth 20000 in
theorem gX1_readWord_X3_isAllowed_n59 : GoodIn wsX1_readWord (wsX3_isAllowed) := ggX1_readWord_X3_isAllowed
set_option maxRecDepth 20000 in
theorem ggX1_readWord_X1_wayOf : GoodIn wsX1_readWord wsX1_wayOf := goodIn_r _ [33, 34, 35, 36, 13, 37, 3, 2, 1, 4, 38, 39, 40, 41, 42, 43, 44, 45, 46, 47, 48, 49, 50, 51, 52, 53, 54, 55, 56, 57, 58, 59, 60, 61, 62, 63, 64, 65, 66, 67, 68, 69, 70, 71, 72, 73, 74, 75, 76, 77, 78, 79, 80, 81, 82, 83, 84, 85, 86, 101, 102, 103, 104, 105] (by decide +kernel) (by decide +kernel)
set_option maxRecDepth 20000 in
theorem gX1_readWord_X1_wayOf : GoodIn wsX1_readWord (wsV RX1 63 RX1 yX1_wayOf wsX1_wayOf) := goodIn_app (goodIn_of _ (by decide +kernel)) ggX1_readWord_X1_wayOf
set_option maxRecDepth 20000 in
theorem ggX1_readWord_X0_appendWord : GoodIn wsX1_readWord wsX0_appendWord := goodIn_r _ [91, 92, 93, 94, 95, 96, 97, 98, 99, 100, 115, 116, 117, 118, 119, 120, 121, 106, 107, 108, 109, 110, 111, 112, 113, 114] (by decide +kernel) (by decide +kernel)
set_option maxRecDepth 20000 in
theorem gX1_readWord_X0_appendWord : GoodIn wsX1_readWord (wsV RX1 66 RX0 yX0_appendWord wsX0_appendWord) := goodIn_app (goodIn_of _ (by decide +kernel)) ggX1_readWord_X0_appendWord
set_option maxRecDepth 20000 in
theorem ggX1_readShot_X1_step : GoodIn wsX1_readShot wsX1_step := goodIn_r _ [6, 7, 8, 9, 10, 1, 11, 12, 13, 5, 14, 33, 34, 35, 36, 37] (by decide +kernel) (by decide +kernel)
set_option maxRecDepth 20000 in
theorem gX1_readShot_X1_step : GoodIn wsX1_readShot (wsV RX1 19 RX1 yX1_step wsX1_step) := goodIn_app (goodIn_of _ (by decide +kernel)) ggX1_readShot_X1_step
set_option maxRecDepth 20000 in
theorem ggX1_readShot_X1_numberOf : GoodIn wsX1_readShot wsX1_numberOf := goodIn_r _ [18, 1, 10, 8, 7, 33, 34, 35, 36, 37] (by decide +kernel) (by decide +kernel)
set_option maxRecDepth 20000 in
theorem gX1_readShot_X1_numberOf : GoodIn wsX1_readShot (wsV RX1 55 RX1 yX1_numberOf wsX1_numberOf) := goodIn_app (goodIn_of _ (by decide +kernel)) ggX1_readShot_X1_numberOf
set_option maxRecDepth 20000 in
theorem ggX1_readShot_X3_isBetween : GoodIn wsX1_readShot wsX3_isBetween := goodIn_r _ [21] (by decide +kernel) (by decide +kernel)
set_option maxRecDepth 20000 in
theorem gX1_readShot_X3_isBetween_n81 : GoodIn wsX1_readShot (wsX3_isBetween) := ggX1_readShot_X3_isBetween
set_option maxRecDepth 20000 in
theorem ggX1_readShot_X0_hasShotIn : GoodIn wsX1_readShot wsX0_hasShotIn := goodIn_r _ [26, 27, 28, 38, 39, 40, 41, 42, 43, 44] (by decide +kernel) (by decide +kernel)
set_option maxRecDepth 20000 in
theorem gX1_readShot_X0_hasShotIn : GoodIn wsX1_readShot (wsV RX1 85 RX0 yX0_hasShotIn wsX0_hasShotIn) := goodIn_app (goodIn_of _ (by decide +kernel)) ggX1_readShot_X0_hasShotIn
set_option maxRecDepth 20000 in
theorem ggX1_readShot_X0_insertShot : GoodIn wsX1_readShot wsX0_insertShot := goodIn_r _ [32, 27, 28, 38, 39, 40, 41, 42, 43, 44] (by decide +kernel) (by decide +kernel)
set_option maxRecDepth 20000 in
theorem gX1_readShot_X0_insertShot : GoodIn wsX1_readShot (wsV RX1 89 RX0 yX0_insertShot wsX0_insertShot) := goodIn_app (goodIn_of _ (by decide +kernel)) ggX1_readShot_X0_insertShot
set_option maxRecDepth 20000 in
theorem ggX1_step_X1_kindAt : GoodIn wsX1_step wsX1_kindAt := goodIn_r _ [10, 3, 4, 11, 12, 13, 14, 15] (by decide +kernel) (by decide +kernel)
set_option maxRecDepth 20000 in
theorem gX1_step_X1_kindAt : GoodIn wsX1_step (wsV RX1 96 RX1 yX1_kindAt wsX1_kindAt) := goodIn_app (goodIn_of _ (by decide +kernel)) ggX1_step_X1_kindAt
set_option maxRecDepth 20000 in
theorem ggX1_isName_J0_length_8abf5 : GoodIn wsX1_isName wsJ0_length_8abf5 := goodIn_r _ [9, 10, 11, 12, 13, 8, 14, 15, 16] (by decide +kernel) (by decide +kernel)
set_option maxRecDepth 20000 in
theorem gX1_isName_J0_length_8abf5 : GoodIn wsX1_isName (wsV RX1 100 RJ0 yJ0_length_8abf5 wsJ0_length_8abf5) := goodIn_app (goodIn_of _ (by decide +kernel)) ggX1_isName_J0_length_8abf5
set_option maxRecDepth 20000 in
theorem ggX1_isName_J0_charAt_5068e : GoodIn wsX1_isName wsJ0_charAt_5068e := goodIn_r _ [20, 10, 21, 22, 23, 8, 24, 15, 16, 25, 26, 27, 28, 29, 30, 31, 32, 33, 34, 35, 36, 37, 38, 39, 40, 41, 42, 43, 44, 45, 46, 47, 48, 49, 50, 51, 52, 53] (by decide +kernel) (by decide +kernel)
set_option maxRecDepth 20000 in
theorem gX1_isName_J0_charAt_5068e : GoodIn wsX1_isName (wsV RX1 104 RJ0 yJ0_charAt_5068e wsJ0_charAt_5068e) := goodIn_app (goodIn_of _ (by decide +kernel)) ggX1_isName_J0_charAt_5068e
set_option maxRecDepth 20000 in
theorem ggX1_wayOf_X1_isName : GoodIn wsX1_wayOf wsX1_isName := goodIn_r _ [5, 6, 7, 8, 9, 10, 11, 12, 13, 14, 15, 16, 17, 18, 19, 20, 21, 22, 23, 24, 25, 26, 27, 28, 29, 30, 31, 32, 33, 34, 35, 36, 37, 38, 39, 40, 41, 42, 43, 44, 45, 46, 47, 48, 49, 50, 51, 52, 53, 54, 55, 56, 57, 58, 59, 60, 61, 62, 63] (by decide +kernel) (by decide +kernel)
set_option maxRecDepth 20000 in
theorem gX1_wayOf_X1_isName : GoodIn wsX1_wayOf (wsV RX1 34 RX1 yX1_isName wsX1_isName) := goodIn_app (goodIn_of _ (by decide +kernel)) ggX1_wayOf_X1_isName
end
section
set_option maxRecDepth 20000 in
theorem ggX3_init_X0_init : GoodIn wsX3_init wsX0_init := goodIn_r _ [17, 18, 2, 3, 19, 20, 21, 22, 23, 24, 25, 26, 27, 28, 29, 30, 31, 36, 37, 38, 39, 40, 41, 42, 53, 54, 55, 56, 57, 58, 59, 60, 61] (by decide +kernel) (by decide +kernel)
set_option maxRecDepth 20000 in
theorem gX3_init_X0_init : GoodIn wsX3_init (wsX0_init) := ggX3_init_X0_init
set_option maxRecDepth 20000 in
theorem ggX3_init_X1_init : GoodIn wsX3_init wsX1_init := goodIn_r _ [33, 34, 2, 3, 21, 35, 48, 49, 50, 51, 52] (by decide +kernel) (by decide +kernel)
set_option maxRecDepth 20000 in
theorem gX3_init_X1_init_n29 : GoodIn wsX3_init (wsX1_init) := ggX3_init_X1_init
set_option maxRecDepth 20000 in
theorem ggX3_addWord_X3_isBetween : GoodIn wsX3_addWord wsX3_isBetween := goodIn_r _ [6] (by decide +kernel) (by decide +kernel)
set_option maxRecDepth 20000 in
theorem gX3_addWord_X3_isBetween : GoodIn wsX3_addWord (va_wsS RX3 34 yX3_isBetween wsX3_isBetween) := goodIn_app (goodIn_of _ (by decide +kernel)) ggX3_addWord_X3_isBetween
set_option maxRecDepth 20000 in
theorem ggX3_addWord_X3_isAllowed : GoodIn wsX3_addWord wsX3_isAllowed := goodIn_r _ [9, 3, 4, 5, 6] (by decide +kernel) (by decide +kernel)
set_option maxRecDepth 20000 in
theorem gX3_addWord_X3_isAllowed : GoodIn wsX3_addWord (va_wsS RX3 38 yX3_isAllowed wsX3_isAllowed) := goodIn_app (goodIn_of _ (by decide +kernel)) ggX3_addWord_X3_isAllowed
set_option maxRecDepth 20000 in
theorem ggX3_addWord_X0_hasRoomForWord : GoodIn wsX3_addWord wsX0_hasRoomForWord := goodIn_r _ [14, 15, 69, 70, 71, 72, 73, 74, 75] (by decide +kernel) (by decide +kernel)
set_option maxRecDepth 20000 in
theorem gX3_addWord_X0_hasRoomForWord : GoodIn wsX3_addWord (wsV RX3 42 RX0 yX0_hasRoomForWord wsX0_hasRoomForWord) := goodIn_app (goodIn_of _ (by decide +kernel)) ggX3_addWord_X0_hasRoomForWord
set_option maxRecDepth 20000 in
theorem ggX3_addWord_X3_record : GoodIn wsX3_addWord wsX3_record := goodIn_r _ [19, 20, 21, 1, 22, 23, 24, 5, 25, 26, 27, 28, 13, 29, 15, 30, 31, 32, 33, 34, 35, 36, 37, 38, 39, 40, 41, 42, 43, 44, 45, 46, 47, 48, 49, 50, 51, 52, 64, 65, 66, 67, 68, 69, 70, 71, 72, 73, 74, 75, 76, 77, 78, 79, 80, 81, 82, 83, 84] (by decide +kernel) (by decide +kernel)
set_option maxRecDepth 20000 in
theorem gX3_addWord_X3_record : GoodIn wsX3_addWord (wsV RX3 46 RX3 yX3_record wsX3_record) := goodIn_app (goodIn_of _ (by decide +kernel)) ggX3_addWord_X3_record
set_option maxRecDepth 20000 in
theorem ggX3_addWord_X0_appendWord : GoodIn wsX3_addWord wsX0_appendWord := goodIn_r _ [56, 30, 15, 57, 58, 59, 60, 61, 62, 63, 69, 70, 71, 72, 73, 74, 75, 76, 77, 78, 79, 80, 81, 82, 83, 84] (by decide +kernel) (by decide +kernel)
set_option maxRecDepth 20000 in
theorem gX3_addWord_X0_appendWord : GoodIn wsX3_addWord (wsV RX3 49 RX0 yX0_appendWord wsX0_appendWord) := goodIn_app (goodIn_of _ (by decide +kernel)) ggX3_addWord_X0_appendWord
set_option maxRecDepth 20000 in
theorem ggX3_removeWord_X0_hasWord : GoodIn wsX3_removeWord wsX0_hasWord := goodIn_r _ [7, 8, 56, 57, 58, 59, 60, 61, 62] (by decide +kernel) (by decide +kernel)
set_option maxRecDepth 20000 in
theorem gX3_removeWord_X0_hasWord : GoodIn wsX3_removeWord (wsV RX3 56 RX0 yX0_hasWord wsX0_hasWord) := goodIn_app (goodIn_of _ (by decide +kernel)) ggX3_removeWord_X0_hasWord
set_option maxRecDepth 20000 in
theorem ggX3_removeWord_X3_record : GoodIn wsX3_removeWord wsX3_record := goodIn_r _ [13, 14, 15, 1, 16, 17, 18, 12, 19, 20, 21, 22, 6, 23, 8, 24, 25, 26, 27, 28, 29, 30, 31, 32, 33, 34, 35, 36, 37, 38, 39, 40, 41, 42, 43, 44, 45, 46, 51, 52, 53, 54, 55, 56, 57, 58, 59, 60, 61, 62, 63, 64, 65, 66, 67, 68, 69, 70, 71] (by decide +kernel) (by decide +kernel)
set_option maxRecDepth 20000 in
theorem gX3_removeWord_X3_record : GoodIn wsX3_removeWord (wsV RX3 46 RX3 yX3_record wsX3_record) := goodIn_app (goodIn_of _ (by decide +kernel)) ggX3_removeWord_X3_record
set_option maxRecDepth 20000 in
theorem ggX3_removeWord_X0_deleteWord : GoodIn wsX3_removeWord wsX0_deleteWord := goodIn_r _ [50, 24, 8, 56, 57, 58, 59, 60, 61, 62] (by decide +kernel) (by decide +kernel)
set_option maxRecDepth 20000 in
theorem gX3_removeWord_X0_deleteWord : GoodIn wsX3_removeWord (wsV RX3 60 RX0 yX0_deleteWord wsX0_deleteWord) := goodIn_app (goodIn_of _ (by decide +kernel)) ggX3_removeWord_X0_deleteWord
set_option maxRecDepth 20000 in
theorem ggX3_setWord_X0_hasWord : GoodIn wsX3_setWord wsX0_hasWord := goodIn_r _ [8, 9, 67, 68, 69, 70, 71, 72, 73] (by decide +kernel) (by decide +kernel)
set_option maxRecDepth 20000 in
theorem gX3_setWord_X0_hasWord : GoodIn wsX3_setWord (wsV RX3 56 RX0 yX0_hasWord wsX0_hasWord) := goodIn_app (goodIn_of _ (by decide +kernel)) ggX3_setWord_X0_hasWord
set_option maxRecDepth 20000 in
theorem ggX3_setWord_X3_isAllowed : GoodIn wsX3_setWord wsX3_isAllowed := goodIn_r _ [13, 14, 15, 12, 16] (by decide +kernel) (by decide +kernel)
set_option maxRecDepth 20000 in
theorem gX3_setWord_X3_isAllowed : GoodIn wsX3_setWord (va_wsS RX3 38 yX3_isAllowed wsX3_isAllowed) := goodIn_app (goodIn_of _ (by decide +kernel)) ggX3_setWord_X3_isAllowed
set_option maxRecDepth 20000 in
theorem ggX3_setWord_X3_record : GoodIn wsX3_setWord wsX3_record := goodIn_r _ [20, 21, 22, 1, 23, 24, 25, 12, 26, 27, 28, 29, 7, 30, 9, 31, 32, 33, 34, 35, 36, 37, 38, 39, 40, 41, 42, 43, 44, 45, 46, 47, 48, 49, 50, 51, 52, 53, 62, 63, 64, 65, 66, 67, 68, 69, 70, 71, 72, 73, 74, 75, 76, 77, 78, 79, 80, 81, 82] (by decide +kernel) (by decide +kernel)
set_option maxRecDepth 20000 in
theorem gX3_setWord_X3_record : GoodIn wsX3_setWord (wsV RX3 46 RX3 yX3_record wsX3_record) := goodIn_app (goodIn_of _ (by decide +kernel)) ggX3_setWord_X3_record
set_option maxRecDepth 20000 in
theorem ggX3_setWord_X2_property : GoodIn wsX3_setWord wsX2_property := goodIn_r _ [57, 47, 48, 49, 50, 74, 75, 76, 77, 78, 79, 80, 81, 82] (by decide +kernel) (by decide +kernel)
set_option maxRecDepth 20000 in
theorem gX3_setWord_X2_property : GoodIn wsX3_setWord (wsV RX3 68 RX2 yX2_property wsX2_property) := goodIn_app (goodIn_of _ (by decide +kernel)) ggX3_setWord_X2_property
set_option maxRecDepth 20000 in
theorem ggX3_setWord_X2_setProperty : GoodIn wsX3_setWord wsX2_setProperty := goodIn_r _ [61, 47, 48, 49, 50, 74, 75, 76, 77, 78, 79, 80, 81, 82] (by decide +kernel) (by decide +kernel)
set_option maxRecDepth 20000 in
theorem gX3_setWord_X2_setProperty : GoodIn wsX3_setWord (wsV RX3 74 RX2 yX2_setProperty wsX2_setProperty) := goodIn_app (goodIn_of _ (by decide +kernel)) ggX3_setWord_X2_setProperty
set_option maxRecDepth 20000 in
theorem ggX3_addShot_X3_isBetween : GoodIn wsX3_addShot wsX3_isBetween := goodIn_r _ [6] (by decide +kernel) (by decide +kernel)
set_option maxRecDepth 20000 in
theorem gX3_addShot_X3_isBetween : GoodIn wsX3_addShot (va_wsS RX3 34 yX3_isBetween wsX3_isBetween) := goodIn_app (goodIn_of _ (by decide +kernel)) ggX3_addShot_X3_isBetween
set_option maxRecDepth 20000 in
theorem ggX3_addShot_X0_hasShotIn : GoodIn wsX3_addShot wsX0_hasShotIn := goodIn_r _ [11, 12, 13, 63, 64, 65, 66, 67, 68, 69] (by decide +kernel) (by decide +kernel)
set_option maxRecDepth 20000 in
theorem gX3_addShot_X0_hasShotIn : GoodIn wsX3_addShot (wsV RX3 82 RX0 yX0_hasShotIn wsX0_hasShotIn) := goodIn_app (goodIn_of _ (by decide +kernel)) ggX3_addShot_X0_hasShotIn
set_option maxRecDepth 20000 in
theorem ggX3_addShot_X0_hasRoomForShot : GoodIn wsX3_addShot wsX0_hasRoomForShot := goodIn_r _ [17, 12, 63, 64, 65, 66, 67, 68, 69] (by decide +kernel) (by decide +kernel)
set_option maxRecDepth 20000 in
theorem gX3_addShot_X0_hasRoomForShot : GoodIn wsX3_addShot (wsV RX3 85 RX0 yX0_hasRoomForShot wsX0_hasRoomForShot) := goodIn_app (goodIn_of _ (by decide +kernel)) ggX3_addShot_X0_hasRoomForShot
set_option maxRecDepth 20000 in
theorem ggX3_addShot_X3_record : GoodIn wsX3_addShot wsX3_record := goodIn_r _ [21, 22, 23, 1, 24, 25, 26, 5, 27, 28, 29, 30, 10, 31, 32, 33, 13, 34, 35, 36, 37, 12, 38, 39, 40, 41, 42, 43, 44, 45, 46, 47, 48, 49, 50, 51, 52, 53, 58, 59, 60, 61, 62, 63, 64, 65, 66, 67, 68, 69, 70, 71, 72, 73, 74, 75, 76, 77, 78] (by decide +kernel) (by decide +kernel)
set_option maxRecDepth 20000 in
theorem gX3_addShot_X3_record : GoodIn wsX3_addShot (wsV RX3 46 RX3 yX3_record wsX3_record) := goodIn_app (goodIn_of _ (by decide +kernel)) ggX3_addShot_X3_record
set_option maxRecDepth 20000 in
theorem ggX3_addShot_X0_insertShot : GoodIn wsX3_addShot wsX0_insertShot := goodIn_r _ [57, 12, 13, 63, 64, 65, 66, 67, 68, 69] (by decide +kernel) (by decide +kernel)
set_option maxRecDepth 20000 in
theorem gX3_addShot_X0_insertShot : GoodIn wsX3_addShot (wsV RX3 88 RX0 yX0_insertShot wsX0_insertShot) := goodIn_app (goodIn_of _ (by decide +kernel)) ggX3_addShot_X0_insertShot
set_option maxRecDepth 20000 in
theorem ggX3_removeShot_X3_isBetween : GoodIn wsX3_removeShot wsX3_isBetween := goodIn_r _ [6] (by decide +kernel) (by decide +kernel)
set_option maxRecDepth 20000 in
theorem gX3_removeShot_X3_isBetween : GoodIn wsX3_removeShot (va_wsS RX3 34 yX3_isBetween wsX3_isBetween) := goodIn_app (goodIn_of _ (by decide +kernel)) ggX3_removeShot_X3_isBetween
set_option maxRecDepth 20000 in
theorem ggX3_removeShot_X0_hasShotIn : GoodIn wsX3_removeShot wsX0_hasShotIn := goodIn_r _ [11, 12, 13, 59, 60, 61, 62, 63, 64, 65] (by decide +kernel) (by decide +kernel)
set_option maxRecDepth 20000 in
theorem gX3_removeShot_X0_hasShotIn : GoodIn wsX3_removeShot (wsV RX3 82 RX0 yX0_hasShotIn wsX0_hasShotIn) := goodIn_app (goodIn_of _ (by decide +kernel)) ggX3_removeShot_X0_hasShotIn
set_option maxRecDepth 20000 in
theorem ggX3_removeShot_X3_record : GoodIn wsX3_removeShot wsX3_record := goodIn_r _ [17, 18, 19, 1, 20, 21, 22, 5, 23, 24, 25, 26, 10, 27, 28, 29, 13, 30, 31, 32, 33, 12, 34, 35, 36, 37, 38, 39, 40, 41, 42, 43, 44, 45, 46, 47, 48, 49, 54, 55, 56, 57, 58, 59, 60, 61, 62, 63, 64, 65, 66, 67, 68, 69, 70, 71, 72, 73, 74] (by decide +kernel) (by decide +kernel)
set_option maxRecDepth 20000 in
theorem gX3_removeShot_X3_record : GoodIn wsX3_removeShot (wsV RX3 46 RX3 yX3_record wsX3_record) := goodIn_app (goodIn_of _ (by decide +kernel)) ggX3_removeShot_X3_record
set_option maxRecDepth 20000 in
theorem ggX3_removeShot_X0_deleteShot : GoodIn wsX3_removeShot wsX0_deleteShot := goodIn_r _ [53, 12, 13, 59, 60, 61, 62, 63, 64, 65] (by decide +kernel) (by decide +kernel)
set_option maxRecDepth 20000 in
theorem gX3_removeShot_X0_deleteShot : GoodIn wsX3_removeShot (wsV RX3 94 RX0 yX0_deleteShot wsX0_deleteShot) := goodIn_app (goodIn_of _ (by decide +kernel)) ggX3_removeShot_X0_deleteShot
set_option maxRecDepth 20000 in
theorem ggX3_setSpeed_X3_isBetween : GoodIn wsX3_setSpeed wsX3_isBetween := goodIn_r _ [6] (by decide +kernel) (by decide +kernel)
set_option maxRecDepth 20000 in
theorem gX3_setSpeed_X3_isBetween : GoodIn wsX3_setSpeed (va_wsS RX3 34 yX3_isBetween wsX3_isBetween) := goodIn_app (goodIn_of _ (by decide +kernel)) ggX3_setSpeed_X3_isBetween
set_option maxRecDepth 20000 in
theorem ggX3_setSpeed_X3_record : GoodIn wsX3_setSpeed wsX3_record := goodIn_r _ [10, 11, 12, 1, 13, 14, 15, 5, 16, 17, 18, 19, 20, 21, 22, 23, 24, 25, 26, 27, 28, 29, 30, 31, 32, 33, 34, 35, 36, 37, 38, 39, 40, 41, 42, 43, 44, 45, 46, 47, 48, 49, 50, 51, 52, 53, 54, 55, 56, 57, 58, 59, 60, 61, 62, 63, 64, 65, 66] (by decide +kernel) (by decide +kernel)
set_option maxRecDepth 20000 in
theorem gX3_setSpeed_X3_record : GoodIn wsX3_setSpeed (wsV RX3 46 RX3 yX3_record wsX3_record) := goodIn_app (goodIn_of _ (by decide +kernel)) ggX3_setSpeed_X3_record
set_option maxRecDepth 20000 in
theorem ggX3_append_X3_isBetween : GoodIn wsX3_append wsX3_isBetween := goodIn_r _ [7] (by decide +kernel) (by decide +kernel)
set_option maxRecDepth 20000 in
theorem gX3_append_X3_isBetween : GoodIn wsX3_append (va_wsS RX3 34 yX3_isBetween wsX3_isBetween) := goodIn_app (goodIn_of _ (by decide +kernel)) ggX3_append_X3_isBetween
set_option maxRecDepth 20000 in
theorem ggX3_load_X0_copyFrom : GoodIn wsX3_load wsX0_copyFrom := goodIn_r _ [9, 10, 11, 12, 13, 14, 15, 16, 17, 18, 19, 20, 21, 22, 23, 24, 25, 26, 27, 28, 29, 30, 31, 32, 33, 180, 181, 182, 183, 184, 185, 186, 187, 188, 189, 190, 191, 192, 193, 194, 195] (by decide +kernel) (by decide +kernel)
set_option maxRecDepth 20000 in
theorem gX3_load_X0_copyFrom : GoodIn wsX3_load (wsV RX3 107 RX0 yX0_copyFrom wsX0_copyFrom) := goodIn_app (goodIn_of _ (by decide +kernel)) ggX3_load_X0_copyFrom
set_option maxRecDepth 20000 in
theorem ggX3_load_X1_readInto : GoodIn wsX3_load wsX1_readInto := goodIn_r _ [38, 39, 40, 41, 42, 43, 44, 37, 45, 46, 47, 48, 49, 50, 51, 52, 53, 54, 55, 56, 57, 58, 59, 60, 61, 62, 63, 64, 65, 66, 67, 68, 69, 70, 71, 72, 73, 74, 75, 76, 77, 78, 79, 80, 81, 82, 83, 84, 85, 86, 87, 88, 89, 90, 91, 92, 93, 94, 95, 96, 97, 98, 99, 100, 101, 102, 103, 104, 105, 106, 107, 108, 109, 110, 111, 8, 112, 10, 113, 114, 115, 116, 117, 118, 14, 15, 16, 119, 120, 121, 122, 123, 124, 125, 126, 127, 128, 129, 130, 131, 132, 133, 134, 135, 136, 11, 137, 138, 139, 140, 141, 142, 143, 144, 145, 146, 147, 17, 148, 149, 150, 151, 152, 153, 154, 155, 12, 156, 157, 158, 159, 175, 176, 177, 178, 179, 180, 181, 182, 183, 184, 185, 186, 187, 188, 189, 190, 191, 192, 193, 194, 195] (by decide +kernel) (by decide +kernel)
set_option maxRecDepth 20000 in
theorem gX3_load_X1_readInto : GoodIn wsX3_load (wsV RX3 111 RX1 yX1_readInto wsX1_readInto) := goodIn_app (goodIn_of _ (by decide +kernel)) ggX3_load_X1_readInto
set_option maxRecDepth 20000 in
theorem ggX3_load_X3_record : GoodIn wsX3_load wsX3_record := goodIn_r _ [163, 164, 165, 2, 166, 167, 168, 124, 169, 5, 6, 7, 8, 9, 10, 11, 12, 13, 14, 15, 16, 17, 18, 19, 20, 21, 22, 23, 24, 25, 26, 27, 28, 29, 30, 31, 32, 33, 170, 171, 172, 173, 174, 180, 181, 182, 183, 184, 185, 186, 187, 188, 189, 190, 191, 192, 193, 194, 195] (by decide +kernel) (by decide +kernel)
set_option maxRecDepth 20000 in
theorem gX3_load_X3_record : GoodIn wsX3_load (wsV RX3 46 RX3 yX3_record wsX3_record) := goodIn_app (goodIn_of _ (by decide +kernel)) ggX3_load_X3_record
set_option maxRecDepth 20000 in
theorem ggX3_put_X3_isPossiblePlace : GoodIn wsX3_put wsX3_isPossiblePlace := goodIn_r _ [8, 1, 2, 9, 10, 11, 12, 13, 14, 15, 16, 7, 17, 18, 19, 20, 21, 22, 23, 131, 132, 133, 134, 135, 136, 137, 138, 139, 140, 141, 142, 143, 144, 145, 146, 147, 148, 149, 150, 151] (by decide +kernel) (by decide +kernel)
set_option maxRecDepth 20000 in
theorem gX3_put_X3_isPossiblePlace : GoodIn wsX3_put (wsV RX3 115 RX3 yX3_isPossiblePlace wsX3_isPossiblePlace) := goodIn_app (goodIn_of _ (by decide +kernel)) ggX3_put_X3_isPossiblePlace
set_option maxRecDepth 20000 in
theorem ggX3_put_X0_isFree : GoodIn wsX3_put wsX0_isFree := goodIn_r _ [27, 28, 29, 30, 14, 31, 32, 33, 21, 34, 35, 36, 37, 38, 39, 23, 40, 41, 42, 43, 44, 45, 46, 47, 48, 49, 50, 51, 52, 53, 12, 54, 55, 56, 57, 58, 59, 60, 61, 62, 63, 64, 65, 66, 67, 68, 69, 70, 71, 72, 73, 74, 75, 76, 77, 78, 79, 80, 81, 82, 83, 84, 85, 86, 87, 88, 89, 90, 91, 92, 93, 94, 95, 96, 97, 98, 99, 100, 101, 102, 103, 104, 105, 106, 107, 108, 109, 110, 136, 137, 138, 139, 140, 141, 142, 143, 144, 145, 146, 147, 148, 149, 150, 151] (by decide +kernel) (by decide +kernel)
set_option maxRecDepth 20000 in
theorem gX3_put_X0_isFree : GoodIn wsX3_put (wsV RX3 121 RX0 yX0_isFree wsX0_isFree) := goodIn_app (goodIn_of _ (by decide +kernel)) ggX3_put_X0_isFree
set_option maxRecDepth 20000 in
theorem ggX3_put_X3_record : GoodIn wsX3_put wsX3_record := goodIn_r _ [114, 115, 116, 1, 117, 118, 119, 7, 120, 121, 122, 123, 12, 124, 14, 29, 74, 125, 37, 38, 39, 73, 91, 31, 32, 33, 21, 34, 35, 36, 23, 40, 41, 42, 43, 44, 45, 46, 131, 132, 133, 134, 135, 136, 137, 138, 139, 140, 141, 142, 143, 144, 145, 146, 147, 148, 149, 150, 151] (by decide +kernel) (by decide +kernel)
set_option maxRecDepth 20000 in
theorem gX3_put_X3_record : GoodIn wsX3_put (wsV RX3 46 RX3 yX3_record wsX3_record) := goodIn_app (goodIn_of _ (by decide +kernel)) ggX3_put_X3_record
set_option maxRecDepth 20000 in
theorem ggX3_put_X2_putAt : GoodIn wsX3_put wsX2_putAt := goodIn_r _ [50, 44, 45, 46, 143, 144, 145, 146, 147, 148, 149, 150, 151] (by decide +kernel) (by decide +kernel)
set_option maxRecDepth 20000 in
theorem gX3_put_X2_putAt : GoodIn wsX3_put (wsV RX3 125 RX2 yX2_putAt wsX2_putAt) := goodIn_app (goodIn_of _ (by decide +kernel)) ggX3_put_X2_putAt
set_option maxRecDepth 20000 in
theorem ggX3_put_X0_countPut : GoodIn wsX3_put wsX0_countPut := goodIn_r _ [130, 14, 29, 55, 136, 137, 138, 139, 140, 141, 142, 143, 144, 145, 146, 147, 148, 149, 150, 151] (by decide +kernel) (by decide +kernel)
set_option maxRecDepth 20000 in
theorem gX3_put_X0_countPut : GoodIn wsX3_put (wsV RX3 128 RX0 yX0_countPut wsX0_countPut) := goodIn_app (goodIn_of _ (by decide +kernel)) ggX3_put_X0_countPut
set_option maxRecDepth 20000 in
theorem ggX3_take_X0_hasWord : GoodIn wsX3_take wsX0_hasWord := goodIn_r _ [8, 9, 58, 59, 60, 61, 62, 63, 64] (by decide +kernel) (by decide +kernel)
set_option maxRecDepth 20000 in
theorem gX3_take_X0_hasWord : GoodIn wsX3_take (wsV RX3 56 RX0 yX0_hasWord wsX0_hasWord) := goodIn_app (goodIn_of _ (by decide +kernel)) ggX3_take_X0_hasWord
set_option maxRecDepth 20000 in
theorem ggX3_take_X3_record : GoodIn wsX3_take wsX3_record := goodIn_r _ [14, 15, 16, 1, 17, 18, 19, 13, 20, 21, 22, 23, 7, 24, 9, 25, 26, 27, 28, 29, 30, 31, 32, 33, 34, 35, 36, 37, 38, 39, 40, 41, 42, 43, 44, 45, 46, 47, 53, 54, 55, 56, 57, 58, 59, 60, 61, 62, 63, 64, 65, 66, 67, 68, 69, 70, 71, 72, 73] (by decide +kernel) (by decide +kernel)
set_option maxRecDepth 20000 in
theorem gX3_take_X3_record : GoodIn wsX3_take (wsV RX3 46 RX3 yX3_record wsX3_record) := goodIn_app (goodIn_of _ (by decide +kernel)) ggX3_take_X3_record
set_option maxRecDepth 20000 in
theorem ggX3_take_X0_countPut : GoodIn wsX3_take wsX0_countPut := goodIn_r _ [51, 9, 25, 52, 58, 59, 60, 61, 62, 63, 64, 65, 66, 67, 68, 69, 70, 71, 72, 73] (by decide +kernel) (by decide +kernel)
set_option maxRecDepth 20000 in
theorem gX3_take_X0_countPut : GoodIn wsX3_take (wsV RX3 128 RX0 yX0_countPut wsX0_countPut) := goodIn_app (goodIn_of _ (by decide +kernel)) ggX3_take_X0_countPut
set_option maxRecDepth 20000 in
theorem ggX3_putAll_X3_record : GoodIn wsX3_putAll wsX3_record := goodIn_r _ [8, 9, 10, 1, 11, 12, 13, 7, 14, 15, 16, 17, 18, 19, 20, 21, 22, 23, 24, 25, 26, 27, 28, 29, 30, 31, 32, 33, 34, 35, 36, 37, 38, 39, 40, 41, 42, 43, 135, 136, 137, 138, 139, 140, 141, 142, 143, 144, 145, 146, 147, 148, 149, 150, 151, 152, 153, 154, 155] (by decide +kernel) (by decide +kernel)
set_option maxRecDepth 20000 in
theorem gX3_putAll_X3_record : GoodIn wsX3_putAll (wsV RX3 46 RX3 yX3_record wsX3_record) := goodIn_app (goodIn_of _ (by decide +kernel)) ggX3_putAll_X3_record
set_option maxRecDepth 20000 in
theorem ggX3_putAll_X0_takeAllWords : GoodIn wsX3_putAll wsX0_takeAllWords := goodIn_r _ [47, 20, 21, 48, 140, 141, 142, 143, 144, 145, 146, 147, 148, 149, 150, 151, 152, 153, 154, 155] (by decide +kernel) (by decide +kernel)
set_option maxRecDepth 20000 in
theorem gX3_putAll_X0_takeAllWords : GoodIn wsX3_putAll (wsV RX3 132 RX0 yX0_takeAllWords wsX0_takeAllWords) := goodIn_app (goodIn_of _ (by decide +kernel)) ggX3_putAll_X0_takeAllWords
set_option maxRecDepth 20000 in
theorem ggX3_putAll_X0_sortForPutting : GoodIn wsX3_putAll wsX0_sortForPutting := goodIn_r _ [52, 20, 21, 53, 54, 55, 18, 56, 57, 58, 140, 141, 142, 143, 144, 145, 146, 147, 148, 149, 150, 151, 152, 153, 154, 155] (by decide +kernel) (by decide +kernel)
set_option maxRecDepth 20000 in
theorem gX3_putAll_X0_sortForPutting : GoodIn wsX3_putAll (wsV RX3 135 RX0 yX0_sortForPutting wsX0_sortForPutting) := goodIn_app (goodIn_of _ (by decide +kernel)) ggX3_putAll_X0_sortForPutting
set_option maxRecDepth 20000 in
theorem ggX3_putAll_X0_putAtFirstPlace : GoodIn wsX3_putAll wsX0_putAtFirstPlace := goodIn_r _ [62, 21, 57, 63, 64, 65, 32, 66, 36, 67, 68, 69, 18, 70, 71, 20, 29, 30, 31, 33, 34, 35, 24, 25, 26, 37, 38, 39, 40, 41, 42, 43, 72, 73, 74, 75, 76, 77, 78, 79, 48, 80, 81, 82, 83, 84, 85, 86, 87, 88, 89, 90, 91, 92, 93, 94, 95, 96, 27, 22, 97, 98, 99, 100, 101, 102, 103, 104, 105, 106, 107, 108, 109, 110, 111, 112, 28, 113, 114, 115, 116, 117, 58, 118, 119, 120, 121, 122, 123, 124, 125, 126, 127, 128, 129, 130, 140, 141, 142, 143, 144, 145, 146, 147, 148, 149, 150, 151, 152, 153, 154, 155] (by decide +kernel) (by decide +kernel)
set_option maxRecDepth 20000 in
theorem gX3_putAll_X0_putAtFirstPlace : GoodIn wsX3_putAll (wsV RX3 141 RX0 yX0_putAtFirstPlace wsX0_putAtFirstPlace) := goodIn_app (goodIn_of _ (by decide +kernel)) ggX3_putAll_X0_putAtFirstPlace
set_option maxRecDepth 20000 in
theorem ggX3_putAll_X0_countPut : GoodIn wsX3_putAll wsX0_countPut := goodIn_r _ [134, 20, 21, 48, 140, 141, 142, 143, 144, 145, 146, 147, 148, 149, 150, 151, 152, 153, 154, 155] (by decide +kernel) (by decide +kernel)
set_option maxRecDepth 20000 in
theorem gX3_putAll_X0_countPut : GoodIn wsX3_putAll (wsV RX3 128 RX0 yX0_countPut wsX0_countPut) := goodIn_app (goodIn_of _ (by decide +kernel)) ggX3_putAll_X0_countPut
set_option maxRecDepth 20000 in
theorem ggX3_undo_X0_copyFrom : GoodIn wsX3_undo wsX0_copyFrom := goodIn_r _ [8, 9, 10, 11, 12, 13, 14, 15, 16, 17, 18, 19, 20, 21, 22, 23, 24, 25, 26, 27, 28, 29, 30, 31, 32, 38, 39, 40, 41, 42, 43, 44, 45, 46, 47, 48, 49, 50, 51, 52, 53] (by decide +kernel) (by decide +kernel)
set_option maxRecDepth 20000 in
theorem gX3_undo_X0_copyFrom : GoodIn wsX3_undo (wsV RX3 107 RX0 yX0_copyFrom wsX0_copyFrom) := goodIn_app (goodIn_of _ (by decide +kernel)) ggX3_undo_X0_copyFrom
set_option maxRecDepth 20000 in
theorem ggX3_count_X0_countPut : GoodIn wsX3_count wsX0_countPut := goodIn_r _ [12, 13, 14, 15, 93, 94, 95, 96, 97, 98, 99, 105, 106, 107, 108, 109, 110, 111, 112, 113] (by decide +kernel) (by decide +kernel)
set_option maxRecDepth 20000 in
theorem gX3_count_X0_countPut : GoodIn wsX3_count (wsV RX3 128 RX0 yX0_countPut wsX0_countPut) := goodIn_app (goodIn_of _ (by decide +kernel)) ggX3_count_X0_countPut
set_option maxRecDepth 20000 in
theorem ggX3_count_X0_countMeetingPairs : GoodIn wsX3_count wsX0_countMeetingPairs := goodIn_r _ [19, 13, 14, 20, 21, 22, 11, 23, 15, 24, 25, 26, 27, 28, 29, 30, 31, 32, 33, 34, 35, 36, 37, 38, 39, 40, 41, 42, 43, 44, 45, 46, 47, 48, 49, 50, 51, 52, 53, 54, 55, 56, 57, 58, 59, 60, 61, 62, 63, 64, 65, 66, 67, 68, 69, 70, 71, 72, 73, 74, 75, 76, 77, 78, 79, 80, 81, 82, 83, 84, 85, 86, 87, 93, 94, 95, 96, 97, 98, 99, 105, 106, 107, 108, 109, 110, 111, 112, 113] (by decide +kernel) (by decide +kernel)
set_option maxRecDepth 20000 in
theorem gX3_count_X0_countMeetingPairs : GoodIn wsX3_count (wsV RX3 144 RX0 yX0_countMeetingPairs wsX0_countMeetingPairs) := goodIn_app (goodIn_of _ (by decide +kernel)) ggX3_count_X0_countMeetingPairs
set_option maxRecDepth 20000 in
theorem ggX3_word_X0_hasWord : GoodIn wsX3_word wsX0_hasWord := goodIn_r _ [11, 12, 64, 65, 66, 67, 68, 69, 70] (by decide +kernel) (by decide +kernel)
set_option maxRecDepth 20000 in
theorem gX3_word_X0_hasWord : GoodIn wsX3_word (wsV RX3 56 RX0 yX0_hasWord wsX0_hasWord) := goodIn_app (goodIn_of _ (by decide +kernel)) ggX3_word_X0_hasWord
set_option maxRecDepth 20000 in
theorem ggX3_word_X3_isBetween : GoodIn wsX3_word wsX3_isBetween := goodIn_r _ [16] (by decide +kernel) (by decide +kernel)
set_option maxRecDepth 20000 in
theorem gX3_word_X3_isBetween : GoodIn wsX3_word (va_wsS RX3 34 yX3_isBetween wsX3_isBetween) := goodIn_app (goodIn_of _ (by decide +kernel)) ggX3_word_X3_isBetween
set_option maxRecDepth 20000 in
theorem ggX3_word_X2_property : GoodIn wsX3_word wsX2_property := goodIn_r _ [21, 22, 23, 24, 25, 71, 72, 73, 74, 75, 76, 77, 78, 79] (by decide +kernel) (by decide +kernel)
set_option maxRecDepth 20000 in
theorem gX3_word_X2_property : GoodIn wsX3_word (wsV RX3 68 RX2 yX2_property wsX2_property) := goodIn_app (goodIn_of _ (by decide +kernel)) ggX3_word_X2_property
set_option maxRecDepth 20000 in
theorem ggX3_word_X0_goneFrom : GoodIn wsX3_word wsX0_goneFrom := goodIn_r _ [29, 30, 31, 32, 33, 34, 35, 36, 37, 38, 39, 40, 20, 41, 22, 23, 24, 42, 43, 44, 10, 45, 46, 47, 48, 49, 25, 50, 51, 52, 53, 54, 55, 56, 57, 58, 71, 72, 73, 74, 75, 76, 77, 78, 79, 64, 65, 66, 67, 68, 69, 70] (by decide +kernel) (by decide +kernel)
set_option maxRecDepth 20000 in
theorem gX3_word_X0_goneFrom : GoodIn wsX3_word (wsV RX3 154 RX0 yX0_goneFrom wsX0_goneFrom) := goodIn_app (goodIn_of _ (by decide +kernel)) ggX3_word_X0_goneFrom
set_option maxRecDepth 20000 in
theorem ggX3_letter_X0_hasWord : GoodIn wsX3_letter wsX0_hasWord := goodIn_r _ [9, 10, 16, 17, 18, 19, 20, 21, 22] (by decide +kernel) (by decide +kernel)
set_option maxRecDepth 20000 in
theorem gX3_letter_X0_hasWord : GoodIn wsX3_letter (wsV RX3 56 RX0 yX0_hasWord wsX0_hasWord) := goodIn_app (goodIn_of _ (by decide +kernel)) ggX3_letter_X0_hasWord
set_option maxRecDepth 20000 in
theorem ggX3_where_X0_hasWord : GoodIn wsX3_where wsX0_hasWord := goodIn_r _ [7, 8, 78, 79, 80, 81, 82, 83, 84] (by decide +kernel) (by decide +kernel)
set_option maxRecDepth 20000 in
theorem gX3_where_X0_hasWord : GoodIn wsX3_where (wsV RX3 56 RX0 yX0_hasWord wsX0_hasWord) := goodIn_app (goodIn_of _ (by decide +kernel)) ggX3_where_X0_hasWord
set_option maxRecDepth 20000 in
theorem ggX3_where_X3_isAskedFrame : GoodIn wsX3_where wsX3_isAskedFrame := goodIn_r _ [12, 13, 14, 11, 15] (by decide +kernel) (by decide +kernel)
set_option maxRecDepth 20000 in
theorem gX3_where_X3_isAskedFrame : GoodIn wsX3_where (va_wsS RX3 164 yX3_isAskedFrame wsX3_isAskedFrame) := goodIn_app (goodIn_of _ (by decide +kernel)) ggX3_where_X3_isAskedFrame
set_option maxRecDepth 20000 in
theorem ggX3_where_X3_isBetween : GoodIn wsX3_where wsX3_isBetween := goodIn_r _ [15] (by decide +kernel) (by decide +kernel)
set_option maxRecDepth 20000 in
theorem gX3_where_X3_isBetween : GoodIn wsX3_where (va_wsS RX3 34 yX3_isBetween wsX3_isBetween) := goodIn_app (goodIn_of _ (by decide +kernel)) ggX3_where_X3_isBetween
set_option maxRecDepth 20000 in
theorem ggX3_where_X0_isVisible : GoodIn wsX3_where wsX0_isVisible := goodIn_r _ [19, 20, 21, 22, 23, 24, 6, 25, 26, 27, 28, 29, 30, 31, 32, 33, 34, 35, 36, 37, 38, 39, 40, 41, 42, 43, 44, 45, 46, 47, 48, 49, 50, 51, 52, 53, 54, 55, 56, 57, 58, 85, 86, 87, 88, 89, 90, 91, 92, 93, 78, 79, 80, 81, 82, 83, 84] (by decide +kernel) (by decide +kernel)
set_option maxRecDepth 20000 in
theorem gX3_where_X0_isVisible : GoodIn wsX3_where (wsV RX3 167 RX0 yX0_isVisible wsX0_isVisible) := goodIn_app (goodIn_of _ (by decide +kernel)) ggX3_where_X0_isVisible
set_option maxRecDepth 20000 in
theorem ggX3_where_X0_rowOf : GoodIn wsX3_where wsX0_rowOf := goodIn_r _ [62, 26, 63, 64, 65, 66, 36, 67, 38, 39, 40, 53, 54, 55, 6, 56, 57, 58, 85, 86, 87, 88, 89, 90, 91, 92, 93, 78, 79, 80, 81, 82, 83, 84] (by decide +kernel) (by decide +kernel)
set_option maxRecDepth 20000 in
theorem gX3_where_X0_rowOf : GoodIn wsX3_where (wsV RX3 171 RX0 yX0_rowOf wsX0_rowOf) := goodIn_app (goodIn_of _ (by decide +kernel)) ggX3_where_X0_rowOf
set_option maxRecDepth 20000 in
theorem ggX3_where_X0_columnOf : GoodIn wsX3_where wsX0_columnOf := goodIn_r _ [71, 26, 72, 64, 65, 66, 36, 67, 38, 39, 40, 53, 54, 55, 6, 56, 57, 58, 85, 86, 87, 88, 89, 90, 91, 92, 93, 78, 79, 80, 81, 82, 83, 84] (by decide +kernel) (by decide +kernel)
set_option maxRecDepth 20000 in
theorem gX3_where_X0_columnOf : GoodIn wsX3_where (wsV RX3 175 RX0 yX0_columnOf wsX0_columnOf) := goodIn_app (goodIn_of _ (by decide +kernel)) ggX3_where_X0_columnOf
set_option maxRecDepth 20000 in
theorem ggX3_written_X3_isBetween : GoodIn wsX3_written wsX3_isBetween := goodIn_r _ [5] (by decide +kernel) (by decide +kernel)
set_option maxRecDepth 20000 in
theorem gX3_written_X3_isBetween : GoodIn wsX3_written (va_wsS RX3 34 yX3_isBetween wsX3_isBetween) := goodIn_app (goodIn_of _ (by decide +kernel)) ggX3_written_X3_isBetween
set_option maxRecDepth 20000 in
theorem ggX3_written_X3_isAskedFrame : GoodIn wsX3_written wsX3_isAskedFrame := goodIn_r _ [8, 2, 3, 4, 5] (by decide +kernel) (by decide +kernel)
set_option maxRecDepth 20000 in
theorem gX3_written_X3_isAskedFrame : GoodIn wsX3_written (va_wsS RX3 164 yX3_isAskedFrame wsX3_isAskedFrame) := goodIn_app (goodIn_of _ (by decide +kernel)) ggX3_written_X3_isAskedFrame
set_option maxRecDepth 20000 in
theorem ggX3_written_X0_characterIn : GoodIn wsX3_written wsX0_characterIn := goodIn_r _ [13, 14, 15, 16, 17, 18, 19, 20, 12, 21, 22, 23, 24, 25, 26, 27, 28, 29, 30, 31, 32, 33, 34, 35, 36, 37, 38, 39, 40, 41, 42, 43, 44, 45, 46, 47, 48, 49, 50, 51, 52, 53, 54, 55, 56, 57, 58, 59, 60, 61, 62, 63, 64, 65, 66, 67, 68, 69, 70, 71, 72, 73, 74, 80, 81, 82, 83, 84, 85, 86, 87, 88, 89, 90, 91, 92, 93, 94, 95] (by decide +kernel) (by decide +kernel)
set_option maxRecDepth 20000 in
theorem gX3_written_X0_characterIn : GoodIn wsX3_written (wsV RX3 178 RX0 yX0_characterIn wsX0_characterIn) := goodIn_app (goodIn_of _ (by decide +kernel)) ggX3_written_X0_characterIn
set_option maxRecDepth 20000 in
theorem ggX3_onScreen_X3_isAskedFrame : GoodIn wsX3_onScreen wsX3_isAskedFrame := goodIn_r _ [5, 6, 7, 4, 8] (by decide +kernel) (by decide +kernel)
set_option maxRecDepth 20000 in
theorem gX3_onScreen_X3_isAskedFrame : GoodIn wsX3_onScreen (va_wsS RX3 164 yX3_isAskedFrame wsX3_isAskedFrame) := goodIn_app (goodIn_of _ (by decide +kernel)) ggX3_onScreen_X3_isAskedFrame
set_option maxRecDepth 20000 in
theorem ggX3_onScreen_X0_visibleSet : GoodIn wsX3_onScreen wsX0_visibleSet := goodIn_r _ [13, 14, 15, 16, 17, 18, 12, 19, 20, 21, 22, 23, 24, 25, 26, 27, 28, 29, 30, 31, 32, 33, 34, 35, 36, 37, 38, 39, 40, 41, 42, 43, 44, 45, 46, 47, 48, 49, 50, 51, 52, 53, 54, 55, 56, 57, 58, 64, 65, 66, 67, 68, 69, 70, 71, 72, 73, 74, 75, 76, 77, 78, 79] (by decide +kernel) (by decide +kernel)
set_option maxRecDepth 20000 in
theorem gX3_onScreen_X0_visibleSet : GoodIn wsX3_onScreen (wsV RX3 182 RX0 yX0_visibleSet wsX0_visibleSet) := goodIn_app (goodIn_of _ (by decide +kernel)) ggX3_onScreen_X0_visibleSet
set_option maxRecDepth 20000 in
theorem ggX3_meeting_X0_hasWord : GoodIn wsX3_meeting wsX0_hasWord := goodIn_r _ [7, 8, 83, 84, 85, 86, 87, 88, 89] (by decide +kernel) (by decide +kernel)
set_option maxRecDepth 20000 in
theorem gX3_meeting_X0_hasWord : GoodIn wsX3_meeting (wsV RX3 56 RX0 yX0_hasWord wsX0_hasWord) := goodIn_app (goodIn_of _ (by decide +kernel)) ggX3_meeting_X0_hasWord
set_option maxRecDepth 20000 in
theorem ggX3_meeting_X0_firstMeeting : GoodIn wsX3_meeting wsX0_firstMeeting := goodIn_r _ [12, 13, 14, 15, 16, 17, 18, 19, 20, 21, 22, 23, 24, 25, 26, 27, 28, 29, 30, 31, 6, 32, 33, 34, 35, 36, 37, 38, 39, 40, 41, 42, 43, 44, 45, 46, 47, 48, 49, 50, 51, 52, 53, 54, 55, 56, 57, 58, 59, 60, 61, 62, 63, 64, 65, 66, 67, 68, 69, 70, 71, 72, 73, 74, 75, 76, 77, 90, 91, 92, 93, 94, 95, 96, 97, 98, 83, 84, 85, 86, 87, 88, 89] (by decide +kernel) (by decide +kernel)
set_option maxRecDepth 20000 in
theorem gX3_meeting_X0_firstMeeting : GoodIn wsX3_meeting (wsV RX3 185 RX0 yX0_firstMeeting wsX0_firstMeeting) := goodIn_app (goodIn_of _ (by decide +kernel)) ggX3_meeting_X0_firstMeeting
set_option maxRecDepth 20000 in
theorem ggX3_pace_X3_isAskedFrame : GoodIn wsX3_pace wsX3_isAskedFrame := goodIn_r _ [5, 6, 7, 4, 8] (by decide +kernel) (by decide +kernel)
set_option maxRecDepth 20000 in
theorem gX3_pace_X3_isAskedFrame : GoodIn wsX3_pace (va_wsS RX3 164 yX3_isAskedFrame wsX3_isAskedFrame) := goodIn_app (goodIn_of _ (by decide +kernel)) ggX3_pace_X3_isAskedFrame
set_option maxRecDepth 20000 in
theorem ggX3_pace_X0_readingPace : GoodIn wsX3_pace wsX0_readingPace := goodIn_r _ [13, 14, 15, 16, 17, 18, 19, 25, 26, 27, 28, 29, 30, 31, 32, 33, 34, 35, 36, 37, 38, 39, 40] (by decide +kernel) (by decide +kernel)
set_option maxRecDepth 20000 in
theorem gX3_pace_X0_readingPace : GoodIn wsX3_pace (wsV RX3 189 RX0 yX0_readingPace wsX0_readingPace) := goodIn_app (goodIn_of _ (by decide +kernel)) ggX3_pace_X0_readingPace
set_option maxRecDepth 20000 in
theorem ggX3_earliest_X3_isPossiblePlace : GoodIn wsX3_earliest wsX3_isPossiblePlace := goodIn_r _ [8, 1, 2, 9, 10, 11, 12, 13, 14, 15, 16, 7, 17, 18, 19, 20, 21, 22, 23, 111, 112, 113, 114, 115, 116, 117, 118, 119, 120, 121, 122, 123, 124, 125, 126, 127, 128, 129, 130, 131] (by decide +kernel) (by decide +kernel)
set_option maxRecDepth 20000 in
theorem gX3_earliest_X3_isPossiblePlace : GoodIn wsX3_earliest (wsV RX3 115 RX3 yX3_isPossiblePlace wsX3_isPossiblePlace) := goodIn_app (goodIn_of _ (by decide +kernel)) ggX3_earliest_X3_isPossiblePlace
set_option maxRecDepth 20000 in
theorem ggX3_earliest_X0_isFree : GoodIn wsX3_earliest wsX0_isFree := goodIn_r _ [27, 28, 29, 30, 14, 31, 32, 33, 21, 34, 35, 36, 37, 38, 39, 23, 40, 41, 42, 43, 44, 45, 46, 47, 48, 49, 50, 51, 52, 53, 12, 54, 55, 56, 57, 58, 59, 60, 61, 62, 63, 64, 65, 66, 67, 68, 69, 70, 71, 72, 73, 74, 75, 76, 77, 78, 79, 80, 81, 82, 83, 84, 85, 86, 87, 88, 89, 90, 91, 92, 93, 94, 95, 96, 97, 98, 99, 100, 101, 102, 103, 104, 105, 106, 107, 108, 109, 110, 116, 117, 118, 119, 120, 121, 122, 123, 124, 125, 126, 127, 128, 129, 130, 131] (by decide +kernel) (by decide +kernel)
set_option maxRecDepth 20000 in
theorem gX3_earliest_X0_isFree : GoodIn wsX3_earliest (wsV RX3 121 RX0 yX0_isFree wsX0_isFree) := goodIn_app (goodIn_of _ (by decide +kernel)) ggX3_earliest_X0_isFree
set_option maxRecDepth 20000 in
theorem ggX3_filled_X3_isAskedFrame : GoodIn wsX3_filled wsX3_isAskedFrame := goodIn_r _ [5, 6, 7, 4, 8] (by decide +kernel) (by decide +kernel)
set_option maxRecDepth 20000 in
theorem gX3_filled_X3_isAskedFrame : GoodIn wsX3_filled (va_wsS RX3 164 yX3_isAskedFrame wsX3_isAskedFrame) := goodIn_app (goodIn_of _ (by decide +kernel)) ggX3_filled_X3_isAskedFrame
set_option maxRecDepth 20000 in
theorem ggX3_filled_X0_cellsInRow : GoodIn wsX3_filled wsX0_cellsInRow := goodIn_r _ [13, 14, 15, 16, 17, 18, 19, 20, 21, 22, 23, 24, 25, 26, 12, 27, 28, 29, 30, 31, 32, 33, 34, 35, 36, 37, 38, 39, 40, 41, 42, 43, 44, 45, 46, 47, 48, 49, 50, 51, 52, 53, 54, 55, 56, 57, 58, 59, 60, 61, 62, 63, 64, 65, 66, 67, 68, 69, 70, 71, 72, 73, 74, 75, 76, 89, 90, 91, 92, 93, 94, 95, 96, 97, 98, 99, 100, 101, 102, 103, 104] (by decide +kernel) (by decide +kernel)
set_option maxRecDepth 20000 in
theorem gX3_filled_X0_cellsInRow : GoodIn wsX3_filled (wsV RX3 192 RX0 yX0_cellsInRow wsX0_cellsInRow) := goodIn_app (goodIn_of _ (by decide +kernel)) ggX3_filled_X0_cellsInRow
set_option maxRecDepth 20000 in
theorem ggX3_filled_J13_bitCount_95d88 : GoodIn wsX3_filled wsJ13_bitCount_95d88 := goodIn_r _ [80, 81, 82, 83] (by decide +kernel) (by decide +kernel)
set_option maxRecDepth 20000 in
theorem gX3_filled_J13_bitCount_95d88 : GoodIn wsX3_filled (va_wsS RX3 196 yJ13_bitCount_95d88 wsJ13_bitCount_95d88) := goodIn_app (goodIn_of _ (by decide +kernel)) ggX3_filled_J13_bitCount_95d88
set_option maxRecDepth 20000 in
theorem ggX3_record_X3_dropOldestState : GoodIn wsX3_record wsX3_dropOldestState := goodIn_r _ [8, 2, 1, 38, 39, 40, 41, 42] (by decide +kernel) (by decide +kernel)
set_option maxRecDepth 20000 in
theorem gX3_record_X3_dropOldestState : GoodIn wsX3_record (wsV RX3 202 RX3 yX3_dropOldestState wsX3_dropOldestState) := goodIn_app (goodIn_of _ (by decide +kernel)) ggX3_record_X3_dropOldestState
set_option maxRecDepth 20000 in
theorem ggX3_record_X0_copyFrom : GoodIn wsX3_record wsX0_copyFrom := goodIn_r _ [13, 14, 15, 16, 17, 18, 19, 20, 21, 22, 23, 24, 25, 26, 27, 28, 29, 30, 31, 32, 33, 34, 35, 36, 37, 43, 44, 45, 46, 47, 48, 49, 50, 51, 52, 53, 54, 55, 56, 57, 58] (by decide +kernel) (by decide +kernel)
set_option maxRecDepth 20000 in
theorem gX3_record_X0_copyFrom : GoodIn wsX3_record (wsV RX3 107 RX0 yX0_copyFrom wsX0_copyFrom) := goodIn_app (goodIn_of _ (by decide +kernel)) ggX3_record_X0_copyFrom
set_option maxRecDepth 20000 in
theorem ggX3_isPossiblePlace_X0_hasWord : GoodIn wsX3_isPossiblePlace wsX0_hasWord := goodIn_r _ [7, 8, 24, 25, 26, 27, 28, 29, 30] (by decide +kernel) (by decide +kernel)
set_option maxRecDepth 20000 in
theorem gX3_isPossiblePlace_X0_hasWord : GoodIn wsX3_isPossiblePlace (wsV RX3 56 RX0 yX0_hasWord wsX0_hasWord) := goodIn_app (goodIn_of _ (by decide +kernel)) ggX3_isPossiblePlace_X0_hasWord
set_option maxRecDepth 20000 in
theorem ggX3_isPossiblePlace_X3_isBetween : GoodIn wsX3_isPossiblePlace wsX3_isBetween := goodIn_r _ [12] (by decide +kernel) (by decide +kernel)
set_option maxRecDepth 20000 in
theorem gX3_isPossiblePlace_X3_isBetween : GoodIn wsX3_isPossiblePlace (va_wsS RX3 34 yX3_isBetween wsX3_isBetween) := goodIn_app (goodIn_of _ (by decide +kernel)) ggX3_isPossiblePlace_X3_isBetween
set_option maxRecDepth 20000 in
theorem ggX3_isPossiblePlace_X2_lastColumn : GoodIn wsX3_isPossiblePlace wsX2_lastColumn := goodIn_r _ [17, 18, 31, 32, 33, 34, 35, 36, 37, 38, 39] (by decide +kernel) (by decide +kernel)
set_option maxRecDepth 20000 in
theorem gX3_isPossiblePlace_X2_lastColumn : GoodIn wsX3_isPossiblePlace (wsV RX3 205 RX2 yX2_lastColumn wsX2_lastColumn) := goodIn_app (goodIn_of _ (by decide +kernel)) ggX3_isPossiblePlace_X2_lastColumn
set_option maxRecDepth 20000 in
theorem ggX3_isAskedFrame_X3_isBetween : GoodIn wsX3_isAskedFrame wsX3_isBetween := goodIn_r _ [4] (by decide +kernel) (by decide +kernel)
set_option maxRecDepth 20000 in
theorem gX3_isAskedFrame_X3_isBetween : GoodIn wsX3_isAskedFrame (va_wsS RX3 34 yX3_isBetween wsX3_isBetween) := goodIn_app (goodIn_of _ (by decide +kernel)) ggX3_isAskedFrame_X3_isBetween
set_option maxRecDepth 20000 in
theorem ggX3_isAllowed_X3_isBetween : GoodIn wsX3_isAllowed wsX3_isBetween := goodIn_r _ [4] (by decide +kernel) (by decide +kernel)
set_option maxRecDepth 20000 in
theorem gX3_isAllowed_X3_isBetween : GoodIn wsX3_isAllowed (va_wsS RX3 34 yX3_isBetween wsX3_isBetween) := goodIn_app (goodIn_of _ (by decide +kernel)) ggX3_isAllowed_X3_isBetween
end
section
set_option maxRecDepth 20000 in
theorem ggX4_isWord_X4_in : GoodIn wsX4_isWord wsX4_in := goodIn_r _ [5] (by decide +kernel) (by decide +kernel)
set_option maxRecDepth 20000 in
theorem gX4_isWord_X4_in : GoodIn wsX4_isWord (va_wsS RX4 33 yX4_in wsX4_in) := goodIn_app (goodIn_of _ (by decide +kernel)) ggX4_isWord_X4_in
set_option maxRecDepth 20000 in
theorem ggX4_isPut_X4_of : GoodIn wsX4_isPut wsX4_of := goodIn_r _ [5, 6, 7, 8, 9, 10, 11, 12, 13, 14, 15, 16, 17, 18, 19] (by decide +kernel) (by decide +kernel)
set_option maxRecDepth 20000 in
theorem gX4_isPut_X4_of : GoodIn wsX4_isPut (wsV RX4 37 RX4 yX4_of wsX4_of) := goodIn_app (goodIn_of _ (by decide +kernel)) ggX4_isPut_X4_of
set_option maxRecDepth 20000 in
theorem ggX4_putMany_X4_isPut : GoodIn wsX4_putMany wsX4_isPut := goodIn_r _ [6, 7, 8, 9, 5, 10, 1, 11, 12, 13, 14, 15, 16, 17, 18, 19, 20, 21, 22, 23] (by decide +kernel) (by decide +kernel)
set_option maxRecDepth 20000 in
theorem gX4_putMany_X4_isPut : GoodIn wsX4_putMany (wsV RX4 41 RX4 yX4_isPut wsX4_isPut) := goodIn_app (goodIn_of _ (by decide +kernel)) ggX4_putMany_X4_isPut
set_option maxRecDepth 20000 in
theorem ggX4_behind_X4_of : GoodIn wsX4_behind wsX4_of := goodIn_r _ [5, 6, 7, 8, 9, 10, 11, 12, 13, 14, 15, 16, 17, 18, 19] (by decide +kernel) (by decide +kernel)
set_option maxRecDepth 20000 in
theorem gX4_behind_X4_of : GoodIn wsX4_behind (wsV RX4 37 RX4 yX4_of wsX4_of) := goodIn_app (goodIn_of _ (by decide +kernel)) ggX4_behind_X4_of
set_option maxRecDepth 20000 in
theorem ggX4_cut_X4_of : GoodIn wsX4_cut wsX4_of := goodIn_r _ [6, 1, 7, 8, 9, 10, 11, 12, 13, 14, 15, 16, 17, 18, 19] (by decide +kernel) (by decide +kernel)
set_option maxRecDepth 20000 in
theorem gX4_cut_X4_of : GoodIn wsX4_cut (wsV RX4 37 RX4 yX4_of wsX4_of) := goodIn_app (goodIn_of _ (by decide +kernel)) ggX4_cut_X4_of
set_option maxRecDepth 20000 in
theorem ggX4_moved_X4_behind : GoodIn wsX4_moved wsX4_behind := goodIn_r _ [7, 8, 9, 10, 6, 11, 1, 12, 13, 14, 15, 16, 17, 18, 19, 20, 21, 22, 23, 24] (by decide +kernel) (by decide +kernel)
set_option maxRecDepth 20000 in
theorem gX4_moved_X4_behind : GoodIn wsX4_moved (wsV RX4 45 RX4 yX4_behind wsX4_behind) := goodIn_app (goodIn_of _ (by decide +kernel)) ggX4_moved_X4_behind
set_option maxRecDepth 20000 in
theorem ggX4_rowAt_X4_of : GoodIn wsX4_rowAt wsX4_of := goodIn_r _ [5, 6, 16, 17, 18, 19, 20, 21, 22, 23, 24, 25, 26, 27, 28] (by decide +kernel) (by decide +kernel)
set_option maxRecDepth 20000 in
theorem gX4_rowAt_X4_of : GoodIn wsX4_rowAt (wsV RX4 37 RX4 yX4_of wsX4_of) := goodIn_app (goodIn_of _ (by decide +kernel)) ggX4_rowAt_X4_of
set_option maxRecDepth 20000 in
theorem ggX4_rowAt_X4_moved : GoodIn wsX4_rowAt wsX4_moved := goodIn_r _ [10, 6, 11, 12, 13, 14, 4, 15, 1, 2, 3, 5, 16, 17, 18, 19, 20, 21, 22, 23, 24, 25, 26, 27, 28] (by decide +kernel) (by decide +kernel)
set_option maxRecDepth 20000 in
theorem gX4_rowAt_X4_moved : GoodIn wsX4_rowAt (wsV RX4 50 RX4 yX4_moved wsX4_moved) := goodIn_app (goodIn_of _ (by decide +kernel)) ggX4_rowAt_X4_moved
set_option maxRecDepth 20000 in
theorem ggX4_columnAt_X4_of : GoodIn wsX4_columnAt wsX4_of := goodIn_r _ [5, 6, 16, 17, 18, 19, 20, 21, 22, 23, 24, 25, 26, 27, 28] (by decide +kernel) (by decide +kernel)
set_option maxRecDepth 20000 in
theorem gX4_columnAt_X4_of : GoodIn wsX4_columnAt (wsV RX4 37 RX4 yX4_of wsX4_of) := goodIn_app (goodIn_of _ (by decide +kernel)) ggX4_columnAt_X4_of
set_option maxRecDepth 20000 in
theorem ggX4_columnAt_X4_moved : GoodIn wsX4_columnAt wsX4_moved := goodIn_r _ [10, 6, 11, 12, 13, 14, 4, 15, 1, 2, 3, 5, 16, 17, 18, 19, 20, 21, 22, 23, 24, 25, 26, 27, 28] (by decide +kernel) (by decide +kernel)
set_option maxRecDepth 20000 in
theorem gX4_columnAt_X4_moved : GoodIn wsX4_columnAt (wsV RX4 50 RX4 yX4_moved wsX4_moved) := goodIn_app (goodIn_of _ (by decide +kernel)) ggX4_columnAt_X4_moved
set_option maxRecDepth 20000 in
theorem ggX4_isOn_X4_isPut : GoodIn wsX4_isOn wsX4_isPut := goodIn_r _ [6, 7, 8, 9, 5, 10, 11, 36, 37, 38, 39, 40, 41, 42, 43, 44, 45, 46, 47, 48] (by decide +kernel) (by decide +kernel)
set_option maxRecDepth 20000 in
theorem gX4_isOn_X4_isPut : GoodIn wsX4_isOn (wsV RX4 41 RX4 yX4_isPut wsX4_isPut) := goodIn_app (goodIn_of _ (by decide +kernel)) ggX4_isOn_X4_isPut
set_option maxRecDepth 20000 in
theorem ggX4_isOn_X4_of : GoodIn wsX4_isOn wsX4_of := goodIn_r _ [10, 11, 36, 37, 38, 39, 40, 41, 42, 43, 44, 45, 46, 47, 48] (by decide +kernel) (by decide +kernel)
set_option maxRecDepth 20000 in
theorem gX4_isOn_X4_of : GoodIn wsX4_isOn (wsV RX4 37 RX4 yX4_of wsX4_of) := goodIn_app (goodIn_of _ (by decide +kernel)) ggX4_isOn_X4_of
set_option maxRecDepth 20000 in
theorem ggX4_isOn_X4_cut : GoodIn wsX4_isOn wsX4_cut := goodIn_r _ [15, 11, 7, 8, 9, 5, 10, 36, 37, 38, 39, 40, 41, 42, 43, 44, 45, 46, 47, 48] (by decide +kernel) (by decide +kernel)
set_option maxRecDepth 20000 in
theorem gX4_isOn_X4_cut : GoodIn wsX4_isOn (wsV RX4 53 RX4 yX4_cut wsX4_cut) := goodIn_app (goodIn_of _ (by decide +kernel)) ggX4_isOn_X4_cut
set_option maxRecDepth 20000 in
theorem ggX4_isOn_X4_behind : GoodIn wsX4_isOn wsX4_behind := goodIn_r _ [19, 7, 8, 9, 5, 10, 11, 36, 37, 38, 39, 40, 41, 42, 43, 44, 45, 46, 47, 48] (by decide +kernel) (by decide +kernel)
set_option maxRecDepth 20000 in
theorem gX4_isOn_X4_behind : GoodIn wsX4_isOn (wsV RX4 45 RX4 yX4_behind wsX4_behind) := goodIn_app (goodIn_of _ (by decide +kernel)) ggX4_isOn_X4_behind
set_option maxRecDepth 20000 in
theorem ggX4_isOn_X4_columnAt : GoodIn wsX4_isOn wsX4_columnAt := goodIn_r _ [23, 7, 8, 9, 5, 10, 11, 24, 25, 26, 27, 28, 16, 17, 18, 19, 36, 37, 38, 39, 40, 41, 42, 43, 44, 45, 46, 47, 48] (by decide +kernel) (by decide +kernel)
set_option maxRecDepth 20000 in
theorem gX4_isOn_X4_columnAt : GoodIn wsX4_isOn (wsV RX4 56 RX4 yX4_columnAt wsX4_columnAt) := goodIn_app (goodIn_of _ (by decide +kernel)) ggX4_isOn_X4_columnAt
set_option maxRecDepth 20000 in
theorem ggX4_isOn_X4_rowAt : GoodIn wsX4_isOn wsX4_rowAt := goodIn_r _ [32, 7, 8, 9, 5, 10, 11, 24, 25, 26, 27, 28, 16, 17, 18, 19, 36, 37, 38, 39, 40, 41, 42, 43, 44, 45, 46, 47, 48] (by decide +kernel) (by decide +kernel)
set_option maxRecDepth 20000 in
theorem gX4_isOn_X4_rowAt : GoodIn wsX4_isOn (wsV RX4 59 RX4 yX4_rowAt wsX4_rowAt) := goodIn_app (goodIn_of _ (by decide +kernel)) ggX4_isOn_X4_rowAt
set_option maxRecDepth 20000 in
theorem ggX4_isOn_X4_in : GoodIn wsX4_isOn wsX4_in := goodIn_r _ [35] (by decide +kernel) (by decide +kernel)
set_option maxRecDepth 20000 in
theorem gX4_isOn_X4_in : GoodIn wsX4_isOn (va_wsS RX4 33 yX4_in wsX4_in) := goodIn_app (goodIn_of _ (by decide +kernel)) ggX4_isOn_X4_in
set_option maxRecDepth 20000 in
theorem ggX4_meetsAt_X4_isOn : GoodIn wsX4_meetsAt wsX4_isOn := goodIn_r _ [5, 6, 7, 8, 9, 4, 10, 11, 12, 13, 14, 15, 16, 17, 18, 19, 20, 21, 22, 23, 24, 25, 26, 27, 28, 29, 30, 31, 32, 33, 34, 35, 36, 37, 38, 39, 46, 47, 48, 49, 50, 51, 52, 53, 54, 55, 56, 57, 58] (by decide +kernel) (by decide +kernel)
set_option maxRecDepth 20000 in
theorem gX4_meetsAt_X4_isOn : GoodIn wsX4_meetsAt (wsV RX4 64 RX4 yX4_isOn wsX4_isOn) := goodIn_app (goodIn_of _ (by decide +kernel)) ggX4_meetsAt_X4_isOn
set_option maxRecDepth 20000 in
theorem ggX4_meetsAt_X4_rowAt : GoodIn wsX4_meetsAt wsX4_rowAt := goodIn_r _ [36, 11, 12, 13, 4, 14, 15, 28, 29, 30, 31, 32, 20, 21, 22, 23, 46, 47, 48, 49, 50, 51, 52, 53, 54, 55, 56, 57, 58] (by decide +kernel) (by decide +kernel)
set_option maxRecDepth 20000 in
theorem gX4_meetsAt_X4_rowAt : GoodIn wsX4_meetsAt (wsV RX4 59 RX4 yX4_rowAt wsX4_rowAt) := goodIn_app (goodIn_of _ (by decide +kernel)) ggX4_meetsAt_X4_rowAt
set_option maxRecDepth 20000 in
theorem ggX4_meetsAt_X4_columnAt : GoodIn wsX4_meetsAt wsX4_columnAt := goodIn_r _ [27, 11, 12, 13, 4, 14, 15, 28, 29, 30, 31, 32, 20, 21, 22, 23, 46, 47, 48, 49, 50, 51, 52, 53, 54, 55, 56, 57, 58] (by decide +kernel) (by decide +kernel)
set_option maxRecDepth 20000 in
theorem gX4_meetsAt_X4_columnAt : GoodIn wsX4_meetsAt (wsV RX4 56 RX4 yX4_columnAt wsX4_columnAt) := goodIn_app (goodIn_of _ (by decide +kernel)) ggX4_meetsAt_X4_columnAt
set_option maxRecDepth 20000 in
theorem ggX4_meetsAt_X4_more : GoodIn wsX4_meetsAt wsX4_more := goodIn_r _ [42] (by decide +kernel) (by decide +kernel)
set_option maxRecDepth 20000 in
theorem gX4_meetsAt_X4_more : GoodIn wsX4_meetsAt (va_wsS RX4 68 yX4_more wsX4_more) := goodIn_app (goodIn_of _ (by decide +kernel)) ggX4_meetsAt_X4_more
set_option maxRecDepth 20000 in
theorem ggX4_meetsAt_X4_of : GoodIn wsX4_meetsAt wsX4_of := goodIn_r _ [14, 15, 46, 47, 48, 49, 50, 51, 52, 53, 54, 55, 56, 57, 58] (by decide +kernel) (by decide +kernel)
set_option maxRecDepth 20000 in
theorem gX4_meetsAt_X4_of : GoodIn wsX4_meetsAt (wsV RX4 37 RX4 yX4_of wsX4_of) := goodIn_app (goodIn_of _ (by decide +kernel)) ggX4_meetsAt_X4_of
set_option maxRecDepth 20000 in
theorem ggX4_meetsAt_X4_less : GoodIn wsX4_meetsAt wsX4_less := goodIn_r _ [45] (by decide +kernel) (by decide +kernel)
set_option maxRecDepth 20000 in
theorem gX4_meetsAt_X4_less : GoodIn wsX4_meetsAt (va_wsS RX4 71 yX4_less wsX4_less) := goodIn_app (goodIn_of _ (by decide +kernel)) ggX4_meetsAt_X4_less
set_option maxRecDepth 20000 in
theorem ggX4_meetingOf_X4_of : GoodIn wsX4_meetingOf wsX4_of := goodIn_r _ [5, 6, 50, 51, 52, 53, 54, 55, 56, 57, 58, 59, 60, 61, 62] (by decide +kernel) (by decide +kernel)
set_option maxRecDepth 20000 in
theorem gX4_meetingOf_X4_of : GoodIn wsX4_meetingOf (wsV RX4 37 RX4 yX4_of wsX4_of) := goodIn_app (goodIn_of _ (by decide +kernel)) ggX4_meetingOf_X4_of
set_option maxRecDepth 20000 in
theorem ggX4_meetingOf_X4_more : GoodIn wsX4_meetingOf wsX4_more := goodIn_r _ [9] (by decide +kernel) (by decide +kernel)
set_option maxRecDepth 20000 in
theorem gX4_meetingOf_X4_more : GoodIn wsX4_meetingOf (va_wsS RX4 68 yX4_more wsX4_more) := goodIn_app (goodIn_of _ (by decide +kernel)) ggX4_meetingOf_X4_more
set_option maxRecDepth 20000 in
theorem ggX4_meetingOf_X4_isOn : GoodIn wsX4_meetingOf wsX4_isOn := goodIn_r _ [13, 14, 15, 16, 17, 4, 18, 1, 2, 3, 5, 6, 19, 20, 21, 22, 23, 24, 25, 26, 27, 28, 29, 30, 31, 32, 33, 34, 35, 36, 37, 38, 39, 40, 41, 42, 50, 51, 52, 53, 54, 55, 56, 57, 58, 59, 60, 61, 62] (by decide +kernel) (by decide +kernel)
set_option maxRecDepth 20000 in
theorem gX4_meetingOf_X4_isOn : GoodIn wsX4_meetingOf (wsV RX4 64 RX4 yX4_isOn wsX4_isOn) := goodIn_app (goodIn_of _ (by decide +kernel)) ggX4_meetingOf_X4_isOn
set_option maxRecDepth 20000 in
theorem ggX4_meetingOf_X4_meetsAt : GoodIn wsX4_meetingOf wsX4_meetsAt := goodIn_r _ [46, 10, 11, 12, 4, 13, 14, 15, 16, 17, 18, 1, 2, 3, 5, 6, 19, 20, 21, 22, 23, 24, 25, 26, 27, 28, 29, 30, 31, 32, 33, 34, 35, 36, 37, 38, 39, 40, 41, 42, 7, 8, 9, 47, 48, 49, 50, 51, 52, 53, 54, 55, 56, 57, 58, 59, 60, 61, 62] (by decide +kernel) (by decide +kernel)
set_option maxRecDepth 20000 in
theorem gX4_meetingOf_X4_meetsAt : GoodIn wsX4_meetingOf (wsV RX4 74 RX4 yX4_meetsAt wsX4_meetsAt) := goodIn_app (goodIn_of _ (by decide +kernel)) ggX4_meetingOf_X4_meetsAt
set_option maxRecDepth 20000 in
theorem ggX4_meetsAny_X4_isPut : GoodIn wsX4_meetsAny wsX4_isPut := goodIn_r _ [6, 7, 8, 9, 5, 10, 1, 54, 55, 56, 57, 58, 59, 60, 61, 62, 63, 64, 65, 66] (by decide +kernel) (by decide +kernel)
set_option maxRecDepth 20000 in
theorem gX4_meetsAny_X4_isPut : GoodIn wsX4_meetsAny (wsV RX4 41 RX4 yX4_isPut wsX4_isPut) := goodIn_app (goodIn_of _ (by decide +kernel)) ggX4_meetsAny_X4_isPut
set_option maxRecDepth 20000 in
theorem ggX4_meetsAny_X4_meetingOf : GoodIn wsX4_meetsAny wsX4_meetingOf := goodIn_r _ [14, 7, 8, 9, 5, 10, 1, 15, 16, 17, 18, 19, 20, 21, 22, 2, 3, 4, 6, 23, 24, 25, 26, 27, 28, 29, 30, 31, 32, 33, 34, 35, 36, 37, 38, 39, 40, 41, 42, 43, 44, 45, 46, 47, 48, 49, 50, 51, 52, 53, 54, 55, 56, 57, 58, 59, 60, 61, 62, 63, 64, 65, 66] (by decide +kernel) (by decide +kernel)
set_option maxRecDepth 20000 in
theorem gX4_meetsAny_X4_meetingOf : GoodIn wsX4_meetsAny (wsV RX4 78 RX4 yX4_meetingOf wsX4_meetingOf) := goodIn_app (goodIn_of _ (by decide +kernel)) ggX4_meetsAny_X4_meetingOf
set_option maxRecDepth 20000 in
theorem ggX4_makeWord_X4_set : GoodIn wsX4_makeWord wsX4_set := goodIn_r _ [6, 1, 7, 8, 9, 10, 11, 12, 13, 14, 15, 16, 17, 18, 19] (by decide +kernel) (by decide +kernel)
set_option maxRecDepth 20000 in
theorem gX4_makeWord_X4_set : GoodIn wsX4_makeWord (wsV RX4 81 RX4 yX4_set wsX4_set) := goodIn_app (goodIn_of _ (by decide +kernel)) ggX4_makeWord_X4_set
set_option maxRecDepth 20000 in
theorem ggX4_isPart_X4_in : GoodIn wsX4_isPart wsX4_in := goodIn_r _ [7] (by decide +kernel) (by decide +kernel)
set_option maxRecDepth 20000 in
theorem gX4_isPart_X4_in : GoodIn wsX4_isPart (va_wsS RX4 33 yX4_in wsX4_in) := goodIn_app (goodIn_of _ (by decide +kernel)) ggX4_isPart_X4_in
set_option maxRecDepth 20000 in
theorem ggX4_addWord_X4_in : GoodIn wsX4_addWord wsX4_in := goodIn_r _ [7] (by decide +kernel) (by decide +kernel)
set_option maxRecDepth 20000 in
theorem gX4_addWord_X4_in : GoodIn wsX4_addWord (va_wsS RX4 33 yX4_in wsX4_in) := goodIn_app (goodIn_of _ (by decide +kernel)) ggX4_addWord_X4_in
set_option maxRecDepth 20000 in
theorem ggX4_addWord_X4_isPart : GoodIn wsX4_addWord wsX4_isPart := goodIn_r _ [10, 11, 12, 13, 4, 5, 6, 7] (by decide +kernel) (by decide +kernel)
set_option maxRecDepth 20000 in
theorem gX4_addWord_X4_isPart : GoodIn wsX4_addWord (va_wsS RX4 93 yX4_isPart wsX4_isPart) := goodIn_app (goodIn_of _ (by decide +kernel)) ggX4_addWord_X4_isPart
set_option maxRecDepth 20000 in
theorem ggX4_addWord_X4_act : GoodIn wsX4_addWord wsX4_act := goodIn_r _ [17, 18, 19, 3, 28, 29, 30, 31, 32, 33, 34, 35, 36, 37, 38, 39, 40] (by decide +kernel) (by decide +kernel)
set_option maxRecDepth 20000 in
theorem gX4_addWord_X4_act : GoodIn wsX4_addWord (wsV RX4 96 RX4 yX4_act wsX4_act) := goodIn_app (goodIn_of _ (by decide +kernel)) ggX4_addWord_X4_act
set_option maxRecDepth 20000 in
theorem ggX4_addWord_X4_makeWord : GoodIn wsX4_addWord wsX4_makeWord := goodIn_r _ [23, 3, 24, 25, 26, 6, 27, 28, 29, 30, 31, 32, 33, 34, 35, 36, 37, 38, 39, 40] (by decide +kernel) (by decide +kernel)
set_option maxRecDepth 20000 in
theorem gX4_addWord_X4_makeWord : GoodIn wsX4_addWord (wsV RX4 99 RX4 yX4_makeWord wsX4_makeWord) := goodIn_app (goodIn_of _ (by decide +kernel)) ggX4_addWord_X4_makeWord
set_option maxRecDepth 20000 in
theorem ggX4_addWord_X4_set : GoodIn wsX4_addWord wsX4_set := goodIn_r _ [27, 3, 28, 29, 30, 31, 32, 33, 34, 35, 36, 37, 38, 39, 40] (by decide +kernel) (by decide +kernel)
set_option maxRecDepth 20000 in
theorem gX4_addWord_X4_set : GoodIn wsX4_addWord (wsV RX4 81 RX4 yX4_set wsX4_set) := goodIn_app (goodIn_of _ (by decide +kernel)) ggX4_addWord_X4_set
set_option maxRecDepth 20000 in
theorem ggX4_removeWord_X4_isWord : GoodIn wsX4_removeWord wsX4_isWord := goodIn_r _ [7, 2, 8, 9, 6, 10, 17, 18, 19, 20, 21, 22, 23, 24, 25, 26, 27, 28, 29] (by decide +kernel) (by decide +kernel)
set_option maxRecDepth 20000 in
theorem gX4_removeWord_X4_isWord : GoodIn wsX4_removeWord (wsV RX4 103 RX4 yX4_isWord wsX4_isWord) := goodIn_app (goodIn_of _ (by decide +kernel)) ggX4_removeWord_X4_isWord
set_option maxRecDepth 20000 in
theorem ggX4_removeWord_X4_act : GoodIn wsX4_removeWord wsX4_act := goodIn_r _ [14, 15, 16, 2, 17, 18, 19, 20, 21, 22, 23, 24, 25, 26, 27, 28, 29] (by decide +kernel) (by decide +kernel)
set_option maxRecDepth 20000 in
theorem gX4_removeWord_X4_act : GoodIn wsX4_removeWord (wsV RX4 96 RX4 yX4_act wsX4_act) := goodIn_app (goodIn_of _ (by decide +kernel)) ggX4_removeWord_X4_act
set_option maxRecDepth 20000 in
theorem ggX4_takeOff_X4_set : GoodIn wsX4_takeOff wsX4_set := goodIn_r _ [5, 6, 7, 8, 9, 10, 11, 12, 13, 14, 15, 16, 17, 18, 19] (by decide +kernel) (by decide +kernel)
set_option maxRecDepth 20000 in
theorem gX4_takeOff_X4_set : GoodIn wsX4_takeOff (wsV RX4 81 RX4 yX4_set wsX4_set) := goodIn_app (goodIn_of _ (by decide +kernel)) ggX4_takeOff_X4_set
set_option maxRecDepth 20000 in
theorem ggX4_setWord_X4_isWord : GoodIn wsX4_setWord wsX4_isWord := goodIn_r _ [6, 7, 8, 9, 5, 10, 35, 36, 37, 38, 39, 40, 41, 42, 43, 44, 45, 46, 47] (by decide +kernel) (by decide +kernel)
set_option maxRecDepth 20000 in
theorem gX4_setWord_X4_isWord : GoodIn wsX4_setWord (wsV RX4 103 RX4 yX4_isWord wsX4_isWord) := goodIn_app (goodIn_of _ (by decide +kernel)) ggX4_setWord_X4_isWord
set_option maxRecDepth 20000 in
theorem ggX4_setWord_X4_isPart : GoodIn wsX4_setWord wsX4_isPart := goodIn_r _ [13, 14, 15, 16, 8, 9, 5, 10] (by decide +kernel) (by decide +kernel)
set_option maxRecDepth 20000 in
theorem gX4_setWord_X4_isPart : GoodIn wsX4_setWord (va_wsS RX4 93 yX4_isPart wsX4_isPart) := goodIn_app (goodIn_of _ (by decide +kernel)) ggX4_setWord_X4_isPart
set_option maxRecDepth 20000 in
theorem ggX4_setWord_X4_act : GoodIn wsX4_setWord wsX4_act := goodIn_r _ [20, 21, 22, 7, 35, 36, 37, 38, 39, 40, 41, 42, 43, 44, 45, 46, 47] (by decide +kernel) (by decide +kernel)
set_option maxRecDepth 20000 in
theorem gX4_setWord_X4_act : GoodIn wsX4_setWord (wsV RX4 96 RX4 yX4_act wsX4_act) := goodIn_app (goodIn_of _ (by decide +kernel)) ggX4_setWord_X4_act
set_option maxRecDepth 20000 in
theorem ggX4_setWord_X4_of : GoodIn wsX4_setWord wsX4_of := goodIn_r _ [26, 7, 35, 36, 37, 38, 39, 40, 41, 42, 43, 44, 45, 46, 47] (by decide +kernel) (by decide +kernel)
set_option maxRecDepth 20000 in
theorem gX4_setWord_X4_of : GoodIn wsX4_setWord (wsV RX4 37 RX4 yX4_of wsX4_of) := goodIn_app (goodIn_of _ (by decide +kernel)) ggX4_setWord_X4_of
set_option maxRecDepth 20000 in
theorem ggX4_setWord_X4_set : GoodIn wsX4_setWord wsX4_set := goodIn_r _ [30, 7, 35, 36, 37, 38, 39, 40, 41, 42, 43, 44, 45, 46, 47] (by decide +kernel) (by decide +kernel)
set_option maxRecDepth 20000 in
theorem gX4_setWord_X4_set : GoodIn wsX4_setWord (wsV RX4 81 RX4 yX4_set wsX4_set) := goodIn_app (goodIn_of _ (by decide +kernel)) ggX4_setWord_X4_set
set_option maxRecDepth 20000 in
theorem ggX4_setWord_X4_takeOff : GoodIn wsX4_setWord wsX4_takeOff := goodIn_r _ [34, 27, 28, 29, 5, 30, 7, 35, 36, 37, 38, 39, 40, 41, 42, 43, 44, 45, 46, 47] (by decide +kernel) (by decide +kernel)
set_option maxRecDepth 20000 in
theorem gX4_setWord_X4_takeOff : GoodIn wsX4_setWord (wsV RX4 106 RX4 yX4_takeOff wsX4_takeOff) := goodIn_app (goodIn_of _ (by decide +kernel)) ggX4_setWord_X4_takeOff
set_option maxRecDepth 20000 in
theorem ggX4_addShot_X4_in : GoodIn wsX4_addShot wsX4_in := goodIn_r _ [7] (by decide +kernel) (by decide +kernel)
set_option maxRecDepth 20000 in
theorem gX4_addShot_X4_in : GoodIn wsX4_addShot (va_wsS RX4 33 yX4_in wsX4_in) := goodIn_app (goodIn_of _ (by decide +kernel)) ggX4_addShot_X4_in
set_option maxRecDepth 20000 in
theorem ggX4_addShot_X4_shotOf : GoodIn wsX4_addShot wsX4_shotOf := goodIn_r _ [11, 3, 22, 23, 24, 25, 26, 27, 28, 29, 30, 31, 32, 33, 34] (by decide +kernel) (by decide +kernel)
set_option maxRecDepth 20000 in
theorem gX4_addShot_X4_shotOf : GoodIn wsX4_addShot (wsV RX4 112 RX4 yX4_shotOf wsX4_shotOf) := goodIn_app (goodIn_of _ (by decide +kernel)) ggX4_addShot_X4_shotOf
set_option maxRecDepth 20000 in
theorem ggX4_addShot_X4_act : GoodIn wsX4_addShot wsX4_act := goodIn_r _ [15, 16, 17, 3, 22, 23, 24, 25, 26, 27, 28, 29, 30, 31, 32, 33, 34] (by decide +kernel) (by decide +kernel)
set_option maxRecDepth 20000 in
theorem gX4_addShot_X4_act : GoodIn wsX4_addShot (wsV RX4 96 RX4 yX4_act wsX4_act) := goodIn_app (goodIn_of _ (by decide +kernel)) ggX4_addShot_X4_act
set_option maxRecDepth 20000 in
theorem ggX4_addShot_X4_makeShot : GoodIn wsX4_addShot wsX4_makeShot := goodIn_r _ [21, 3, 22, 23, 24, 25, 26, 27, 28, 29, 30, 31, 32, 33, 34] (by decide +kernel) (by decide +kernel)
set_option maxRecDepth 20000 in
theorem gX4_addShot_X4_makeShot : GoodIn wsX4_addShot (wsV RX4 115 RX4 yX4_makeShot wsX4_makeShot) := goodIn_app (goodIn_of _ (by decide +kernel)) ggX4_addShot_X4_makeShot
set_option maxRecDepth 20000 in
theorem ggX4_removeShot_X4_in : GoodIn wsX4_removeShot wsX4_in := goodIn_r _ [7] (by decide +kernel) (by decide +kernel)
set_option maxRecDepth 20000 in
theorem gX4_removeShot_X4_in : GoodIn wsX4_removeShot (va_wsS RX4 33 yX4_in wsX4_in) := goodIn_app (goodIn_of _ (by decide +kernel)) ggX4_removeShot_X4_in
set_option maxRecDepth 20000 in
theorem ggX4_removeShot_X4_shotOf : GoodIn wsX4_removeShot wsX4_shotOf := goodIn_r _ [11, 3, 18, 19, 20, 21, 22, 23, 24, 25, 26, 27, 28, 29, 30] (by decide +kernel) (by decide +kernel)
set_option maxRecDepth 20000 in
theorem gX4_removeShot_X4_shotOf : GoodIn wsX4_removeShot (wsV RX4 112 RX4 yX4_shotOf wsX4_shotOf) := goodIn_app (goodIn_of _ (by decide +kernel)) ggX4_removeShot_X4_shotOf
set_option maxRecDepth 20000 in
theorem ggX4_removeShot_X4_act : GoodIn wsX4_removeShot wsX4_act := goodIn_r _ [15, 16, 17, 3, 18, 19, 20, 21, 22, 23, 24, 25, 26, 27, 28, 29, 30] (by decide +kernel) (by decide +kernel)
set_option maxRecDepth 20000 in
theorem gX4_removeShot_X4_act : GoodIn wsX4_removeShot (wsV RX4 96 RX4 yX4_act wsX4_act) := goodIn_app (goodIn_of _ (by decide +kernel)) ggX4_removeShot_X4_act
set_option maxRecDepth 20000 in
theorem ggX4_setSpeed_X4_in : GoodIn wsX4_setSpeed wsX4_in := goodIn_r _ [8] (by decide +kernel) (by decide +kernel)
set_option maxRecDepth 20000 in
theorem gX4_setSpeed_X4_in : GoodIn wsX4_setSpeed (va_wsS RX4 33 yX4_in wsX4_in) := goodIn_app (goodIn_of _ (by decide +kernel)) ggX4_setSpeed_X4_in
set_option maxRecDepth 20000 in
theorem ggX4_setSpeed_X4_act : GoodIn wsX4_setSpeed wsX4_act := goodIn_r _ [12, 13, 14, 4, 15, 16, 17, 18, 19, 20, 21, 22, 23, 24, 25, 26, 27] (by decide +kernel) (by decide +kernel)
set_option maxRecDepth 20000 in
theorem gX4_setSpeed_X4_act : GoodIn wsX4_setSpeed (wsV RX4 96 RX4 yX4_act wsX4_act) := goodIn_app (goodIn_of _ (by decide +kernel)) ggX4_setSpeed_X4_act
set_option maxRecDepth 20000 in
theorem ggX4_append_X4_in : GoodIn wsX4_append wsX4_in := goodIn_r _ [8] (by decide +kernel) (by decide +kernel)
set_option maxRecDepth 20000 in
theorem gX4_append_X4_in : GoodIn wsX4_append (va_wsS RX4 33 yX4_in wsX4_in) := goodIn_app (goodIn_of _ (by decide +kernel)) ggX4_append_X4_in
set_option maxRecDepth 20000 in
theorem ggX4_read_X4_here : GoodIn wsX4_read wsX4_here := goodIn_r _ [17, 1, 18, 12, 22, 23, 24, 25, 26, 27, 28, 29, 30, 31, 32, 33, 34] (by decide +kernel) (by decide +kernel)
set_option maxRecDepth 20000 in
theorem gX4_read_X4_here : GoodIn wsX4_read (wsV RX4 130 RX4 yX4_here wsX4_here) := goodIn_app (goodIn_of _ (by decide +kernel)) ggX4_read_X4_here
set_option maxRecDepth 20000 in
theorem ggX4_read_X4_in : GoodIn wsX4_read wsX4_in := goodIn_r _ [21] (by decide +kernel) (by decide +kernel)
set_option maxRecDepth 20000 in
theorem gX4_read_X4_in : GoodIn wsX4_read (va_wsS RX4 33 yX4_in wsX4_in) := goodIn_app (goodIn_of _ (by decide +kernel)) ggX4_read_X4_in
set_option maxRecDepth 20000 in
theorem ggX4_accept_X4_read : GoodIn wsX4_accept wsX4_read := goodIn_r _ [7, 8, 9, 1, 10, 11, 12, 13, 14, 15, 16, 17, 18, 19, 20, 21, 6, 22, 23, 24, 25, 26, 27, 28, 29, 30, 31, 32, 33, 34, 35, 36, 37, 38, 39] (by decide +kernel) (by decide +kernel)
set_option maxRecDepth 20000 in
theorem gX4_accept_X4_read : GoodIn wsX4_accept (wsV RX4 162 RX4 yX4_read wsX4_read) := goodIn_app (goodIn_of _ (by decide +kernel)) ggX4_accept_X4_read
set_option maxRecDepth 20000 in
theorem ggX4_number_X4_in : GoodIn wsX4_number wsX4_in := goodIn_r _ [6] (by decide +kernel) (by decide +kernel)
set_option maxRecDepth 20000 in
theorem gX4_number_X4_in : GoodIn wsX4_number (va_wsS RX4 33 yX4_in wsX4_in) := goodIn_app (goodIn_of _ (by decide +kernel)) ggX4_number_X4_in
set_option maxRecDepth 20000 in
theorem ggX4_number_X4_accept : GoodIn wsX4_number wsX4_accept := goodIn_r _ [10, 2, 11, 12, 13, 14, 5, 15, 16, 17, 18, 19, 1, 20, 21, 22, 23, 24, 25, 26, 27, 28, 29, 30, 3, 4, 6, 31, 32, 33, 34, 35, 36, 37, 38, 39, 40, 41, 42, 43] (by decide +kernel) (by decide +kernel)
set_option maxRecDepth 20000 in
theorem gX4_number_X4_accept : GoodIn wsX4_number (wsV RX4 165 RX4 yX4_accept wsX4_accept) := goodIn_app (goodIn_of _ (by decide +kernel)) ggX4_number_X4_accept
set_option maxRecDepth 20000 in
theorem ggX4_readWord_X4_accept : GoodIn wsX4_readWord wsX4_accept := goodIn_r _ [10, 11, 4, 12, 13, 14, 9, 15, 2, 1, 16, 17, 3, 18, 19, 20, 21, 22, 5, 23, 24, 25, 26, 27, 28, 29, 30, 52, 53, 54, 55, 56, 57, 58, 59, 60, 61, 62, 63, 64] (by decide +kernel) (by decide +kernel)
set_option maxRecDepth 20000 in
theorem gX4_readWord_X4_accept : GoodIn wsX4_readWord (wsV RX4 165 RX4 yX4_accept wsX4_accept) := goodIn_app (goodIn_of _ (by decide +kernel)) ggX4_readWord_X4_accept
set_option maxRecDepth 20000 in
theorem ggX4_readWord_X4_number : GoodIn wsX4_readWord wsX4_number := goodIn_r _ [34, 3, 11, 28, 29, 9, 30, 6, 7, 8, 10, 4, 12, 13, 14, 15, 2, 1, 16, 17, 18, 19, 20, 21, 22, 5, 23, 24, 25, 26, 27, 52, 53, 54, 55, 56, 57, 58, 59, 60, 61, 62, 63, 64] (by decide +kernel) (by decide +kernel)
set_option maxRecDepth 20000 in
theorem gX4_readWord_X4_number : GoodIn wsX4_readWord (wsV RX4 177 RX4 yX4_number wsX4_number) := goodIn_app (goodIn_of _ (by decide +kernel)) ggX4_readWord_X4_number
set_option maxRecDepth 20000 in
theorem ggX4_readWord_X4_wayOf : GoodIn wsX4_readWord wsX4_wayOf := goodIn_r _ [38, 3, 11, 39, 40, 41, 42, 52, 53, 54, 55, 56, 57, 58, 59, 60, 61, 62, 63, 64] (by decide +kernel) (by decide +kernel)
set_option maxRecDepth 20000 in
theorem gX4_readWord_X4_wayOf : GoodIn wsX4_readWord (wsV RX4 180 RX4 yX4_wayOf wsX4_wayOf) := goodIn_app (goodIn_of _ (by decide +kernel)) ggX4_readWord_X4_wayOf
set_option maxRecDepth 20000 in
theorem ggX4_readWord_X4_makeWord : GoodIn wsX4_readWord wsX4_makeWord := goodIn_r _ [46, 47, 48, 49, 50, 9, 51, 52, 53, 54, 55, 56, 57, 58, 59, 60, 61, 62, 63, 64] (by decide +kernel) (by decide +kernel)
set_option maxRecDepth 20000 in
theorem gX4_readWord_X4_makeWord : GoodIn wsX4_readWord (wsV RX4 99 RX4 yX4_makeWord wsX4_makeWord) := goodIn_app (goodIn_of _ (by decide +kernel)) ggX4_readWord_X4_makeWord
set_option maxRecDepth 20000 in
theorem ggX4_readWord_X4_set : GoodIn wsX4_readWord wsX4_set := goodIn_r _ [51, 47, 52, 53, 54, 55, 56, 57, 58, 59, 60, 61, 62, 63, 64] (by decide +kernel) (by decide +kernel)
set_option maxRecDepth 20000 in
theorem gX4_readWord_X4_set : GoodIn wsX4_readWord (wsV RX4 81 RX4 yX4_set wsX4_set) := goodIn_app (goodIn_of _ (by decide +kernel)) ggX4_readWord_X4_set
set_option maxRecDepth 20000 in
theorem ggX4_readShot_X4_in : GoodIn wsX4_readShot wsX4_in := goodIn_r _ [8] (by decide +kernel) (by decide +kernel)
set_option maxRecDepth 20000 in
theorem gX4_readShot_X4_in : GoodIn wsX4_readShot (va_wsS RX4 33 yX4_in wsX4_in) := goodIn_app (goodIn_of _ (by decide +kernel)) ggX4_readShot_X4_in
set_option maxRecDepth 20000 in
theorem ggX4_readShot_X4_shotOf : GoodIn wsX4_readShot wsX4_shotOf := goodIn_r _ [12, 13, 41, 42, 43, 44, 45, 46, 47, 48, 49, 50, 51, 52, 53] (by decide +kernel) (by decide +kernel)
set_option maxRecDepth 20000 in
theorem gX4_readShot_X4_shotOf : GoodIn wsX4_readShot (wsV RX4 112 RX4 yX4_shotOf wsX4_shotOf) := goodIn_app (goodIn_of _ (by decide +kernel)) ggX4_readShot_X4_shotOf
set_option maxRecDepth 20000 in
theorem ggX4_readShot_X4_accept : GoodIn wsX4_readShot wsX4_accept := goodIn_r _ [17, 2, 4, 18, 19, 20, 7, 21, 22, 23, 24, 25, 1, 26, 27, 28, 29, 30, 31, 32, 33, 34, 35, 36, 5, 6, 8, 41, 42, 43, 44, 45, 46, 47, 48, 49, 50, 51, 52, 53] (by decide +kernel) (by decide +kernel)
set_option maxRecDepth 20000 in
theorem gX4_readShot_X4_accept : GoodIn wsX4_readShot (wsV RX4 165 RX4 yX4_accept wsX4_accept) := goodIn_app (goodIn_of _ (by decide +kernel)) ggX4_readShot_X4_accept
set_option maxRecDepth 20000 in
theorem ggX4_readShot_X4_makeShot : GoodIn wsX4_readShot wsX4_makeShot := goodIn_r _ [40, 13, 41, 42, 43, 44, 45, 46, 47, 48, 49, 50, 51, 52, 53] (by decide +kernel) (by decide +kernel)
set_option maxRecDepth 20000 in
theorem gX4_readShot_X4_makeShot : GoodIn wsX4_readShot (wsV RX4 115 RX4 yX4_makeShot wsX4_makeShot) := goodIn_app (goodIn_of _ (by decide +kernel)) ggX4_readShot_X4_makeShot
set_option maxRecDepth 20000 in
theorem ggX4_readItem_X4_accept : GoodIn wsX4_readItem wsX4_accept := goodIn_r _ [11, 2, 6, 12, 13, 14, 10, 15, 16, 17, 18, 19, 1, 20, 21, 22, 23, 24, 25, 26, 27, 28, 29, 30, 31, 32, 33, 71, 72, 73, 74, 75, 76, 77, 78, 79, 80, 81, 82, 83] (by decide +kernel) (by decide +kernel)
set_option maxRecDepth 20000 in
theorem gX4_readItem_X4_accept : GoodIn wsX4_readItem (wsV RX4 165 RX4 yX4_accept wsX4_accept) := goodIn_app (goodIn_of _ (by decide +kernel)) ggX4_readItem_X4_accept
set_option maxRecDepth 20000 in
theorem ggX4_readItem_X4_readWord : GoodIn wsX4_readItem wsX4_readWord := goodIn_r _ [37, 17, 16, 1, 6, 25, 7, 8, 9, 10, 11, 2, 12, 13, 14, 15, 18, 19, 20, 21, 22, 23, 24, 26, 27, 28, 29, 30, 31, 32, 33, 38, 39, 40, 41, 42, 43, 44, 45, 46, 47, 48, 49, 50, 51, 52, 53, 5, 54, 55, 56, 57, 71, 72, 73, 74, 75, 76, 77, 78, 79, 80, 81, 82, 83] (by decide +kernel) (by decide +kernel)
set_option maxRecDepth 20000 in
theorem gX4_readItem_X4_readWord : GoodIn wsX4_readItem (wsV RX4 187 RX4 yX4_readWord wsX4_readWord) := goodIn_app (goodIn_of _ (by decide +kernel)) ggX4_readItem_X4_readWord
set_option maxRecDepth 20000 in
theorem ggX4_readItem_X4_readShot : GoodIn wsX4_readItem wsX4_readShot := goodIn_r _ [61, 1, 2, 62, 6, 31, 32, 10, 33, 63, 64, 65, 66, 5, 7, 8, 9, 11, 12, 13, 14, 15, 16, 17, 18, 19, 20, 21, 22, 23, 24, 25, 26, 27, 28, 29, 30, 67, 68, 69, 70, 71, 72, 73, 74, 75, 76, 77, 78, 79, 80, 81, 82, 83] (by decide +kernel) (by decide +kernel)
set_option maxRecDepth 20000 in
theorem gX4_readItem_X4_readShot : GoodIn wsX4_readItem (wsV RX4 190 RX4 yX4_readShot wsX4_readShot) := goodIn_app (goodIn_of _ (by decide +kernel)) ggX4_readItem_X4_readShot
set_option maxRecDepth 20000 in
theorem ggX4_load_X4_hold : GoodIn wsX4_load wsX4_hold := goodIn_r _ [11, 12, 13, 91, 92, 93, 94, 95, 96, 97, 98, 99, 100, 101, 102, 103] (by decide +kernel) (by decide +kernel)
set_option maxRecDepth 20000 in
theorem gX4_load_X4_hold : GoodIn wsX4_load (wsV RX4 193 RX4 yX4_hold wsX4_hold) := goodIn_app (goodIn_of _ (by decide +kernel)) ggX4_load_X4_hold
set_option maxRecDepth 20000 in
theorem ggX4_load_X4_read : GoodIn wsX4_load wsX4_read := goodIn_r _ [17, 2, 5, 18, 19, 20, 4, 21, 22, 23, 24, 25, 26, 27, 28, 29, 10, 30, 6, 31, 32, 33, 91, 92, 93, 94, 95, 96, 97, 98, 99, 100, 101, 102, 103] (by decide +kernel) (by decide +kernel)
set_option maxRecDepth 20000 in
theorem gX4_load_X4_read : GoodIn wsX4_load (wsV RX4 162 RX4 yX4_read wsX4_read) := goodIn_app (goodIn_of _ (by decide +kernel)) ggX4_load_X4_read
set_option maxRecDepth 20000 in
theorem ggX4_load_X4_readItem : GoodIn wsX4_load wsX4_readItem := goodIn_r _ [37, 4, 18, 38, 39, 13, 3, 40, 41, 42, 10, 43, 14, 15, 16, 17, 2, 5, 19, 20, 21, 22, 23, 24, 25, 26, 27, 28, 29, 30, 6, 31, 32, 33, 44, 45, 46, 47, 48, 49, 50, 51, 52, 53, 54, 55, 56, 57, 58, 59, 60, 61, 62, 63, 64, 65, 66, 67, 68, 69, 70, 71, 72, 73, 74, 75, 76, 77, 78, 79, 80, 91, 92, 93, 94, 95, 96, 97, 98, 99, 100, 101, 102, 103] (by decide +kernel) (by decide +kernel)
set_option maxRecDepth 20000 in
theorem gX4_load_X4_readItem : GoodIn wsX4_load (wsV RX4 196 RX4 yX4_readItem wsX4_readItem) := goodIn_app (goodIn_of _ (by decide +kernel)) ggX4_load_X4_readItem
set_option maxRecDepth 20000 in
theorem ggX4_load_X4_exchange : GoodIn wsX4_load wsX4_exchange := goodIn_r _ [84, 13, 12, 91, 92, 93, 94, 95, 96, 97, 98, 99, 100, 101, 102, 103] (by decide +kernel) (by decide +kernel)
set_option maxRecDepth 20000 in
theorem gX4_load_X4_exchange : GoodIn wsX4_load (wsV RX4 199 RX4 yX4_exchange wsX4_exchange) := goodIn_app (goodIn_of _ (by decide +kernel)) ggX4_load_X4_exchange
set_option maxRecDepth 20000 in
theorem ggX4_load_X4_act : GoodIn wsX4_load wsX4_act := goodIn_r _ [88, 89, 90, 13, 91, 92, 93, 94, 95, 96, 97, 98, 99, 100, 101, 102, 103] (by decide +kernel) (by decide +kernel)
set_option maxRecDepth 20000 in
theorem gX4_load_X4_act : GoodIn wsX4_load (wsV RX4 96 RX4 yX4_act wsX4_act) := goodIn_app (goodIn_of _ (by decide +kernel)) ggX4_load_X4_act
set_option maxRecDepth 20000 in
theorem ggX4_isPlace_X4_isWord : GoodIn wsX4_isPlace wsX4_isWord := goodIn_r _ [6, 7, 8, 9, 5, 10, 15, 16, 17, 18, 19, 20, 21, 22, 23, 24, 25, 26, 27] (by decide +kernel) (by decide +kernel)
set_option maxRecDepth 20000 in
theorem gX4_isPlace_X4_isWord : GoodIn wsX4_isPlace (wsV RX4 103 RX4 yX4_isWord wsX4_isWord) := goodIn_app (goodIn_of _ (by decide +kernel)) ggX4_isPlace_X4_isWord
set_option maxRecDepth 20000 in
theorem ggX4_isPlace_X4_in : GoodIn wsX4_isPlace wsX4_in := goodIn_r _ [10] (by decide +kernel) (by decide +kernel)
set_option maxRecDepth 20000 in
theorem gX4_isPlace_X4_in : GoodIn wsX4_isPlace (va_wsS RX4 33 yX4_in wsX4_in) := goodIn_app (goodIn_of _ (by decide +kernel)) ggX4_isPlace_X4_in
set_option maxRecDepth 20000 in
theorem ggX4_isPlace_X4_of : GoodIn wsX4_isPlace wsX4_of := goodIn_r _ [14, 7, 15, 16, 17, 18, 19, 20, 21, 22, 23, 24, 25, 26, 27] (by decide +kernel) (by decide +kernel)
set_option maxRecDepth 20000 in
theorem gX4_isPlace_X4_of : GoodIn wsX4_isPlace (wsV RX4 37 RX4 yX4_of wsX4_of) := goodIn_app (goodIn_of _ (by decide +kernel)) ggX4_isPlace_X4_of
set_option maxRecDepth 20000 in
theorem ggX4_lay_X4_set : GoodIn wsX4_lay wsX4_set := goodIn_r _ [5, 6, 7, 8, 9, 10, 11, 12, 13, 14, 15, 16, 17, 18, 19] (by decide +kernel) (by decide +kernel)
set_option maxRecDepth 20000 in
theorem gX4_lay_X4_set : GoodIn wsX4_lay (wsV RX4 81 RX4 yX4_set wsX4_set) := goodIn_app (goodIn_of _ (by decide +kernel)) ggX4_lay_X4_set
set_option maxRecDepth 20000 in
theorem ggX4_put_X4_isPlace : GoodIn wsX4_put wsX4_isPlace := goodIn_r _ [6, 7, 8, 9, 10, 5, 11, 12, 13, 14, 15, 16, 17, 18, 19, 94, 95, 96, 97, 98, 99, 100, 101, 102, 103, 104, 105, 106] (by decide +kernel) (by decide +kernel)
set_option maxRecDepth 20000 in
theorem gX4_put_X4_isPlace : GoodIn wsX4_put (wsV RX4 202 RX4 yX4_isPlace wsX4_isPlace) := goodIn_app (goodIn_of _ (by decide +kernel)) ggX4_put_X4_isPlace
set_option maxRecDepth 20000 in
theorem ggX4_put_X4_hold : GoodIn wsX4_put wsX4_hold := goodIn_r _ [23, 24, 12, 94, 95, 96, 97, 98, 99, 100, 101, 102, 103, 104, 105, 106] (by decide +kernel) (by decide +kernel)
set_option maxRecDepth 20000 in
theorem gX4_put_X4_hold : GoodIn wsX4_put (wsV RX4 193 RX4 yX4_hold wsX4_hold) := goodIn_app (goodIn_of _ (by decide +kernel)) ggX4_put_X4_hold
set_option maxRecDepth 20000 in
theorem ggX4_put_X4_lay : GoodIn wsX4_put wsX4_lay := goodIn_r _ [28, 29, 30, 31, 5, 32, 12, 94, 95, 96, 97, 98, 99, 100, 101, 102, 103, 104, 105, 106] (by decide +kernel) (by decide +kernel)
set_option maxRecDepth 20000 in
theorem gX4_put_X4_lay : GoodIn wsX4_put (wsV RX4 205 RX4 yX4_lay wsX4_lay) := goodIn_app (goodIn_of _ (by decide +kernel)) ggX4_put_X4_lay
set_option maxRecDepth 20000 in
theorem ggX4_put_X4_meetsAny : GoodIn wsX4_put wsX4_meetsAny := goodIn_r _ [36, 12, 37, 38, 39, 5, 40, 16, 17, 18, 19, 41, 42, 43, 44, 45, 46, 47, 48, 49, 50, 51, 7, 52, 53, 54, 55, 56, 57, 58, 59, 60, 61, 62, 63, 64, 65, 66, 67, 68, 69, 70, 71, 72, 13, 14, 15, 73, 74, 75, 76, 77, 78, 79, 94, 95, 96, 97, 98, 99, 100, 101, 102, 103, 104, 105, 106] (by decide +kernel) (by decide +kernel)
set_option maxRecDepth 20000 in
theorem gX4_put_X4_meetsAny : GoodIn wsX4_put (wsV RX4 208 RX4 yX4_meetsAny wsX4_meetsAny) := goodIn_app (goodIn_of _ (by decide +kernel)) ggX4_put_X4_meetsAny
set_option maxRecDepth 20000 in
theorem ggX4_put_X4_exchange : GoodIn wsX4_put wsX4_exchange := goodIn_r _ [83, 12, 24, 94, 95, 96, 97, 98, 99, 100, 101, 102, 103, 104, 105, 106] (by decide +kernel) (by decide +kernel)
set_option maxRecDepth 20000 in
theorem gX4_put_X4_exchange : GoodIn wsX4_put (wsV RX4 199 RX4 yX4_exchange wsX4_exchange) := goodIn_app (goodIn_of _ (by decide +kernel)) ggX4_put_X4_exchange
set_option maxRecDepth 20000 in
theorem ggX4_put_X4_act : GoodIn wsX4_put wsX4_act := goodIn_r _ [87, 88, 89, 12, 94, 95, 96, 97, 98, 99, 100, 101, 102, 103, 104, 105, 106] (by decide +kernel) (by decide +kernel)
set_option maxRecDepth 20000 in
theorem gX4_put_X4_act : GoodIn wsX4_put (wsV RX4 96 RX4 yX4_act wsX4_act) := goodIn_app (goodIn_of _ (by decide +kernel)) ggX4_put_X4_act
set_option maxRecDepth 20000 in
theorem ggX4_put_X4_putMany : GoodIn wsX4_put wsX4_putMany := goodIn_r _ [93, 12, 37, 38, 39, 5, 40, 16, 17, 18, 19, 94, 95, 96, 97, 98, 99, 100, 101, 102, 103, 104, 105, 106] (by decide +kernel) (by decide +kernel)
set_option maxRecDepth 20000 in
theorem gX4_put_X4_putMany : GoodIn wsX4_put (wsV RX4 211 RX4 yX4_putMany wsX4_putMany) := goodIn_app (goodIn_of _ (by decide +kernel)) ggX4_put_X4_putMany
set_option maxRecDepth 20000 in
theorem ggX4_take_X4_isWord : GoodIn wsX4_take wsX4_isWord := goodIn_r _ [6, 7, 8, 9, 5, 10, 37, 38, 39, 40, 41, 42, 43, 44, 45, 46, 47, 48, 49] (by decide +kernel) (by decide +kernel)
set_option maxRecDepth 20000 in
theorem gX4_take_X4_isWord : GoodIn wsX4_take (wsV RX4 103 RX4 yX4_isWord wsX4_isWord) := goodIn_app (goodIn_of _ (by decide +kernel)) ggX4_take_X4_isWord
set_option maxRecDepth 20000 in
theorem ggX4_take_X4_isPut : GoodIn wsX4_take wsX4_isPut := goodIn_r _ [14, 15, 16, 17, 5, 18, 7, 37, 38, 39, 40, 41, 42, 43, 44, 45, 46, 47, 48, 49] (by decide +kernel) (by decide +kernel)
set_option maxRecDepth 20000 in
theorem gX4_take_X4_isPut : GoodIn wsX4_take (wsV RX4 41 RX4 yX4_isPut wsX4_isPut) := goodIn_app (goodIn_of _ (by decide +kernel)) ggX4_take_X4_isPut
set_option maxRecDepth 20000 in
theorem ggX4_take_X4_act : GoodIn wsX4_take wsX4_act := goodIn_r _ [22, 23, 24, 7, 37, 38, 39, 40, 41, 42, 43, 44, 45, 46, 47, 48, 49] (by decide +kernel) (by decide +kernel)
set_option maxRecDepth 20000 in
theorem gX4_take_X4_act : GoodIn wsX4_take (wsV RX4 96 RX4 yX4_act wsX4_act) := goodIn_app (goodIn_of _ (by decide +kernel)) ggX4_take_X4_act
set_option maxRecDepth 20000 in
theorem ggX4_take_X4_takeOff : GoodIn wsX4_take wsX4_takeOff := goodIn_r _ [28, 29, 30, 31, 5, 32, 7, 37, 38, 39, 40, 41, 42, 43, 44, 45, 46, 47, 48, 49] (by decide +kernel) (by decide +kernel)
set_option maxRecDepth 20000 in
theorem gX4_take_X4_takeOff : GoodIn wsX4_take (wsV RX4 106 RX4 yX4_takeOff wsX4_takeOff) := goodIn_app (goodIn_of _ (by decide +kernel)) ggX4_take_X4_takeOff
set_option maxRecDepth 20000 in
theorem ggX4_take_X4_putMany : GoodIn wsX4_take wsX4_putMany := goodIn_r _ [36, 7, 11, 12, 13, 5, 14, 15, 16, 17, 18, 37, 38, 39, 40, 41, 42, 43, 44, 45, 46, 47, 48, 49] (by decide +kernel) (by decide +kernel)
set_option maxRecDepth 20000 in
theorem gX4_take_X4_putMany : GoodIn wsX4_take (wsV RX4 211 RX4 yX4_putMany wsX4_putMany) := goodIn_app (goodIn_of _ (by decide +kernel)) ggX4_take_X4_putMany
set_option maxRecDepth 20000 in
theorem ggX4_nextWord_X4_of : GoodIn wsX4_nextWord wsX4_of := goodIn_r _ [7, 1, 8, 9, 10, 11, 12, 13, 14, 15, 16, 17, 18, 19, 20] (by decide +kernel) (by decide +kernel)
set_option maxRecDepth 20000 in
theorem gX4_nextWord_X4_of : GoodIn wsX4_nextWord (wsV RX4 37 RX4 yX4_of wsX4_of) := goodIn_app (goodIn_of _ (by decide +kernel)) ggX4_nextWord_X4_of
set_option maxRecDepth 20000 in
theorem ggX4_laysIn_X4_of : GoodIn wsX4_laysIn wsX4_of := goodIn_r _ [5, 6, 70, 71, 72, 73, 74, 75, 76, 77, 78, 79, 80, 81, 82] (by decide +kernel) (by decide +kernel)
set_option maxRecDepth 20000 in
theorem gX4_laysIn_X4_of : GoodIn wsX4_laysIn (wsV RX4 37 RX4 yX4_of wsX4_of) := goodIn_app (goodIn_of _ (by decide +kernel)) ggX4_laysIn_X4_of
set_option maxRecDepth 20000 in
theorem ggX4_laysIn_X4_in : GoodIn wsX4_laysIn wsX4_in := goodIn_r _ [9] (by decide +kernel) (by decide +kernel)
set_option maxRecDepth 20000 in
theorem gX4_laysIn_X4_in : GoodIn wsX4_laysIn (va_wsS RX4 33 yX4_in wsX4_in) := goodIn_app (goodIn_of _ (by decide +kernel)) ggX4_laysIn_X4_in
set_option maxRecDepth 20000 in
theorem ggX4_laysIn_X4_lay : GoodIn wsX4_laysIn wsX4_lay := goodIn_r _ [13, 14, 15, 16, 4, 17, 6, 70, 71, 72, 73, 74, 75, 76, 77, 78, 79, 80, 81, 82] (by decide +kernel) (by decide +kernel)
set_option maxRecDepth 20000 in
theorem gX4_laysIn_X4_lay : GoodIn wsX4_laysIn (wsV RX4 205 RX4 yX4_lay wsX4_lay) := goodIn_app (goodIn_of _ (by decide +kernel)) ggX4_laysIn_X4_lay
set_option maxRecDepth 20000 in
theorem ggX4_laysIn_X4_meetsAny : GoodIn wsX4_laysIn wsX4_meetsAny := goodIn_r _ [21, 6, 22, 23, 24, 4, 25, 1, 2, 3, 5, 26, 27, 28, 29, 30, 31, 32, 33, 34, 35, 36, 37, 38, 39, 40, 41, 42, 43, 44, 45, 46, 47, 48, 49, 50, 51, 52, 53, 54, 55, 56, 57, 58, 7, 8, 9, 59, 60, 61, 62, 63, 64, 65, 70, 71, 72, 73, 74, 75, 76, 77, 78, 79, 80, 81, 82] (by decide +kernel) (by decide +kernel)
set_option maxRecDepth 20000 in
theorem gX4_laysIn_X4_meetsAny : GoodIn wsX4_laysIn (wsV RX4 208 RX4 yX4_meetsAny wsX4_meetsAny) := goodIn_app (goodIn_of _ (by decide +kernel)) ggX4_laysIn_X4_meetsAny
set_option maxRecDepth 20000 in
theorem ggX4_laysIn_X4_takeOff : GoodIn wsX4_laysIn wsX4_takeOff := goodIn_r _ [69, 14, 15, 16, 4, 17, 6, 70, 71, 72, 73, 74, 75, 76, 77, 78, 79, 80, 81, 82] (by decide +kernel) (by decide +kernel)
set_option maxRecDepth 20000 in
theorem gX4_laysIn_X4_takeOff : GoodIn wsX4_laysIn (wsV RX4 106 RX4 yX4_takeOff wsX4_takeOff) := goodIn_app (goodIn_of _ (by decide +kernel)) ggX4_laysIn_X4_takeOff
set_option maxRecDepth 20000 in
theorem ggX4_putAll_X4_act : GoodIn wsX4_putAll wsX4_act := goodIn_r _ [8, 9, 10, 2, 93, 94, 95, 96, 97, 98, 99, 100, 101, 102, 103, 104, 105] (by decide +kernel) (by decide +kernel)
set_option maxRecDepth 20000 in
theorem gX4_putAll_X4_act : GoodIn wsX4_putAll (wsV RX4 96 RX4 yX4_act wsX4_act) := goodIn_app (goodIn_of _ (by decide +kernel)) ggX4_putAll_X4_act
set_option maxRecDepth 20000 in
theorem ggX4_putAll_X4_takeOff : GoodIn wsX4_putAll wsX4_takeOff := goodIn_r _ [14, 15, 16, 17, 7, 18, 2, 93, 94, 95, 96, 97, 98, 99, 100, 101, 102, 103, 104, 105] (by decide +kernel) (by decide +kernel)
set_option maxRecDepth 20000 in
theorem gX4_putAll_X4_takeOff : GoodIn wsX4_putAll (wsV RX4 106 RX4 yX4_takeOff wsX4_takeOff) := goodIn_app (goodIn_of _ (by decide +kernel)) ggX4_putAll_X4_takeOff
set_option maxRecDepth 20000 in
theorem ggX4_putAll_X4_nextWord : GoodIn wsX4_putAll wsX4_nextWord := goodIn_r _ [22, 2, 3, 23, 24, 25, 7, 26, 93, 94, 95, 96, 97, 98, 99, 100, 101, 102, 103, 104, 105] (by decide +kernel) (by decide +kernel)
set_option maxRecDepth 20000 in
theorem gX4_putAll_X4_nextWord : GoodIn wsX4_putAll (wsV RX4 214 RX4 yX4_nextWord wsX4_nextWord) := goodIn_app (goodIn_of _ (by decide +kernel)) ggX4_putAll_X4_nextWord
set_option maxRecDepth 20000 in
theorem ggX4_putAll_X4_laneOf : GoodIn wsX4_putAll wsX4_laneOf := goodIn_r _ [29] (by decide +kernel) (by decide +kernel)
set_option maxRecDepth 20000 in
theorem gX4_putAll_X4_laneOf : GoodIn wsX4_putAll (va_wsS RX4 217 yX4_laneOf wsX4_laneOf) := goodIn_app (goodIn_of _ (by decide +kernel)) ggX4_putAll_X4_laneOf
set_option maxRecDepth 20000 in
theorem ggX4_putAll_X4_laysIn : GoodIn wsX4_putAll wsX4_laysIn := goodIn_r _ [33, 23, 24, 25, 7, 26, 2, 34, 35, 36, 37, 38, 39, 40, 15, 16, 17, 18, 41, 42, 43, 44, 45, 46, 47, 48, 49, 50, 51, 52, 53, 54, 55, 56, 57, 58, 59, 60, 61, 62, 63, 64, 65, 66, 67, 68, 69, 70, 71, 72, 73, 74, 75, 76, 77, 78, 79, 80, 81, 82, 83, 84, 85, 86, 87, 88, 11, 12, 13, 14, 93, 94, 95, 96, 97, 98, 99, 100, 101, 102, 103, 104, 105] (by decide +kernel) (by decide +kernel)
set_option maxRecDepth 20000 in
theorem gX4_putAll_X4_laysIn : GoodIn wsX4_putAll (wsV RX4 220 RX4 yX4_laysIn wsX4_laysIn) := goodIn_app (goodIn_of _ (by decide +kernel)) ggX4_putAll_X4_laysIn
set_option maxRecDepth 20000 in
theorem ggX4_putAll_X4_putMany : GoodIn wsX4_putAll wsX4_putMany := goodIn_r _ [92, 2, 45, 46, 47, 7, 48, 23, 24, 25, 26, 93, 94, 95, 96, 97, 98, 99, 100, 101, 102, 103, 104, 105] (by decide +kernel) (by decide +kernel)
set_option maxRecDepth 20000 in
theorem gX4_putAll_X4_putMany : GoodIn wsX4_putAll (wsV RX4 211 RX4 yX4_putMany wsX4_putMany) := goodIn_app (goodIn_of _ (by decide +kernel)) ggX4_putAll_X4_putMany
set_option maxRecDepth 20000 in
theorem ggX4_meetingPairs_X4_meetingOf : GoodIn wsX4_meetingPairs wsX4_meetingOf := goodIn_r _ [6, 7, 8, 9, 5, 10, 1, 11, 12, 13, 14, 15, 16, 17, 18, 19, 20, 21, 22, 23, 24, 25, 26, 27, 28, 29, 30, 31, 32, 33, 34, 35, 36, 37, 38, 39, 40, 41, 42, 43, 44, 45, 46, 47, 48, 49, 50, 51, 52, 53, 54, 55, 56, 57, 58, 59, 60, 61, 62, 63, 64, 65, 66] (by decide +kernel) (by decide +kernel)
set_option maxRecDepth 20000 in
theorem gX4_meetingPairs_X4_meetingOf : GoodIn wsX4_meetingPairs (wsV RX4 78 RX4 yX4_meetingOf wsX4_meetingOf) := goodIn_app (goodIn_of _ (by decide +kernel)) ggX4_meetingPairs_X4_meetingOf
set_option maxRecDepth 20000 in
theorem ggX4_count_X4_putMany : GoodIn wsX4_count wsX4_putMany := goodIn_r _ [9, 2, 10, 11, 12, 8, 13, 14, 15, 16, 17, 65, 66, 67, 68, 69, 70, 71, 72, 73, 74, 75, 76, 77] (by decide +kernel) (by decide +kernel)
set_option maxRecDepth 20000 in
theorem gX4_count_X4_putMany : GoodIn wsX4_count (wsV RX4 211 RX4 yX4_putMany wsX4_putMany) := goodIn_app (goodIn_of _ (by decide +kernel)) ggX4_count_X4_putMany
set_option maxRecDepth 20000 in
theorem ggX4_count_X4_meetingPairs : GoodIn wsX4_count wsX4_meetingPairs := goodIn_r _ [21, 2, 22, 23, 24, 8, 25, 14, 15, 16, 17, 26, 27, 28, 29, 30, 31, 32, 33, 10, 11, 12, 13, 34, 35, 36, 37, 38, 39, 40, 41, 42, 43, 44, 45, 46, 47, 48, 49, 50, 51, 52, 53, 54, 55, 56, 57, 58, 59, 60, 61, 62, 63, 64, 65, 66, 67, 68, 69, 70, 71, 72, 73, 74, 75, 76, 77] (by decide +kernel) (by decide +kernel)
set_option maxRecDepth 20000 in
theorem gX4_count_X4_meetingPairs : GoodIn wsX4_count (wsV RX4 223 RX4 yX4_meetingPairs wsX4_meetingPairs) := goodIn_app (goodIn_of _ (by decide +kernel)) ggX4_count_X4_meetingPairs
set_option maxRecDepth 20000 in
theorem ggX4_lastOn_X4_of : GoodIn wsX4_lastOn wsX4_of := goodIn_r _ [5, 6, 40, 41, 42, 43, 44, 45, 46, 47, 48, 49, 50, 51, 52] (by decide +kernel) (by decide +kernel)
set_option maxRecDepth 20000 in
theorem gX4_lastOn_X4_of : GoodIn wsX4_lastOn (wsV RX4 37 RX4 yX4_of wsX4_of) := goodIn_app (goodIn_of _ (by decide +kernel)) ggX4_lastOn_X4_of
set_option maxRecDepth 20000 in
theorem ggX4_lastOn_X4_isOn : GoodIn wsX4_lastOn wsX4_isOn := goodIn_r _ [10, 11, 12, 13, 14, 4, 15, 1, 2, 3, 5, 6, 16, 17, 18, 19, 20, 21, 22, 23, 24, 25, 26, 27, 28, 29, 30, 31, 32, 33, 34, 35, 36, 37, 38, 39, 40, 41, 42, 43, 44, 45, 46, 47, 48, 49, 50, 51, 52] (by decide +kernel) (by decide +kernel)
set_option maxRecDepth 20000 in
theorem gX4_lastOn_X4_isOn : GoodIn wsX4_lastOn (wsV RX4 64 RX4 yX4_isOn wsX4_isOn) := goodIn_app (goodIn_of _ (by decide +kernel)) ggX4_lastOn_X4_isOn
set_option maxRecDepth 20000 in
theorem ggX4_word_X4_isWord : GoodIn wsX4_word wsX4_isWord := goodIn_r _ [7, 8, 9, 10, 6, 11, 49, 50, 51, 52, 53, 54, 55, 56, 57, 58, 59, 60, 61] (by decide +kernel) (by decide +kernel)
set_option maxRecDepth 20000 in
theorem gX4_word_X4_isWord : GoodIn wsX4_word (wsV RX4 103 RX4 yX4_isWord wsX4_isWord) := goodIn_app (goodIn_of _ (by decide +kernel)) ggX4_word_X4_isWord
set_option maxRecDepth 20000 in
theorem ggX4_word_X4_in : GoodIn wsX4_word wsX4_in := goodIn_r _ [11] (by decide +kernel) (by decide +kernel)
set_option maxRecDepth 20000 in
theorem gX4_word_X4_in : GoodIn wsX4_word (va_wsS RX4 33 yX4_in wsX4_in) := goodIn_app (goodIn_of _ (by decide +kernel)) ggX4_word_X4_in
set_option maxRecDepth 20000 in
theorem ggX4_word_X4_of : GoodIn wsX4_word wsX4_of := goodIn_r _ [15, 8, 49, 50, 51, 52, 53, 54, 55, 56, 57, 58, 59, 60, 61] (by decide +kernel) (by decide +kernel)
set_option maxRecDepth 20000 in
theorem gX4_word_X4_of : GoodIn wsX4_word (wsV RX4 37 RX4 yX4_of wsX4_of) := goodIn_app (goodIn_of _ (by decide +kernel)) ggX4_word_X4_of
set_option maxRecDepth 20000 in
theorem ggX4_word_X4_isPut : GoodIn wsX4_word wsX4_isPut := goodIn_r _ [19, 12, 13, 14, 6, 15, 8, 49, 50, 51, 52, 53, 54, 55, 56, 57, 58, 59, 60, 61] (by decide +kernel) (by decide +kernel)
set_option maxRecDepth 20000 in
theorem gX4_word_X4_isPut : GoodIn wsX4_word (wsV RX4 41 RX4 yX4_isPut wsX4_isPut) := goodIn_app (goodIn_of _ (by decide +kernel)) ggX4_word_X4_isPut
set_option maxRecDepth 20000 in
theorem ggX4_word_X4_lastOn : GoodIn wsX4_word wsX4_lastOn := goodIn_r _ [23, 12, 13, 14, 6, 15, 8, 24, 25, 26, 27, 2, 16, 17, 18, 19, 28, 29, 30, 31, 32, 33, 34, 35, 36, 37, 38, 39, 40, 41, 42, 43, 44, 45, 46, 47, 48, 9, 10, 11, 49, 50, 51, 52, 53, 54, 55, 56, 57, 58, 59, 60, 61] (by decide +kernel) (by decide +kernel)
set_option maxRecDepth 20000 in
theorem gX4_word_X4_lastOn : GoodIn wsX4_word (wsV RX4 226 RX4 yX4_lastOn wsX4_lastOn) := goodIn_app (goodIn_of _ (by decide +kernel)) ggX4_word_X4_lastOn
set_option maxRecDepth 20000 in
theorem ggX4_letter_X4_isWord : GoodIn wsX4_letter wsX4_isWord := goodIn_r _ [6, 7, 8, 9, 5, 10, 15, 16, 17, 18, 19, 20, 21, 22, 23, 24, 25, 26, 27] (by decide +kernel) (by decide +kernel)
set_option maxRecDepth 20000 in
theorem gX4_letter_X4_isWord : GoodIn wsX4_letter (wsV RX4 103 RX4 yX4_isWord wsX4_isWord) := goodIn_app (goodIn_of _ (by decide +kernel)) ggX4_letter_X4_isWord
set_option maxRecDepth 20000 in
theorem ggX4_letter_X4_of : GoodIn wsX4_letter wsX4_of := goodIn_r _ [14, 7, 15, 16, 17, 18, 19, 20, 21, 22, 23, 24, 25, 26, 27] (by decide +kernel) (by decide +kernel)
set_option maxRecDepth 20000 in
theorem gX4_letter_X4_of : GoodIn wsX4_letter (wsV RX4 37 RX4 yX4_of wsX4_of) := goodIn_app (goodIn_of _ (by decide +kernel)) ggX4_letter_X4_of
set_option maxRecDepth 20000 in
theorem ggX4_isFrame_X4_in : GoodIn wsX4_isFrame wsX4_in := goodIn_r _ [5] (by decide +kernel) (by decide +kernel)
set_option maxRecDepth 20000 in
theorem gX4_isFrame_X4_in : GoodIn wsX4_isFrame (va_wsS RX4 33 yX4_in wsX4_in) := goodIn_app (goodIn_of _ (by decide +kernel)) ggX4_isFrame_X4_in
set_option maxRecDepth 20000 in
theorem ggX4_where_X4_isWord : GoodIn wsX4_where wsX4_isWord := goodIn_r _ [7, 8, 9, 10, 6, 11, 50, 51, 52, 53, 54, 55, 56, 57, 58, 59, 60, 61, 62] (by decide +kernel) (by decide +kernel)
set_option maxRecDepth 20000 in
theorem gX4_where_X4_isWord : GoodIn wsX4_where (wsV RX4 103 RX4 yX4_isWord wsX4_isWord) := goodIn_app (goodIn_of _ (by decide +kernel)) ggX4_where_X4_isWord
set_option maxRecDepth 20000 in
theorem ggX4_where_X4_isFrame : GoodIn wsX4_where wsX4_isFrame := goodIn_r _ [14, 15, 9, 10, 6, 11] (by decide +kernel) (by decide +kernel)
set_option maxRecDepth 20000 in
theorem gX4_where_X4_isFrame : GoodIn wsX4_where (va_wsS RX4 231 yX4_isFrame wsX4_isFrame) := goodIn_app (goodIn_of _ (by decide +kernel)) ggX4_where_X4_isFrame
set_option maxRecDepth 20000 in
theorem ggX4_where_X4_in : GoodIn wsX4_where wsX4_in := goodIn_r _ [11] (by decide +kernel) (by decide +kernel)
set_option maxRecDepth 20000 in
theorem gX4_where_X4_in : GoodIn wsX4_where (va_wsS RX4 33 yX4_in wsX4_in) := goodIn_app (goodIn_of _ (by decide +kernel)) ggX4_where_X4_in
set_option maxRecDepth 20000 in
theorem ggX4_where_X4_isOn : GoodIn wsX4_where wsX4_isOn := goodIn_r _ [19, 20, 21, 22, 23, 6, 24, 25, 26, 27, 28, 8, 29, 30, 31, 32, 33, 34, 35, 36, 37, 38, 39, 40, 41, 42, 43, 44, 45, 46, 47, 48, 49, 9, 10, 11, 50, 51, 52, 53, 54, 55, 56, 57, 58, 59, 60, 61, 62] (by decide +kernel) (by decide +kernel)
set_option maxRecDepth 20000 in
theorem gX4_where_X4_isOn : GoodIn wsX4_where (wsV RX4 64 RX4 yX4_isOn wsX4_isOn) := goodIn_app (goodIn_of _ (by decide +kernel)) ggX4_where_X4_isOn
set_option maxRecDepth 20000 in
theorem ggX4_where_X4_columnAt : GoodIn wsX4_where wsX4_columnAt := goodIn_r _ [40, 25, 26, 27, 6, 28, 8, 41, 42, 43, 44, 45, 33, 34, 35, 36, 50, 51, 52, 53, 54, 55, 56, 57, 58, 59, 60, 61, 62] (by decide +kernel) (by decide +kernel)
set_option maxRecDepth 20000 in
theorem gX4_where_X4_columnAt : GoodIn wsX4_where (wsV RX4 56 RX4 yX4_columnAt wsX4_columnAt) := goodIn_app (goodIn_of _ (by decide +kernel)) ggX4_where_X4_columnAt
set_option maxRecDepth 20000 in
theorem ggX4_where_X4_rowAt : GoodIn wsX4_where wsX4_rowAt := goodIn_r _ [49, 25, 26, 27, 6, 28, 8, 41, 42, 43, 44, 45, 33, 34, 35, 36, 50, 51, 52, 53, 54, 55, 56, 57, 58, 59, 60, 61, 62] (by decide +kernel) (by decide +kernel)
set_option maxRecDepth 20000 in
theorem gX4_where_X4_rowAt : GoodIn wsX4_where (wsV RX4 59 RX4 yX4_rowAt wsX4_rowAt) := goodIn_app (goodIn_of _ (by decide +kernel)) ggX4_where_X4_rowAt
set_option maxRecDepth 20000 in
theorem ggX4_wordIn_X4_columnAt : GoodIn wsX4_wordIn wsX4_columnAt := goodIn_r _ [6, 7, 8, 9, 5, 10, 1, 11, 12, 13, 14, 15, 16, 17, 18, 19, 40, 41, 42, 43, 44, 45, 46, 47, 48, 49, 50, 51, 52] (by decide +kernel) (by decide +kernel)
set_option maxRecDepth 20000 in
theorem gX4_wordIn_X4_columnAt : GoodIn wsX4_wordIn (wsV RX4 56 RX4 yX4_columnAt wsX4_columnAt) := goodIn_app (goodIn_of _ (by decide +kernel)) ggX4_wordIn_X4_columnAt
set_option maxRecDepth 20000 in
theorem ggX4_wordIn_X4_isOn : GoodIn wsX4_wordIn wsX4_isOn := goodIn_r _ [23, 24, 25, 26, 27, 5, 28, 7, 8, 9, 10, 1, 29, 30, 31, 32, 16, 17, 18, 19, 2, 3, 4, 6, 11, 12, 13, 14, 15, 33, 34, 35, 36, 37, 38, 39, 40, 41, 42, 43, 44, 45, 46, 47, 48, 49, 50, 51, 52] (by decide +kernel) (by decide +kernel)
set_option maxRecDepth 20000 in
theorem gX4_wordIn_X4_isOn : GoodIn wsX4_wordIn (wsV RX4 64 RX4 yX4_isOn wsX4_isOn) := goodIn_app (goodIn_of _ (by decide +kernel)) ggX4_wordIn_X4_isOn
set_option maxRecDepth 20000 in
theorem ggX4_wordIn_X4_rowAt : GoodIn wsX4_wordIn wsX4_rowAt := goodIn_r _ [36, 7, 8, 9, 5, 10, 1, 11, 12, 13, 14, 15, 16, 17, 18, 19, 40, 41, 42, 43, 44, 45, 46, 47, 48, 49, 50, 51, 52] (by decide +kernel) (by decide +kernel)
set_option maxRecDepth 20000 in
theorem gX4_wordIn_X4_rowAt : GoodIn wsX4_wordIn (wsV RX4 59 RX4 yX4_rowAt wsX4_rowAt) := goodIn_app (goodIn_of _ (by decide +kernel)) ggX4_wordIn_X4_rowAt
set_option maxRecDepth 20000 in
theorem ggX4_wordIn_X4_of : GoodIn wsX4_wordIn wsX4_of := goodIn_r _ [10, 1, 40, 41, 42, 43, 44, 45, 46, 47, 48, 49, 50, 51, 52] (by decide +kernel) (by decide +kernel)
set_option maxRecDepth 20000 in
theorem gX4_wordIn_X4_of : GoodIn wsX4_wordIn (wsV RX4 37 RX4 yX4_of wsX4_of) := goodIn_app (goodIn_of _ (by decide +kernel)) ggX4_wordIn_X4_of
set_option maxRecDepth 20000 in
theorem ggX4_wordIn_X4_in : GoodIn wsX4_wordIn wsX4_in := goodIn_r _ [39] (by decide +kernel) (by decide +kernel)
set_option maxRecDepth 20000 in
theorem gX4_wordIn_X4_in : GoodIn wsX4_wordIn (va_wsS RX4 33 yX4_in wsX4_in) := goodIn_app (goodIn_of _ (by decide +kernel)) ggX4_wordIn_X4_in
set_option maxRecDepth 20000 in
theorem ggX4_written_X4_in : GoodIn wsX4_written wsX4_in := goodIn_r _ [7] (by decide +kernel) (by decide +kernel)
set_option maxRecDepth 20000 in
theorem gX4_written_X4_in : GoodIn wsX4_written (va_wsS RX4 33 yX4_in wsX4_in) := goodIn_app (goodIn_of _ (by decide +kernel)) ggX4_written_X4_in
set_option maxRecDepth 20000 in
theorem ggX4_written_X4_isFrame : GoodIn wsX4_written wsX4_isFrame := goodIn_r _ [10, 11, 4, 5, 6, 7] (by decide +kernel) (by decide +kernel)
set_option maxRecDepth 20000 in
theorem gX4_written_X4_isFrame : GoodIn wsX4_written (va_wsS RX4 231 yX4_isFrame wsX4_isFrame) := goodIn_app (goodIn_of _ (by decide +kernel)) ggX4_written_X4_isFrame
set_option maxRecDepth 20000 in
theorem ggX4_written_X4_wordIn : GoodIn wsX4_written wsX4_wordIn := goodIn_r _ [15, 16, 17, 18, 19, 6, 20, 21, 22, 23, 24, 25, 26, 27, 28, 29, 30, 31, 32, 33, 34, 35, 36, 37, 2, 38, 39, 40, 41, 42, 43, 44, 45, 46, 47, 48, 49, 4, 5, 7, 50, 51, 52, 53, 54, 55, 56, 57, 58, 59, 60, 61, 62] (by decide +kernel) (by decide +kernel)
set_option maxRecDepth 20000 in
theorem gX4_written_X4_wordIn : GoodIn wsX4_written (wsV RX4 236 RX4 yX4_wordIn wsX4_wordIn) := goodIn_app (goodIn_of _ (by decide +kernel)) ggX4_written_X4_wordIn
set_option maxRecDepth 20000 in
theorem ggX4_written_X4_columnAt : GoodIn wsX4_written wsX4_columnAt := goodIn_r _ [20, 21, 22, 23, 6, 24, 16, 25, 26, 27, 28, 29, 30, 31, 32, 33, 50, 51, 52, 53, 54, 55, 56, 57, 58, 59, 60, 61, 62] (by decide +kernel) (by decide +kernel)
set_option maxRecDepth 20000 in
theorem gX4_written_X4_columnAt : GoodIn wsX4_written (wsV RX4 56 RX4 yX4_columnAt wsX4_columnAt) := goodIn_app (goodIn_of _ (by decide +kernel)) ggX4_written_X4_columnAt
set_option maxRecDepth 20000 in
theorem ggX4_written_X4_of : GoodIn wsX4_written wsX4_of := goodIn_r _ [24, 16, 50, 51, 52, 53, 54, 55, 56, 57, 58, 59, 60, 61, 62] (by decide +kernel) (by decide +kernel)
set_option maxRecDepth 20000 in
theorem gX4_written_X4_of : GoodIn wsX4_written (wsV RX4 37 RX4 yX4_of wsX4_of) := goodIn_app (goodIn_of _ (by decide +kernel)) ggX4_written_X4_of
set_option maxRecDepth 20000 in
theorem ggX4_onScreen_X4_isFrame : GoodIn wsX4_onScreen wsX4_isFrame := goodIn_r _ [6, 7, 8, 9, 5, 10] (by decide +kernel) (by decide +kernel)
set_option maxRecDepth 20000 in
theorem gX4_onScreen_X4_isFrame : GoodIn wsX4_onScreen (va_wsS RX4 231 yX4_isFrame wsX4_isFrame) := goodIn_app (goodIn_of _ (by decide +kernel)) ggX4_onScreen_X4_isFrame
set_option maxRecDepth 20000 in
theorem ggX4_onScreen_X4_isOn : GoodIn wsX4_onScreen wsX4_isOn := goodIn_r _ [14, 15, 16, 17, 18, 5, 19, 20, 21, 22, 23, 2, 24, 25, 26, 27, 28, 29, 30, 31, 32, 33, 34, 35, 36, 37, 38, 39, 40, 41, 42, 43, 44, 8, 9, 10, 45, 46, 47, 48, 49, 50, 51, 52, 53, 54, 55, 56, 57] (by decide +kernel) (by decide +kernel)
set_option maxRecDepth 20000 in
theorem gX4_onScreen_X4_isOn : GoodIn wsX4_onScreen (wsV RX4 64 RX4 yX4_isOn wsX4_isOn) := goodIn_app (goodIn_of _ (by decide +kernel)) ggX4_onScreen_X4_isOn
set_option maxRecDepth 20000 in
theorem ggX4_meeting_X4_isWord : GoodIn wsX4_meeting wsX4_isWord := goodIn_r _ [6, 7, 8, 9, 5, 10, 59, 60, 61, 62, 63, 64, 65, 66, 67, 68, 69, 70, 71] (by decide +kernel) (by decide +kernel)
set_option maxRecDepth 20000 in
theorem gX4_meeting_X4_isWord : GoodIn wsX4_meeting (wsV RX4 103 RX4 yX4_isWord wsX4_isWord) := goodIn_app (goodIn_of _ (by decide +kernel)) ggX4_meeting_X4_isWord
set_option maxRecDepth 20000 in
theorem ggX4_meeting_X4_meetingOf : GoodIn wsX4_meeting wsX4_meetingOf := goodIn_r _ [14, 15, 16, 17, 5, 18, 7, 19, 20, 21, 22, 23, 24, 25, 26, 27, 28, 29, 30, 31, 32, 33, 34, 35, 36, 37, 38, 39, 40, 41, 42, 43, 44, 45, 46, 47, 48, 49, 50, 51, 8, 9, 10, 52, 53, 54, 55, 56, 57, 58, 59, 60, 61, 62, 63, 64, 65, 66, 67, 68, 69, 70, 71] (by decide +kernel) (by decide +kernel)
set_option maxRecDepth 20000 in
theorem gX4_meeting_X4_meetingOf : GoodIn wsX4_meeting (wsV RX4 78 RX4 yX4_meetingOf wsX4_meetingOf) := goodIn_app (goodIn_of _ (by decide +kernel)) ggX4_meeting_X4_meetingOf
set_option maxRecDepth 20000 in
theorem ggX4_pace_X4_isFrame : GoodIn wsX4_pace wsX4_isFrame := goodIn_r _ [7, 8, 9, 10, 6, 11] (by decide +kernel) (by decide +kernel)
set_option maxRecDepth 20000 in
theorem gX4_pace_X4_isFrame : GoodIn wsX4_pace (va_wsS RX4 231 yX4_isFrame wsX4_isFrame) := goodIn_app (goodIn_of _ (by decide +kernel)) ggX4_pace_X4_isFrame
set_option maxRecDepth 20000 in
theorem ggX4_pace_X4_of : GoodIn wsX4_pace wsX4_of := goodIn_r _ [15, 2, 16, 17, 18, 19, 20, 21, 22, 23, 24, 25, 26, 27, 28] (by decide +kernel) (by decide +kernel)
set_option maxRecDepth 20000 in
theorem gX4_pace_X4_of : GoodIn wsX4_pace (wsV RX4 37 RX4 yX4_of wsX4_of) := goodIn_app (goodIn_of _ (by decide +kernel)) ggX4_pace_X4_of
set_option maxRecDepth 20000 in
theorem ggX4_pace_X4_in : GoodIn wsX4_pace wsX4_in := goodIn_r _ [11] (by decide +kernel) (by decide +kernel)
set_option maxRecDepth 20000 in
theorem gX4_pace_X4_in : GoodIn wsX4_pace (va_wsS RX4 33 yX4_in wsX4_in) := goodIn_app (goodIn_of _ (by decide +kernel)) ggX4_pace_X4_in
set_option maxRecDepth 20000 in
theorem ggX4_earliest_X4_isPlace : GoodIn wsX4_earliest wsX4_isPlace := goodIn_r _ [6, 7, 8, 9, 10, 5, 11, 12, 13, 14, 15, 16, 17, 18, 19, 84, 85, 86, 87, 88, 89, 90, 91, 92, 93, 94, 95, 96] (by decide +kernel) (by decide +kernel)
set_option maxRecDepth 20000 in
theorem gX4_earliest_X4_isPlace : GoodIn wsX4_earliest (wsV RX4 202 RX4 yX4_isPlace wsX4_isPlace) := goodIn_app (goodIn_of _ (by decide +kernel)) ggX4_earliest_X4_isPlace
set_option maxRecDepth 20000 in
theorem ggX4_earliest_X4_hold : GoodIn wsX4_earliest wsX4_hold := goodIn_r _ [23, 24, 12, 84, 85, 86, 87, 88, 89, 90, 91, 92, 93, 94, 95, 96] (by decide +kernel) (by decide +kernel)
set_option maxRecDepth 20000 in
theorem gX4_earliest_X4_hold : GoodIn wsX4_earliest (wsV RX4 193 RX4 yX4_hold wsX4_hold) := goodIn_app (goodIn_of _ (by decide +kernel)) ggX4_earliest_X4_hold
set_option maxRecDepth 20000 in
theorem ggX4_earliest_X4_lay : GoodIn wsX4_earliest wsX4_lay := goodIn_r _ [28, 29, 30, 31, 5, 32, 12, 84, 85, 86, 87, 88, 89, 90, 91, 92, 93, 94, 95, 96] (by decide +kernel) (by decide +kernel)
set_option maxRecDepth 20000 in
theorem gX4_earliest_X4_lay : GoodIn wsX4_earliest (wsV RX4 205 RX4 yX4_lay wsX4_lay) := goodIn_app (goodIn_of _ (by decide +kernel)) ggX4_earliest_X4_lay
set_option maxRecDepth 20000 in
theorem ggX4_earliest_X4_of : GoodIn wsX4_earliest wsX4_of := goodIn_r _ [19, 12, 84, 85, 86, 87, 88, 89, 90, 91, 92, 93, 94, 95, 96] (by decide +kernel) (by decide +kernel)
set_option maxRecDepth 20000 in
theorem gX4_earliest_X4_of : GoodIn wsX4_earliest (wsV RX4 37 RX4 yX4_of wsX4_of) := goodIn_app (goodIn_of _ (by decide +kernel)) ggX4_earliest_X4_of
set_option maxRecDepth 20000 in
theorem ggX4_earliest_X4_set : GoodIn wsX4_earliest wsX4_set := goodIn_r _ [32, 12, 84, 85, 86, 87, 88, 89, 90, 91, 92, 93, 94, 95, 96] (by decide +kernel) (by decide +kernel)
set_option maxRecDepth 20000 in
theorem gX4_earliest_X4_set : GoodIn wsX4_earliest (wsV RX4 81 RX4 yX4_set wsX4_set) := goodIn_app (goodIn_of _ (by decide +kernel)) ggX4_earliest_X4_set
set_option maxRecDepth 20000 in
theorem ggX4_earliest_X4_meetsAny : GoodIn wsX4_earliest wsX4_meetsAny := goodIn_r _ [36, 12, 37, 38, 39, 5, 40, 16, 17, 18, 19, 41, 42, 43, 44, 45, 46, 47, 48, 49, 50, 51, 7, 52, 53, 54, 55, 56, 57, 58, 59, 60, 61, 62, 63, 64, 65, 66, 67, 68, 69, 70, 71, 72, 13, 14, 15, 73, 74, 75, 76, 77, 78, 79, 84, 85, 86, 87, 88, 89, 90, 91, 92, 93, 94, 95, 96] (by decide +kernel) (by decide +kernel)
set_option maxRecDepth 20000 in
theorem gX4_earliest_X4_meetsAny : GoodIn wsX4_earliest (wsV RX4 208 RX4 yX4_meetsAny wsX4_meetsAny) := goodIn_app (goodIn_of _ (by decide +kernel)) ggX4_earliest_X4_meetsAny
set_option maxRecDepth 20000 in
theorem ggX4_earliest_X4_exchange : GoodIn wsX4_earliest wsX4_exchange := goodIn_r _ [83, 12, 24, 84, 85, 86, 87, 88, 89, 90, 91, 92, 93, 94, 95, 96] (by decide +kernel) (by decide +kernel)
set_option maxRecDepth 20000 in
theorem gX4_earliest_X4_exchange : GoodIn wsX4_earliest (wsV RX4 199 RX4 yX4_exchange wsX4_exchange) := goodIn_app (goodIn_of _ (by decide +kernel)) ggX4_earliest_X4_exchange
set_option maxRecDepth 20000 in
theorem ggX4_filled_X4_isFrame : GoodIn wsX4_filled wsX4_isFrame := goodIn_r _ [5, 6, 7, 8, 4, 9] (by decide +kernel) (by decide +kernel)
set_option maxRecDepth 20000 in
theorem gX4_filled_X4_isFrame : GoodIn wsX4_filled (va_wsS RX4 231 yX4_isFrame wsX4_isFrame) := goodIn_app (goodIn_of _ (by decide +kernel)) ggX4_filled_X4_isFrame
set_option maxRecDepth 20000 in
theorem ggX4_filled_X4_wordIn : GoodIn wsX4_filled wsX4_wordIn := goodIn_r _ [13, 14, 15, 16, 17, 4, 18, 19, 20, 21, 22, 23, 24, 25, 26, 27, 28, 29, 30, 31, 32, 33, 34, 35, 36, 37, 38, 39, 40, 41, 42, 43, 44, 45, 46, 47, 48, 7, 8, 9, 49, 50, 51, 52, 53, 54, 55, 56, 57, 58, 59, 60, 61] (by decide +kernel) (by decide +kernel)
set_option maxRecDepth 20000 in
theorem gX4_filled_X4_wordIn : GoodIn wsX4_filled (wsV RX4 236 RX4 yX4_wordIn wsX4_wordIn) := goodIn_app (goodIn_of _ (by decide +kernel)) ggX4_filled_X4_wordIn
end
section
theorem dX0_init_0 : decode cX0_init 0 = .ok (.aload_n 0, 1) := by decide +kernel
theorem dX0_init_1 : decode cX0_init 1 = .ok (.invokespecial 3, 3) := by decide +kernel
theorem dX0_init_4 : decode cX0_init 4 = .ok (.aload_n 0, 1) := by decide +kernel
theorem dX0_init_5 : decode cX0_init 5 = .ok (.bipush 12, 2) := by decide +kernel
theorem dX0_init_7 : decode cX0_init 7 = .ok (.anewarray 9, 3) := by decide +kernel
theorem dX0_init_10 : decode cX0_init 10 = .ok (.putfield 11, 3) := by decide +kernel
theorem dX0_init_13 : decode cX0_init 13 = .ok (.aload_n 0, 1) := by decide +kernel
theorem dX0_init_14 : decode cX0_init 14 = .ok (.bipush 10, 2) := by decide +kernel
theorem dX0_init_16 : decode cX0_init 16 = .ok (.newarray .int, 2) := by decide +kernel
theorem dX0_init_18 : decode cX0_init 18 = .ok (.putfield 17, 3) := by decide +kernel
theorem dX0_init_21 : decode cX0_init 21 = .ok (.aload_n 0, 1) := by decide +kernel
theorem dX0_init_22 : decode cX0_init 22 = .ok (.bipush 100, 2) := by decide +kernel
theorem dX0_init_24 : decode cX0_init 24 = .ok (.putfield 21, 3) := by decide +kernel
theorem dX0_init_27 : decode cX0_init 27 = .ok (.aload_n 0, 1) := by decide +kernel
theorem dX0_init_28 : decode cX0_init 28 = .ok (.new 9, 3) := by decide +kernel
theorem dX0_init_31 : decode cX0_init 31 = .ok (.dup, 1) := by decide +kernel
theorem dX0_init_32 : decode cX0_init 32 = .ok (.invokespecial 25, 3) := by decide +kernel
theorem dX0_init_35 : decode cX0_init 35 = .ok (.putfield 26, 3) := by decide +kernel
theorem dX0_init_38 : decode cX0_init 38 = .ok (.aload_n 0, 1) := by decide +kernel
theorem dX0_init_39 : decode cX0_init 39 = .ok (.bipush 12, 2) := by decide +kernel
theorem dX0_init_41 : decode cX0_init 41 = .ok (.newarray .int, 2) := by decide +kernel
theorem dX0_init_43 : decode cX0_init 43 = .ok (.putfield 30, 3) := by decide +kernel
theorem dX0_init_46 : decode cX0_init 46 = .ok (.iconst 0, 1) := by decide +kernel
theorem dX0_init_47 : decode cX0_init 47 = .ok (.istore_n 1, 1) := by decide +kernel
theorem dX0_init_48 : decode cX0_init 48 = .ok (.iload_n 1, 1) := by decide +kernel
theorem dX0_init_49 : decode cX0_init 49 = .ok (.bipush 12, 2) := by decide +kernel
theorem dX0_init_51 : decode cX0_init 51 = .ok (.if_icmp .ge 22, 3) := by decide +kernel
theorem dX0_init_54 : decode cX0_init 54 = .ok (.aload_n 0, 1) := by decide +kernel
theorem dX0_init_55 : decode cX0_init 55 = .ok (.getfield 11, 3) := by decide +kernel
theorem dX0_init_58 : decode cX0_init 58 = .ok (.iload_n 1, 1) := by decide +kernel
theorem dX0_init_59 : decode cX0_init 59 = .ok (.new 9, 3) := by decide +kernel
theorem dX0_init_62 : decode cX0_init 62 = .ok (.dup, 1) := by decide +kernel
theorem dX0_init_63 : decode cX0_init 63 = .ok (.invokespecial 25, 3) := by decide +kernel
theorem dX0_init_66 : decode cX0_init 66 = .ok (.aastore, 1) := by decide +kernel
theorem dX0_init_67 : decode cX0_init 67 = .ok (.iinc 1 1, 3) := by decide +kernel
theorem dX0_init_70 : decode cX0_init 70 = .ok (.goto (-22), 3) := by decide +kernel
theorem dX0_init_73 : decode cX0_init 73 = .ok (.return_, 1) := by decide +kernel
theorem dX0_copyFrom_0 : decode cX0_copyFrom 0 = .ok (.iconst 0, 1) := by decide +kernel
theorem dX0_copyFrom_1 : decode cX0_copyFrom 1 = .ok (.istore_n 2, 1) := by decide +kernel
theorem dX0_copyFrom_2 : decode cX0_copyFrom 2 = .ok (.iload_n 2, 1) := by decide +kernel
theorem dX0_copyFrom_3 : decode cX0_copyFrom 3 = .ok (.aload_n 1, 1) := by decide +kernel
theorem dX0_copyFrom_4 : decode cX0_copyFrom 4 = .ok (.getfield 33, 3) := by decide +kernel
theorem dX0_copyFrom_7 : decode cX0_copyFrom 7 = .ok (.if_icmp .ge 24, 3) := by decide +kernel
theorem dX0_copyFrom_10 : decode cX0_copyFrom 10 = .ok (.aload_n 0, 1) := by decide +kernel
theorem dX0_copyFrom_11 : decode cX0_copyFrom 11 = .ok (.getfield 11, 3) := by decide +kernel
theorem dX0_copyFrom_14 : decode cX0_copyFrom 14 = .ok (.iload_n 2, 1) := by decide +kernel
theorem dX0_copyFrom_15 : decode cX0_copyFrom 15 = .ok (.aaload, 1) := by decide +kernel
theorem dX0_copyFrom_16 : decode cX0_copyFrom 16 = .ok (.aload_n 1, 1) := by decide +kernel
theorem dX0_copyFrom_17 : decode cX0_copyFrom 17 = .ok (.getfield 11, 3) := by decide +kernel
theorem dX0_copyFrom_20 : decode cX0_copyFrom 20 = .ok (.iload_n 2, 1) := by decide +kernel
theorem dX0_copyFrom_21 : decode cX0_copyFrom 21 = .ok (.aaload, 1) := by decide +kernel
theorem dX0_copyFrom_22 : decode cX0_copyFrom 22 = .ok (.invokevirtual 36, 3) := by decide +kernel
theorem dX0_copyFrom_25 : decode cX0_copyFrom 25 = .ok (.iinc 2 1, 3) := by decide +kernel
theorem dX0_copyFrom_28 : decode cX0_copyFrom 28 = .ok (.goto (-26), 3) := by decide +kernel
theorem dX0_copyFrom_31 : decode cX0_copyFrom 31 = .ok (.aload_n 0, 1) := by decide +kernel
theorem dX0_copyFrom_32 : decode cX0_copyFrom 32 = .ok (.aload_n 1, 1) := by decide +kernel
theorem dX0_copyFrom_33 : decode cX0_copyFrom 33 = .ok (.getfield 33, 3) := by decide +kernel
theorem dX0_copyFrom_36 : decode cX0_copyFrom 36 = .ok (.putfield 33, 3) := by decide +kernel
theorem dX0_copyFrom_39 : decode cX0_copyFrom 39 = .ok (.aload_n 1, 1) := by decide +kernel
theorem dX0_copyFrom_40 : decode cX0_copyFrom 40 = .ok (.getfield 17, 3) := by decide +kernel
theorem dX0_copyFrom_43 : decode cX0_copyFrom 43 = .ok (.iconst 0, 1) := by decide +kernel
theorem dX0_copyFrom_44 : decode cX0_copyFrom 44 = .ok (.aload_n 0, 1) := by decide +kernel
theorem dX0_copyFrom_45 : decode cX0_copyFrom 45 = .ok (.getfield 17, 3) := by decide +kernel
theorem dX0_copyFrom_48 : decode cX0_copyFrom 48 = .ok (.iconst 0, 1) := by decide +kernel
theorem dX0_copyFrom_49 : decode cX0_copyFrom 49 = .ok (.bipush 10, 2) := by decide +kernel
theorem dX0_copyFrom_51 : decode cX0_copyFrom 51 = .ok (.invokestatic 40, 3) := by decide +kernel
theorem dX0_copyFrom_54 : decode cX0_copyFrom 54 = .ok (.aload_n 0, 1) := by decide +kernel
theorem dX0_copyFrom_55 : decode cX0_copyFrom 55 = .ok (.aload_n 1, 1) := by decide +kernel
theorem dX0_copyFrom_56 : decode cX0_copyFrom 56 = .ok (.getfield 46, 3) := by decide +kernel
theorem dX0_copyFrom_59 : decode cX0_copyFrom 59 = .ok (.putfield 46, 3) := by decide +kernel
theorem dX0_copyFrom_62 : decode cX0_copyFrom 62 = .ok (.aload_n 0, 1) := by decide +kernel
theorem dX0_copyFrom_63 : decode cX0_copyFrom 63 = .ok (.aload_n 1, 1) := by decide +kernel
theorem dX0_copyFrom_64 : decode cX0_copyFrom 64 = .ok (.getfield 21, 3) := by decide +kernel
theorem dX0_copyFrom_67 : decode cX0_copyFrom 67 = .ok (.putfield 21, 3) := by decide +kernel
theorem dX0_copyFrom_70 : decode cX0_copyFrom 70 = .ok (.return_, 1) := by decide +kernel
theorem dX0_hasWord_0 : decode cX0_hasWord 0 = .ok (.iload_n 1, 1) := by decide +kernel
theorem dX0_hasWord_1 : decode cX0_hasWord 1 = .ok (.ifCond .lt 15, 3) := by decide +kernel
theorem dX0_hasWord_4 : decode cX0_hasWord 4 = .ok (.iload_n 1, 1) := by decide +kernel
theorem dX0_hasWord_5 : decode cX0_hasWord 5 = .ok (.aload_n 0, 1) := by decide +kernel
theorem dX0_hasWord_6 : decode cX0_hasWord 6 = .ok (.getfield 33, 3) := by decide +kernel
theorem dX0_hasWord_9 : decode cX0_hasWord 9 = .ok (.if_icmp .ge 7, 3) := by decide +kernel
theorem dX0_hasWord_12 : decode cX0_hasWord 12 = .ok (.iconst 1, 1) := by decide +kernel
theorem dX0_hasWord_13 : decode cX0_hasWord 13 = .ok (.goto 4, 3) := by decide +kernel
theorem dX0_hasWord_16 : decode cX0_hasWord 16 = .ok (.iconst 0, 1) := by decide +kernel
theorem dX0_hasWord_17 : decode cX0_hasWord 17 = .ok (.ireturn, 1) := by decide +kernel
theorem dX0_hasRoomForWord_0 : decode cX0_hasRoomForWord 0 = .ok (.aload_n 0, 1) := by decide +kernel
theorem dX0_hasRoomForWord_1 : decode cX0_hasRoomForWord 1 = .ok (.getfield 33, 3) := by decide +kernel
theorem dX0_hasRoomForWord_4 : decode cX0_hasRoomForWord 4 = .ok (.bipush 12, 2) := by decide +kernel
theorem dX0_hasRoomForWord_6 : decode cX0_hasRoomForWord 6 = .ok (.if_icmp .ge 7, 3) := by decide +kernel
theorem dX0_hasRoomForWord_9 : decode cX0_hasRoomForWord 9 = .ok (.iconst 1, 1) := by decide +kernel
theorem dX0_hasRoomForWord_10 : decode cX0_hasRoomForWord 10 = .ok (.goto 4, 3) := by decide +kernel
theorem dX0_hasRoomForWord_13 : decode cX0_hasRoomForWord 13 = .ok (.iconst 0, 1) := by decide +kernel
theorem dX0_hasRoomForWord_14 : decode cX0_hasRoomForWord 14 = .ok (.ireturn, 1) := by decide +kernel
theorem dX0_hasRoomForShot_0 : decode cX0_hasRoomForShot 0 = .ok (.aload_n 0, 1) := by decide +kernel
theorem dX0_hasRoomForShot_1 : decode cX0_hasRoomForShot 1 = .ok (.getfield 46, 3) := by decide +kernel
theorem dX0_hasRoomForShot_4 : decode cX0_hasRoomForShot 4 = .ok (.bipush 10, 2) := by decide +kernel
theorem dX0_hasRoomForShot_6 : decode cX0_hasRoomForShot 6 = .ok (.if_icmp .ge 7, 3) := by decide +kernel
theorem dX0_hasRoomForShot_9 : decode cX0_hasRoomForShot 9 = .ok (.iconst 1, 1) := by decide +kernel
theorem dX0_hasRoomForShot_10 : decode cX0_hasRoomForShot 10 = .ok (.goto 4, 3) := by decide +kernel
theorem dX0_hasRoomForShot_13 : decode cX0_hasRoomForShot 13 = .ok (.iconst 0, 1) := by decide +kernel
theorem dX0_hasRoomForShot_14 : decode cX0_hasRoomForShot 14 = .ok (.ireturn, 1) := by decide +kernel
theorem dX0_appendWord_0 : decode cX0_appendWord 0 = .ok (.aload_n 0, 1) := by decide +kernel
theorem dX0_appendWord_1 : decode cX0_appendWord 1 = .ok (.getfield 11, 3) := by decide +kernel
theorem dX0_appendWord_4 : decode cX0_appendWord 4 = .ok (.aload_n 0, 1) := by decide +kernel
theorem dX0_appendWord_5 : decode cX0_appendWord 5 = .ok (.getfield 33, 3) := by decide +kernel
theorem dX0_appendWord_8 : decode cX0_appendWord 8 = .ok (.aaload, 1) := by decide +kernel
theorem dX0_appendWord_9 : decode cX0_appendWord 9 = .ok (.astore 6, 2) := by decide +kernel
theorem dX0_appendWord_11 : decode cX0_appendWord 11 = .ok (.iconst 0, 1) := by decide +kernel
theorem dX0_appendWord_12 : decode cX0_appendWord 12 = .ok (.istore 7, 2) := by decide +kernel
theorem dX0_appendWord_14 : decode cX0_appendWord 14 = .ok (.iload 7, 2) := by decide +kernel
theorem dX0_appendWord_16 : decode cX0_appendWord 16 = .ok (.iload_n 1, 1) := by decide +kernel
theorem dX0_appendWord_17 : decode cX0_appendWord 17 = .ok (.if_icmp .ge 22, 3) := by decide +kernel
theorem dX0_appendWord_20 : decode cX0_appendWord 20 = .ok (.aload 6, 2) := by decide +kernel
theorem dX0_appendWord_22 : decode cX0_appendWord 22 = .ok (.getfield 49, 3) := by decide +kernel
theorem dX0_appendWord_25 : decode cX0_appendWord 25 = .ok (.iload 7, 2) := by decide +kernel
theorem dX0_appendWord_27 : decode cX0_appendWord 27 = .ok (.bipush 97, 2) := by decide +kernel
theorem dX0_appendWord_29 : decode cX0_appendWord 29 = .ok (.iload 7, 2) := by decide +kernel
theorem dX0_appendWord_31 : decode cX0_appendWord 31 = .ok (.iadd, 1) := by decide +kernel
theorem dX0_appendWord_32 : decode cX0_appendWord 32 = .ok (.iastore, 1) := by decide +kernel
theorem dX0_appendWord_33 : decode cX0_appendWord 33 = .ok (.iinc 7 1, 3) := by decide +kernel
theorem dX0_appendWord_36 : decode cX0_appendWord 36 = .ok (.goto (-22), 3) := by decide +kernel
theorem dX0_appendWord_39 : decode cX0_appendWord 39 = .ok (.aload 6, 2) := by decide +kernel
theorem dX0_appendWord_41 : decode cX0_appendWord 41 = .ok (.iload_n 1, 1) := by decide +kernel
theorem dX0_appendWord_42 : decode cX0_appendWord 42 = .ok (.putfield 52, 3) := by decide +kernel
theorem dX0_appendWord_45 : decode cX0_appendWord 45 = .ok (.aload 6, 2) := by decide +kernel
theorem dX0_appendWord_47 : decode cX0_appendWord 47 = .ok (.iload_n 2, 1) := by decide +kernel
theorem dX0_appendWord_48 : decode cX0_appendWord 48 = .ok (.putfield 55, 3) := by decide +kernel
theorem dX0_appendWord_51 : decode cX0_appendWord 51 = .ok (.aload 6, 2) := by decide +kernel
theorem dX0_appendWord_53 : decode cX0_appendWord 53 = .ok (.iload_n 3, 1) := by decide +kernel
theorem dX0_appendWord_54 : decode cX0_appendWord 54 = .ok (.putfield 58, 3) := by decide +kernel
theorem dX0_appendWord_57 : decode cX0_appendWord 57 = .ok (.aload 6, 2) := by decide +kernel
theorem dX0_appendWord_59 : decode cX0_appendWord 59 = .ok (.iload 4, 2) := by decide +kernel
theorem dX0_appendWord_61 : decode cX0_appendWord 61 = .ok (.putfield 61, 3) := by decide +kernel
theorem dX0_appendWord_64 : decode cX0_appendWord 64 = .ok (.aload 6, 2) := by decide +kernel
theorem dX0_appendWord_66 : decode cX0_appendWord 66 = .ok (.iload 5, 2) := by decide +kernel
theorem dX0_appendWord_68 : decode cX0_appendWord 68 = .ok (.putfield 64, 3) := by decide +kernel
theorem dX0_appendWord_71 : decode cX0_appendWord 71 = .ok (.aload 6, 2) := by decide +kernel
theorem dX0_appendWord_73 : decode cX0_appendWord 73 = .ok (.iconst 0, 1) := by decide +kernel
theorem dX0_appendWord_74 : decode cX0_appendWord 74 = .ok (.putfield 67, 3) := by decide +kernel
theorem dX0_appendWord_77 : decode cX0_appendWord 77 = .ok (.aload_n 0, 1) := by decide +kernel
theorem dX0_appendWord_78 : decode cX0_appendWord 78 = .ok (.dup, 1) := by decide +kernel
theorem dX0_appendWord_79 : decode cX0_appendWord 79 = .ok (.getfield 33, 3) := by decide +kernel
theorem dX0_appendWord_82 : decode cX0_appendWord 82 = .ok (.iconst 1, 1) := by decide +kernel
theorem dX0_appendWord_83 : decode cX0_appendWord 83 = .ok (.iadd, 1) := by decide +kernel
theorem dX0_appendWord_84 : decode cX0_appendWord 84 = .ok (.putfield 33, 3) := by decide +kernel
theorem dX0_appendWord_87 : decode cX0_appendWord 87 = .ok (.aload 6, 2) := by decide +kernel
theorem dX0_appendWord_89 : decode cX0_appendWord 89 = .ok (.areturn, 1) := by decide +kernel
theorem dX0_deleteWord_0 : decode cX0_deleteWord 0 = .ok (.aload_n 0, 1) := by decide +kernel
theorem dX0_deleteWord_1 : decode cX0_deleteWord 1 = .ok (.getfield 11, 3) := by decide +kernel
theorem dX0_deleteWord_4 : decode cX0_deleteWord 4 = .ok (.iload_n 1, 1) := by decide +kernel
theorem dX0_deleteWord_5 : decode cX0_deleteWord 5 = .ok (.aaload, 1) := by decide +kernel
theorem dX0_deleteWord_6 : decode cX0_deleteWord 6 = .ok (.astore_n 2, 1) := by decide +kernel
theorem dX0_deleteWord_7 : decode cX0_deleteWord 7 = .ok (.iload_n 1, 1) := by decide +kernel
theorem dX0_deleteWord_8 : decode cX0_deleteWord 8 = .ok (.iconst 1, 1) := by decide +kernel
theorem dX0_deleteWord_9 : decode cX0_deleteWord 9 = .ok (.iadd, 1) := by decide +kernel
theorem dX0_deleteWord_10 : decode cX0_deleteWord 10 = .ok (.istore_n 3, 1) := by decide +kernel
theorem dX0_deleteWord_11 : decode cX0_deleteWord 11 = .ok (.iload_n 3, 1) := by decide +kernel
theorem dX0_deleteWord_12 : decode cX0_deleteWord 12 = .ok (.aload_n 0, 1) := by decide +kernel
theorem dX0_deleteWord_13 : decode cX0_deleteWord 13 = .ok (.getfield 33, 3) := by decide +kernel
theorem dX0_deleteWord_16 : decode cX0_deleteWord 16 = .ok (.if_icmp .ge 23, 3) := by decide +kernel
theorem dX0_deleteWord_19 : decode cX0_deleteWord 19 = .ok (.aload_n 0, 1) := by decide +kernel
theorem dX0_deleteWord_20 : decode cX0_deleteWord 20 = .ok (.getfield 11, 3) := by decide +kernel
theorem dX0_deleteWord_23 : decode cX0_deleteWord 23 = .ok (.iload_n 3, 1) := by decide +kernel
theorem dX0_deleteWord_24 : decode cX0_deleteWord 24 = .ok (.iconst 1, 1) := by decide +kernel
theorem dX0_deleteWord_25 : decode cX0_deleteWord 25 = .ok (.isub, 1) := by decide +kernel
theorem dX0_deleteWord_26 : decode cX0_deleteWord 26 = .ok (.aload_n 0, 1) := by decide +kernel
theorem dX0_deleteWord_27 : decode cX0_deleteWord 27 = .ok (.getfield 11, 3) := by decide +kernel
theorem dX0_deleteWord_30 : decode cX0_deleteWord 30 = .ok (.iload_n 3, 1) := by decide +kernel
theorem dX0_deleteWord_31 : decode cX0_deleteWord 31 = .ok (.aaload, 1) := by decide +kernel
theorem dX0_deleteWord_32 : decode cX0_deleteWord 32 = .ok (.aastore, 1) := by decide +kernel
theorem dX0_deleteWord_33 : decode cX0_deleteWord 33 = .ok (.iinc 3 1, 3) := by decide +kernel
theorem dX0_deleteWord_36 : decode cX0_deleteWord 36 = .ok (.goto (-25), 3) := by decide +kernel
theorem dX0_deleteWord_39 : decode cX0_deleteWord 39 = .ok (.aload_n 0, 1) := by decide +kernel
theorem dX0_deleteWord_40 : decode cX0_deleteWord 40 = .ok (.dup, 1) := by decide +kernel
theorem dX0_deleteWord_41 : decode cX0_deleteWord 41 = .ok (.getfield 33, 3) := by decide +kernel
theorem dX0_deleteWord_44 : decode cX0_deleteWord 44 = .ok (.iconst 1, 1) := by decide +kernel
theorem dX0_deleteWord_45 : decode cX0_deleteWord 45 = .ok (.isub, 1) := by decide +kernel
theorem dX0_deleteWord_46 : decode cX0_deleteWord 46 = .ok (.putfield 33, 3) := by decide +kernel
theorem dX0_deleteWord_49 : decode cX0_deleteWord 49 = .ok (.aload_n 0, 1) := by decide +kernel
theorem dX0_deleteWord_50 : decode cX0_deleteWord 50 = .ok (.getfield 11, 3) := by decide +kernel
theorem dX0_deleteWord_53 : decode cX0_deleteWord 53 = .ok (.aload_n 0, 1) := by decide +kernel
theorem dX0_deleteWord_54 : decode cX0_deleteWord 54 = .ok (.getfield 33, 3) := by decide +kernel
theorem dX0_deleteWord_57 : decode cX0_deleteWord 57 = .ok (.aload_n 2, 1) := by decide +kernel
theorem dX0_deleteWord_58 : decode cX0_deleteWord 58 = .ok (.aastore, 1) := by decide +kernel
theorem dX0_deleteWord_59 : decode cX0_deleteWord 59 = .ok (.return_, 1) := by decide +kernel
theorem dX0_hasShotIn_0 : decode cX0_hasShotIn 0 = .ok (.iconst 0, 1) := by decide +kernel
theorem dX0_hasShotIn_1 : decode cX0_hasShotIn 1 = .ok (.istore_n 2, 1) := by decide +kernel
theorem dX0_hasShotIn_2 : decode cX0_hasShotIn 2 = .ok (.iload_n 2, 1) := by decide +kernel
theorem dX0_hasShotIn_3 : decode cX0_hasShotIn 3 = .ok (.aload_n 0, 1) := by decide +kernel
theorem dX0_hasShotIn_4 : decode cX0_hasShotIn 4 = .ok (.getfield 46, 3) := by decide +kernel
theorem dX0_hasShotIn_7 : decode cX0_hasShotIn 7 = .ok (.if_icmp .ge 21, 3) := by decide +kernel
theorem dX0_hasShotIn_10 : decode cX0_hasShotIn 10 = .ok (.aload_n 0, 1) := by decide +kernel
theorem dX0_hasShotIn_11 : decode cX0_hasShotIn 11 = .ok (.getfield 17, 3) := by decide +kernel
theorem dX0_hasShotIn_14 : decode cX0_hasShotIn 14 = .ok (.iload_n 2, 1) := by decide +kernel
theorem dX0_hasShotIn_15 : decode cX0_hasShotIn 15 = .ok (.iaload, 1) := by decide +kernel
theorem dX0_hasShotIn_16 : decode cX0_hasShotIn 16 = .ok (.iload_n 1, 1) := by decide +kernel
theorem dX0_hasShotIn_17 : decode cX0_hasShotIn 17 = .ok (.if_icmp .ne 5, 3) := by decide +kernel
theorem dX0_hasShotIn_20 : decode cX0_hasShotIn 20 = .ok (.iconst 1, 1) := by decide +kernel
theorem dX0_hasShotIn_21 : decode cX0_hasShotIn 21 = .ok (.ireturn, 1) := by decide +kernel
theorem dX0_hasShotIn_22 : decode cX0_hasShotIn 22 = .ok (.iinc 2 1, 3) := by decide +kernel
theorem dX0_hasShotIn_25 : decode cX0_hasShotIn 25 = .ok (.goto (-23), 3) := by decide +kernel
theorem dX0_hasShotIn_28 : decode cX0_hasShotIn 28 = .ok (.iconst 0, 1) := by decide +kernel
theorem dX0_hasShotIn_29 : decode cX0_hasShotIn 29 = .ok (.ireturn, 1) := by decide +kernel
theorem dX0_insertShot_0 : decode cX0_insertShot 0 = .ok (.aload_n 0, 1) := by decide +kernel
theorem dX0_insertShot_1 : decode cX0_insertShot 1 = .ok (.getfield 46, 3) := by decide +kernel
theorem dX0_insertShot_4 : decode cX0_insertShot 4 = .ok (.istore_n 2, 1) := by decide +kernel
theorem dX0_insertShot_5 : decode cX0_insertShot 5 = .ok (.iload_n 2, 1) := by decide +kernel
theorem dX0_insertShot_6 : decode cX0_insertShot 6 = .ok (.ifCond .le 35, 3) := by decide +kernel
theorem dX0_insertShot_9 : decode cX0_insertShot 9 = .ok (.aload_n 0, 1) := by decide +kernel
theorem dX0_insertShot_10 : decode cX0_insertShot 10 = .ok (.getfield 17, 3) := by decide +kernel
theorem dX0_insertShot_13 : decode cX0_insertShot 13 = .ok (.iload_n 2, 1) := by decide +kernel
theorem dX0_insertShot_14 : decode cX0_insertShot 14 = .ok (.iconst 1, 1) := by decide +kernel
theorem dX0_insertShot_15 : decode cX0_insertShot 15 = .ok (.isub, 1) := by decide +kernel
theorem dX0_insertShot_16 : decode cX0_insertShot 16 = .ok (.iaload, 1) := by decide +kernel
theorem dX0_insertShot_17 : decode cX0_insertShot 17 = .ok (.iload_n 1, 1) := by decide +kernel
theorem dX0_insertShot_18 : decode cX0_insertShot 18 = .ok (.if_icmp .le 23, 3) := by decide +kernel
theorem dX0_insertShot_21 : decode cX0_insertShot 21 = .ok (.aload_n 0, 1) := by decide +kernel
theorem dX0_insertShot_22 : decode cX0_insertShot 22 = .ok (.getfield 17, 3) := by decide +kernel
theorem dX0_insertShot_25 : decode cX0_insertShot 25 = .ok (.iload_n 2, 1) := by decide +kernel
theorem dX0_insertShot_26 : decode cX0_insertShot 26 = .ok (.aload_n 0, 1) := by decide +kernel
theorem dX0_insertShot_27 : decode cX0_insertShot 27 = .ok (.getfield 17, 3) := by decide +kernel
theorem dX0_insertShot_30 : decode cX0_insertShot 30 = .ok (.iload_n 2, 1) := by decide +kernel
theorem dX0_insertShot_31 : decode cX0_insertShot 31 = .ok (.iconst 1, 1) := by decide +kernel
theorem dX0_insertShot_32 : decode cX0_insertShot 32 = .ok (.isub, 1) := by decide +kernel
theorem dX0_insertShot_33 : decode cX0_insertShot 33 = .ok (.iaload, 1) := by decide +kernel
theorem dX0_insertShot_34 : decode cX0_insertShot 34 = .ok (.iastore, 1) := by decide +kernel
theorem dX0_insertShot_35 : decode cX0_insertShot 35 = .ok (.iinc 2 (-1), 3) := by decide +kernel
theorem dX0_insertShot_38 : decode cX0_insertShot 38 = .ok (.goto (-33), 3) := by decide +kernel
theorem dX0_insertShot_41 : decode cX0_insertShot 41 = .ok (.aload_n 0, 1) := by decide +kernel
theorem dX0_insertShot_42 : decode cX0_insertShot 42 = .ok (.getfield 17, 3) := by decide +kernel
theorem dX0_insertShot_45 : decode cX0_insertShot 45 = .ok (.iload_n 2, 1) := by decide +kernel
theorem dX0_insertShot_46 : decode cX0_insertShot 46 = .ok (.iload_n 1, 1) := by decide +kernel
theorem dX0_insertShot_47 : decode cX0_insertShot 47 = .ok (.iastore, 1) := by decide +kernel
theorem dX0_insertShot_48 : decode cX0_insertShot 48 = .ok (.aload_n 0, 1) := by decide +kernel
theorem dX0_insertShot_49 : decode cX0_insertShot 49 = .ok (.dup, 1) := by decide +kernel
theorem dX0_insertShot_50 : decode cX0_insertShot 50 = .ok (.getfield 46, 3) := by decide +kernel
theorem dX0_insertShot_53 : decode cX0_insertShot 53 = .ok (.iconst 1, 1) := by decide +kernel
theorem dX0_insertShot_54 : decode cX0_insertShot 54 = .ok (.iadd, 1) := by decide +kernel
theorem dX0_insertShot_55 : decode cX0_insertShot 55 = .ok (.putfield 46, 3) := by decide +kernel
theorem dX0_insertShot_58 : decode cX0_insertShot 58 = .ok (.return_, 1) := by decide +kernel
theorem dX0_deleteShot_0 : decode cX0_deleteShot 0 = .ok (.iconst 0, 1) := by decide +kernel
theorem dX0_deleteShot_1 : decode cX0_deleteShot 1 = .ok (.istore_n 2, 1) := by decide +kernel
theorem dX0_deleteShot_2 : decode cX0_deleteShot 2 = .ok (.iconst 0, 1) := by decide +kernel
theorem dX0_deleteShot_3 : decode cX0_deleteShot 3 = .ok (.istore_n 3, 1) := by decide +kernel
theorem dX0_deleteShot_4 : decode cX0_deleteShot 4 = .ok (.iload_n 3, 1) := by decide +kernel
theorem dX0_deleteShot_5 : decode cX0_deleteShot 5 = .ok (.aload_n 0, 1) := by decide +kernel
theorem dX0_deleteShot_6 : decode cX0_deleteShot 6 = .ok (.getfield 46, 3) := by decide +kernel
theorem dX0_deleteShot_9 : decode cX0_deleteShot 9 = .ok (.if_icmp .ge 34, 3) := by decide +kernel
theorem dX0_deleteShot_12 : decode cX0_deleteShot 12 = .ok (.aload_n 0, 1) := by decide +kernel
theorem dX0_deleteShot_13 : decode cX0_deleteShot 13 = .ok (.getfield 17, 3) := by decide +kernel
theorem dX0_deleteShot_16 : decode cX0_deleteShot 16 = .ok (.iload_n 3, 1) := by decide +kernel
theorem dX0_deleteShot_17 : decode cX0_deleteShot 17 = .ok (.iaload, 1) := by decide +kernel
theorem dX0_deleteShot_18 : decode cX0_deleteShot 18 = .ok (.iload_n 1, 1) := by decide +kernel
theorem dX0_deleteShot_19 : decode cX0_deleteShot 19 = .ok (.if_icmp .eq 18, 3) := by decide +kernel
theorem dX0_deleteShot_22 : decode cX0_deleteShot 22 = .ok (.aload_n 0, 1) := by decide +kernel
theorem dX0_deleteShot_23 : decode cX0_deleteShot 23 = .ok (.getfield 17, 3) := by decide +kernel
theorem dX0_deleteShot_26 : decode cX0_deleteShot 26 = .ok (.iload_n 2, 1) := by decide +kernel
theorem dX0_deleteShot_27 : decode cX0_deleteShot 27 = .ok (.aload_n 0, 1) := by decide +kernel
theorem dX0_deleteShot_28 : decode cX0_deleteShot 28 = .ok (.getfield 17, 3) := by decide +kernel
theorem dX0_deleteShot_31 : decode cX0_deleteShot 31 = .ok (.iload_n 3, 1) := by decide +kernel
theorem dX0_deleteShot_32 : decode cX0_deleteShot 32 = .ok (.iaload, 1) := by decide +kernel
theorem dX0_deleteShot_33 : decode cX0_deleteShot 33 = .ok (.iastore, 1) := by decide +kernel
theorem dX0_deleteShot_34 : decode cX0_deleteShot 34 = .ok (.iinc 2 1, 3) := by decide +kernel
theorem dX0_deleteShot_37 : decode cX0_deleteShot 37 = .ok (.iinc 3 1, 3) := by decide +kernel
theorem dX0_deleteShot_40 : decode cX0_deleteShot 40 = .ok (.goto (-36), 3) := by decide +kernel
theorem dX0_deleteShot_43 : decode cX0_deleteShot 43 = .ok (.aload_n 0, 1) := by decide +kernel
theorem dX0_deleteShot_44 : decode cX0_deleteShot 44 = .ok (.iload_n 2, 1) := by decide +kernel
theorem dX0_deleteShot_45 : decode cX0_deleteShot 45 = .ok (.putfield 46, 3) := by decide +kernel
theorem dX0_deleteShot_48 : decode cX0_deleteShot 48 = .ok (.return_, 1) := by decide +kernel
theorem dX0_countPut_0 : decode cX0_countPut 0 = .ok (.iconst 0, 1) := by decide +kernel
theorem dX0_countPut_1 : decode cX0_countPut 1 = .ok (.istore_n 1, 1) := by decide +kernel
theorem dX0_countPut_2 : decode cX0_countPut 2 = .ok (.iconst 0, 1) := by decide +kernel
theorem dX0_countPut_3 : decode cX0_countPut 3 = .ok (.istore_n 2, 1) := by decide +kernel
theorem dX0_countPut_4 : decode cX0_countPut 4 = .ok (.iload_n 2, 1) := by decide +kernel
theorem dX0_countPut_5 : decode cX0_countPut 5 = .ok (.aload_n 0, 1) := by decide +kernel
theorem dX0_countPut_6 : decode cX0_countPut 6 = .ok (.getfield 33, 3) := by decide +kernel
theorem dX0_countPut_9 : decode cX0_countPut 9 = .ok (.if_icmp .ge 24, 3) := by decide +kernel
theorem dX0_countPut_12 : decode cX0_countPut 12 = .ok (.aload_n 0, 1) := by decide +kernel
theorem dX0_countPut_13 : decode cX0_countPut 13 = .ok (.getfield 11, 3) := by decide +kernel
theorem dX0_countPut_16 : decode cX0_countPut 16 = .ok (.iload_n 2, 1) := by decide +kernel
theorem dX0_countPut_17 : decode cX0_countPut 17 = .ok (.aaload, 1) := by decide +kernel
theorem dX0_countPut_18 : decode cX0_countPut 18 = .ok (.getfield 67, 3) := by decide +kernel
theorem dX0_countPut_21 : decode cX0_countPut 21 = .ok (.ifCond .eq 6, 3) := by decide +kernel
theorem dX0_countPut_24 : decode cX0_countPut 24 = .ok (.iinc 1 1, 3) := by decide +kernel
theorem dX0_countPut_27 : decode cX0_countPut 27 = .ok (.iinc 2 1, 3) := by decide +kernel
theorem dX0_countPut_30 : decode cX0_countPut 30 = .ok (.goto (-26), 3) := by decide +kernel
theorem dX0_countPut_33 : decode cX0_countPut 33 = .ok (.iload_n 1, 1) := by decide +kernel
theorem dX0_countPut_34 : decode cX0_countPut 34 = .ok (.ireturn, 1) := by decide +kernel
theorem dX0_countMeetingPairs_0 : decode cX0_countMeetingPairs 0 = .ok (.iconst 0, 1) := by decide +kernel
theorem dX0_countMeetingPairs_1 : decode cX0_countMeetingPairs 1 = .ok (.istore_n 1, 1) := by decide +kernel
theorem dX0_countMeetingPairs_2 : decode cX0_countMeetingPairs 2 = .ok (.iconst 0, 1) := by decide +kernel
theorem dX0_countMeetingPairs_3 : decode cX0_countMeetingPairs 3 = .ok (.istore_n 2, 1) := by decide +kernel
theorem dX0_countMeetingPairs_4 : decode cX0_countMeetingPairs 4 = .ok (.iload_n 2, 1) := by decide +kernel
theorem dX0_countMeetingPairs_5 : decode cX0_countMeetingPairs 5 = .ok (.aload_n 0, 1) := by decide +kernel
theorem dX0_countMeetingPairs_6 : decode cX0_countMeetingPairs 6 = .ok (.getfield 33, 3) := by decide +kernel
theorem dX0_countMeetingPairs_9 : decode cX0_countMeetingPairs 9 = .ok (.if_icmp .ge 51, 3) := by decide +kernel
theorem dX0_countMeetingPairs_12 : decode cX0_countMeetingPairs 12 = .ok (.iload_n 2, 1) := by decide +kernel
theorem dX0_countMeetingPairs_13 : decode cX0_countMeetingPairs 13 = .ok (.iconst 1, 1) := by decide +kernel
theorem dX0_countMeetingPairs_14 : decode cX0_countMeetingPairs 14 = .ok (.iadd, 1) := by decide +kernel
theorem dX0_countMeetingPairs_15 : decode cX0_countMeetingPairs 15 = .ok (.istore_n 3, 1) := by decide +kernel
theorem dX0_countMeetingPairs_16 : decode cX0_countMeetingPairs 16 = .ok (.iload_n 3, 1) := by decide +kernel
theorem dX0_countMeetingPairs_17 : decode cX0_countMeetingPairs 17 = .ok (.aload_n 0, 1) := by decide +kernel
theorem dX0_countMeetingPairs_18 : decode cX0_countMeetingPairs 18 = .ok (.getfield 33, 3) := by decide +kernel
theorem dX0_countMeetingPairs_21 : decode cX0_countMeetingPairs 21 = .ok (.if_icmp .ge 33, 3) := by decide +kernel
theorem dX0_countMeetingPairs_24 : decode cX0_countMeetingPairs 24 = .ok (.aload_n 0, 1) := by decide +kernel
theorem dX0_countMeetingPairs_25 : decode cX0_countMeetingPairs 25 = .ok (.aload_n 0, 1) := by decide +kernel
theorem dX0_countMeetingPairs_26 : decode cX0_countMeetingPairs 26 = .ok (.getfield 11, 3) := by decide +kernel
theorem dX0_countMeetingPairs_29 : decode cX0_countMeetingPairs 29 = .ok (.iload_n 2, 1) := by decide +kernel
theorem dX0_countMeetingPairs_30 : decode cX0_countMeetingPairs 30 = .ok (.aaload, 1) := by decide +kernel
theorem dX0_countMeetingPairs_31 : decode cX0_countMeetingPairs 31 = .ok (.aload_n 0, 1) := by decide +kernel
theorem dX0_countMeetingPairs_32 : decode cX0_countMeetingPairs 32 = .ok (.getfield 11, 3) := by decide +kernel
theorem dX0_countMeetingPairs_35 : decode cX0_countMeetingPairs 35 = .ok (.iload_n 3, 1) := by decide +kernel
theorem dX0_countMeetingPairs_36 : decode cX0_countMeetingPairs 36 = .ok (.aaload, 1) := by decide +kernel
theorem dX0_countMeetingPairs_37 : decode cX0_countMeetingPairs 37 = .ok (.invokevirtual 71, 3) := by decide +kernel
theorem dX0_countMeetingPairs_40 : decode cX0_countMeetingPairs 40 = .ok (.bipush (-19), 2) := by decide +kernel
theorem dX0_countMeetingPairs_42 : decode cX0_countMeetingPairs 42 = .ok (.if_icmp .eq 6, 3) := by decide +kernel
theorem dX0_countMeetingPairs_45 : decode cX0_countMeetingPairs 45 = .ok (.iinc 1 1, 3) := by decide +kernel
theorem dX0_countMeetingPairs_48 : decode cX0_countMeetingPairs 48 = .ok (.iinc 3 1, 3) := by decide +kernel
theorem dX0_countMeetingPairs_51 : decode cX0_countMeetingPairs 51 = .ok (.goto (-35), 3) := by decide +kernel
theorem dX0_countMeetingPairs_54 : decode cX0_countMeetingPairs 54 = .ok (.iinc 2 1, 3) := by decide +kernel
theorem dX0_countMeetingPairs_57 : decode cX0_countMeetingPairs 57 = .ok (.goto (-53), 3) := by decide +kernel
theorem dX0_countMeetingPairs_60 : decode cX0_countMeetingPairs 60 = .ok (.iload_n 1, 1) := by decide +kernel
theorem dX0_countMeetingPairs_61 : decode cX0_countMeetingPairs 61 = .ok (.ireturn, 1) := by decide +kernel
theorem dX0_cellsMoved_0 : decode cX0_cellsMoved 0 = .ok (.aload_n 0, 1) := by decide +kernel
theorem dX0_cellsMoved_1 : decode cX0_cellsMoved 1 = .ok (.getfield 21, 3) := by decide +kernel
theorem dX0_cellsMoved_4 : decode cX0_cellsMoved 4 = .ok (.i2f, 1) := by decide +kernel
theorem dX0_cellsMoved_5 : decode cX0_cellsMoved 5 = .ok (.ldc 75, 2) := by decide +kernel
theorem dX0_cellsMoved_7 : decode cX0_cellsMoved 7 = .ok (.fdiv, 1) := by decide +kernel
theorem dX0_cellsMoved_8 : decode cX0_cellsMoved 8 = .ok (.fstore_n 2, 1) := by decide +kernel
theorem dX0_cellsMoved_9 : decode cX0_cellsMoved 9 = .ok (.iload_n 1, 1) := by decide +kernel
theorem dX0_cellsMoved_10 : decode cX0_cellsMoved 10 = .ok (.iconst 1, 1) := by decide +kernel
theorem dX0_cellsMoved_11 : decode cX0_cellsMoved 11 = .ok (.if_icmp .ge 7, 3) := by decide +kernel
theorem dX0_cellsMoved_14 : decode cX0_cellsMoved 14 = .ok (.iconst 0, 1) := by decide +kernel
theorem dX0_cellsMoved_15 : decode cX0_cellsMoved 15 = .ok (.goto 8, 3) := by decide +kernel
theorem dX0_cellsMoved_18 : decode cX0_cellsMoved 18 = .ok (.iload_n 1, 1) := by decide +kernel
theorem dX0_cellsMoved_19 : decode cX0_cellsMoved 19 = .ok (.i2f, 1) := by decide +kernel
theorem dX0_cellsMoved_20 : decode cX0_cellsMoved 20 = .ok (.fload_n 2, 1) := by decide +kernel
theorem dX0_cellsMoved_21 : decode cX0_cellsMoved 21 = .ok (.fmul, 1) := by decide +kernel
theorem dX0_cellsMoved_22 : decode cX0_cellsMoved 22 = .ok (.f2i, 1) := by decide +kernel
theorem dX0_cellsMoved_23 : decode cX0_cellsMoved 23 = .ok (.ireturn, 1) := by decide +kernel
theorem dX0_rowOf_0 : decode cX0_rowOf 0 = .ok (.aload_n 1, 1) := by decide +kernel
theorem dX0_rowOf_1 : decode cX0_rowOf 1 = .ok (.getfield 64, 3) := by decide +kernel
theorem dX0_rowOf_4 : decode cX0_rowOf 4 = .ok (.lookupswitch 58 #[(3, 28), (4, 43)], 28) := by decide +kernel
theorem dX0_rowOf_32 : decode cX0_rowOf 32 = .ok (.aload_n 1, 1) := by decide +kernel
theorem dX0_rowOf_33 : decode cX0_rowOf 33 = .ok (.getfield 76, 3) := by decide +kernel
theorem dX0_rowOf_36 : decode cX0_rowOf 36 = .ok (.aload_n 0, 1) := by decide +kernel
theorem dX0_rowOf_37 : decode cX0_rowOf 37 = .ok (.aload_n 1, 1) := by decide +kernel
theorem dX0_rowOf_38 : decode cX0_rowOf 38 = .ok (.iload_n 2, 1) := by decide +kernel
theorem dX0_rowOf_39 : decode cX0_rowOf 39 = .ok (.invokevirtual 79, 3) := by decide +kernel
theorem dX0_rowOf_42 : decode cX0_rowOf 42 = .ok (.invokevirtual 83, 3) := by decide +kernel
theorem dX0_rowOf_45 : decode cX0_rowOf 45 = .ok (.isub, 1) := by decide +kernel
theorem dX0_rowOf_46 : decode cX0_rowOf 46 = .ok (.ireturn, 1) := by decide +kernel
theorem dX0_rowOf_47 : decode cX0_rowOf 47 = .ok (.aload_n 1, 1) := by decide +kernel
theorem dX0_rowOf_48 : decode cX0_rowOf 48 = .ok (.getfield 76, 3) := by decide +kernel
theorem dX0_rowOf_51 : decode cX0_rowOf 51 = .ok (.aload_n 0, 1) := by decide +kernel
theorem dX0_rowOf_52 : decode cX0_rowOf 52 = .ok (.aload_n 1, 1) := by decide +kernel
theorem dX0_rowOf_53 : decode cX0_rowOf 53 = .ok (.iload_n 2, 1) := by decide +kernel
theorem dX0_rowOf_54 : decode cX0_rowOf 54 = .ok (.invokevirtual 79, 3) := by decide +kernel
theorem dX0_rowOf_57 : decode cX0_rowOf 57 = .ok (.invokevirtual 83, 3) := by decide +kernel
theorem dX0_rowOf_60 : decode cX0_rowOf 60 = .ok (.iadd, 1) := by decide +kernel
theorem dX0_rowOf_61 : decode cX0_rowOf 61 = .ok (.ireturn, 1) := by decide +kernel
theorem dX0_rowOf_62 : decode cX0_rowOf 62 = .ok (.aload_n 1, 1) := by decide +kernel
theorem dX0_rowOf_63 : decode cX0_rowOf 63 = .ok (.getfield 76, 3) := by decide +kernel
theorem dX0_rowOf_66 : decode cX0_rowOf 66 = .ok (.ireturn, 1) := by decide +kernel
theorem dX0_columnOf_0 : decode cX0_columnOf 0 = .ok (.aload_n 1, 1) := by decide +kernel
theorem dX0_columnOf_1 : decode cX0_columnOf 1 = .ok (.getfield 64, 3) := by decide +kernel
theorem dX0_columnOf_4 : decode cX0_columnOf 4 = .ok (.lookupswitch 58 #[(1, 28), (2, 43)], 28) := by decide +kernel
theorem dX0_columnOf_32 : decode cX0_columnOf 32 = .ok (.aload_n 1, 1) := by decide +kernel
theorem dX0_columnOf_33 : decode cX0_columnOf 33 = .ok (.getfield 86, 3) := by decide +kernel
theorem dX0_columnOf_36 : decode cX0_columnOf 36 = .ok (.aload_n 0, 1) := by decide +kernel
theorem dX0_columnOf_37 : decode cX0_columnOf 37 = .ok (.aload_n 1, 1) := by decide +kernel
theorem dX0_columnOf_38 : decode cX0_columnOf 38 = .ok (.iload_n 2, 1) := by decide +kernel
theorem dX0_columnOf_39 : decode cX0_columnOf 39 = .ok (.invokevirtual 79, 3) := by decide +kernel
theorem dX0_columnOf_42 : decode cX0_columnOf 42 = .ok (.invokevirtual 83, 3) := by decide +kernel
theorem dX0_columnOf_45 : decode cX0_columnOf 45 = .ok (.isub, 1) := by decide +kernel
theorem dX0_columnOf_46 : decode cX0_columnOf 46 = .ok (.ireturn, 1) := by decide +kernel
theorem dX0_columnOf_47 : decode cX0_columnOf 47 = .ok (.aload_n 1, 1) := by decide +kernel
theorem dX0_columnOf_48 : decode cX0_columnOf 48 = .ok (.getfield 86, 3) := by decide +kernel
theorem dX0_columnOf_51 : decode cX0_columnOf 51 = .ok (.aload_n 0, 1) := by decide +kernel
theorem dX0_columnOf_52 : decode cX0_columnOf 52 = .ok (.aload_n 1, 1) := by decide +kernel
theorem dX0_columnOf_53 : decode cX0_columnOf 53 = .ok (.iload_n 2, 1) := by decide +kernel
theorem dX0_columnOf_54 : decode cX0_columnOf 54 = .ok (.invokevirtual 79, 3) := by decide +kernel
theorem dX0_columnOf_57 : decode cX0_columnOf 57 = .ok (.invokevirtual 83, 3) := by decide +kernel
theorem dX0_columnOf_60 : decode cX0_columnOf 60 = .ok (.iadd, 1) := by decide +kernel
theorem dX0_columnOf_61 : decode cX0_columnOf 61 = .ok (.ireturn, 1) := by decide +kernel
theorem dX0_columnOf_62 : decode cX0_columnOf 62 = .ok (.aload_n 1, 1) := by decide +kernel
theorem dX0_columnOf_63 : decode cX0_columnOf 63 = .ok (.getfield 86, 3) := by decide +kernel
theorem dX0_columnOf_66 : decode cX0_columnOf 66 = .ok (.ireturn, 1) := by decide +kernel
theorem dX0_goneFrom_0 : decode cX0_goneFrom 0 = .ok (.aload_n 1, 1) := by decide +kernel
theorem dX0_goneFrom_1 : decode cX0_goneFrom 1 = .ok (.invokevirtual 89, 3) := by decide +kernel
theorem dX0_goneFrom_4 : decode cX0_goneFrom 4 = .ok (.istore_n 2, 1) := by decide +kernel
theorem dX0_goneFrom_5 : decode cX0_goneFrom 5 = .ok (.aload_n 1, 1) := by decide +kernel
theorem dX0_goneFrom_6 : decode cX0_goneFrom 6 = .ok (.getfield 64, 3) := by decide +kernel
theorem dX0_goneFrom_9 : decode cX0_goneFrom 9 = .ok (.ifCond .eq 13, 3) := by decide +kernel
theorem dX0_goneFrom_12 : decode cX0_goneFrom 12 = .ok (.iload_n 2, 1) := by decide +kernel
theorem dX0_goneFrom_13 : decode cX0_goneFrom 13 = .ok (.aload_n 0, 1) := by decide +kernel
theorem dX0_goneFrom_14 : decode cX0_goneFrom 14 = .ok (.aload_n 1, 1) := by decide +kernel
theorem dX0_goneFrom_15 : decode cX0_goneFrom 15 = .ok (.invokevirtual 93, 3) := by decide +kernel
theorem dX0_goneFrom_18 : decode cX0_goneFrom 18 = .ok (.iconst 1, 1) := by decide +kernel
theorem dX0_goneFrom_19 : decode cX0_goneFrom 19 = .ok (.isub, 1) := by decide +kernel
theorem dX0_goneFrom_20 : decode cX0_goneFrom 20 = .ok (.iadd, 1) := by decide +kernel
theorem dX0_goneFrom_21 : decode cX0_goneFrom 21 = .ok (.istore_n 2, 1) := by decide +kernel
theorem dX0_goneFrom_22 : decode cX0_goneFrom 22 = .ok (.iconst 0, 1) := by decide +kernel
theorem dX0_goneFrom_23 : decode cX0_goneFrom 23 = .ok (.istore_n 3, 1) := by decide +kernel
theorem dX0_goneFrom_24 : decode cX0_goneFrom 24 = .ok (.iload_n 3, 1) := by decide +kernel
theorem dX0_goneFrom_25 : decode cX0_goneFrom 25 = .ok (.aload_n 0, 1) := by decide +kernel
theorem dX0_goneFrom_26 : decode cX0_goneFrom 26 = .ok (.getfield 46, 3) := by decide +kernel
theorem dX0_goneFrom_29 : decode cX0_goneFrom 29 = .ok (.if_icmp .ge 33, 3) := by decide +kernel
theorem dX0_goneFrom_32 : decode cX0_goneFrom 32 = .ok (.aload_n 0, 1) := by decide +kernel
theorem dX0_goneFrom_33 : decode cX0_goneFrom 33 = .ok (.getfield 17, 3) := by decide +kernel
theorem dX0_goneFrom_36 : decode cX0_goneFrom 36 = .ok (.iload_n 3, 1) := by decide +kernel
theorem dX0_goneFrom_37 : decode cX0_goneFrom 37 = .ok (.iaload, 1) := by decide +kernel
theorem dX0_goneFrom_38 : decode cX0_goneFrom 38 = .ok (.aload_n 1, 1) := by decide +kernel
theorem dX0_goneFrom_39 : decode cX0_goneFrom 39 = .ok (.getfield 55, 3) := by decide +kernel
theorem dX0_goneFrom_42 : decode cX0_goneFrom 42 = .ok (.if_icmp .le 14, 3) := by decide +kernel
theorem dX0_goneFrom_45 : decode cX0_goneFrom 45 = .ok (.iload_n 2, 1) := by decide +kernel
theorem dX0_goneFrom_46 : decode cX0_goneFrom 46 = .ok (.aload_n 0, 1) := by decide +kernel
theorem dX0_goneFrom_47 : decode cX0_goneFrom 47 = .ok (.getfield 17, 3) := by decide +kernel
theorem dX0_goneFrom_50 : decode cX0_goneFrom 50 = .ok (.iload_n 3, 1) := by decide +kernel
theorem dX0_goneFrom_51 : decode cX0_goneFrom 51 = .ok (.iaload, 1) := by decide +kernel
theorem dX0_goneFrom_52 : decode cX0_goneFrom 52 = .ok (.invokestatic 97, 3) := by decide +kernel
theorem dX0_goneFrom_55 : decode cX0_goneFrom 55 = .ok (.ireturn, 1) := by decide +kernel
theorem dX0_goneFrom_56 : decode cX0_goneFrom 56 = .ok (.iinc 3 1, 3) := by decide +kernel
theorem dX0_goneFrom_59 : decode cX0_goneFrom 59 = .ok (.goto (-35), 3) := by decide +kernel
theorem dX0_goneFrom_62 : decode cX0_goneFrom 62 = .ok (.iload_n 2, 1) := by decide +kernel
theorem dX0_goneFrom_63 : decode cX0_goneFrom 63 = .ok (.ireturn, 1) := by decide +kernel
theorem dX0_stepsToLeave_0 : decode cX0_stepsToLeave 0 = .ok (.aload_n 1, 1) := by decide +kernel
theorem dX0_stepsToLeave_1 : decode cX0_stepsToLeave 1 = .ok (.invokevirtual 103, 3) := by decide +kernel
theorem dX0_stepsToLeave_4 : decode cX0_stepsToLeave 4 = .ok (.istore_n 2, 1) := by decide +kernel
theorem dX0_stepsToLeave_5 : decode cX0_stepsToLeave 5 = .ok (.iconst 1, 1) := by decide +kernel
theorem dX0_stepsToLeave_6 : decode cX0_stepsToLeave 6 = .ok (.istore_n 3, 1) := by decide +kernel
theorem dX0_stepsToLeave_7 : decode cX0_stepsToLeave 7 = .ok (.iload_n 3, 1) := by decide +kernel
theorem dX0_stepsToLeave_8 : decode cX0_stepsToLeave 8 = .ok (.bipush 80, 2) := by decide +kernel
theorem dX0_stepsToLeave_10 : decode cX0_stepsToLeave 10 = .ok (.if_icmp .ge 20, 3) := by decide +kernel
theorem dX0_stepsToLeave_13 : decode cX0_stepsToLeave 13 = .ok (.aload_n 0, 1) := by decide +kernel
theorem dX0_stepsToLeave_14 : decode cX0_stepsToLeave 14 = .ok (.iload_n 3, 1) := by decide +kernel
theorem dX0_stepsToLeave_15 : decode cX0_stepsToLeave 15 = .ok (.invokevirtual 83, 3) := by decide +kernel
theorem dX0_stepsToLeave_18 : decode cX0_stepsToLeave 18 = .ok (.iload_n 2, 1) := by decide +kernel
theorem dX0_stepsToLeave_19 : decode cX0_stepsToLeave 19 = .ok (.if_icmp .lt 5, 3) := by decide +kernel
theorem dX0_stepsToLeave_22 : decode cX0_stepsToLeave 22 = .ok (.iload_n 3, 1) := by decide +kernel
theorem dX0_stepsToLeave_23 : decode cX0_stepsToLeave 23 = .ok (.ireturn, 1) := by decide +kernel
theorem dX0_stepsToLeave_24 : decode cX0_stepsToLeave 24 = .ok (.iinc 3 1, 3) := by decide +kernel
theorem dX0_stepsToLeave_27 : decode cX0_stepsToLeave 27 = .ok (.goto (-20), 3) := by decide +kernel
theorem dX0_stepsToLeave_30 : decode cX0_stepsToLeave 30 = .ok (.bipush 80, 2) := by decide +kernel
theorem dX0_stepsToLeave_32 : decode cX0_stepsToLeave 32 = .ok (.ireturn, 1) := by decide +kernel
theorem dX0_isVisible_0 : decode cX0_isVisible 0 = .ok (.aload_n 1, 1) := by decide +kernel
theorem dX0_isVisible_1 : decode cX0_isVisible 1 = .ok (.getfield 67, 3) := by decide +kernel
theorem dX0_isVisible_4 : decode cX0_isVisible 4 = .ok (.ifCond .eq 24, 3) := by decide +kernel
theorem dX0_isVisible_7 : decode cX0_isVisible 7 = .ok (.iload_n 2, 1) := by decide +kernel
theorem dX0_isVisible_8 : decode cX0_isVisible 8 = .ok (.aload_n 1, 1) := by decide +kernel
theorem dX0_isVisible_9 : decode cX0_isVisible 9 = .ok (.getfield 55, 3) := by decide +kernel
theorem dX0_isVisible_12 : decode cX0_isVisible 12 = .ok (.if_icmp .lt 16, 3) := by decide +kernel
theorem dX0_isVisible_15 : decode cX0_isVisible 15 = .ok (.iload_n 2, 1) := by decide +kernel
theorem dX0_isVisible_16 : decode cX0_isVisible 16 = .ok (.aload_n 0, 1) := by decide +kernel
theorem dX0_isVisible_17 : decode cX0_isVisible 17 = .ok (.aload_n 1, 1) := by decide +kernel
theorem dX0_isVisible_18 : decode cX0_isVisible 18 = .ok (.invokevirtual 106, 3) := by decide +kernel
theorem dX0_isVisible_21 : decode cX0_isVisible 21 = .ok (.if_icmp .ge 7, 3) := by decide +kernel
theorem dX0_isVisible_24 : decode cX0_isVisible 24 = .ok (.iconst 1, 1) := by decide +kernel
theorem dX0_isVisible_25 : decode cX0_isVisible 25 = .ok (.goto 4, 3) := by decide +kernel
theorem dX0_isVisible_28 : decode cX0_isVisible 28 = .ok (.iconst 0, 1) := by decide +kernel
theorem dX0_isVisible_29 : decode cX0_isVisible 29 = .ok (.ireturn, 1) := by decide +kernel
theorem dX0_visibleSet_0 : decode cX0_visibleSet 0 = .ok (.iconst 0, 1) := by decide +kernel
theorem dX0_visibleSet_1 : decode cX0_visibleSet 1 = .ok (.istore_n 2, 1) := by decide +kernel
theorem dX0_visibleSet_2 : decode cX0_visibleSet 2 = .ok (.iconst 0, 1) := by decide +kernel
theorem dX0_visibleSet_3 : decode cX0_visibleSet 3 = .ok (.istore_n 3, 1) := by decide +kernel
theorem dX0_visibleSet_4 : decode cX0_visibleSet 4 = .ok (.iload_n 3, 1) := by decide +kernel
theorem dX0_visibleSet_5 : decode cX0_visibleSet 5 = .ok (.aload_n 0, 1) := by decide +kernel
theorem dX0_visibleSet_6 : decode cX0_visibleSet 6 = .ok (.getfield 33, 3) := by decide +kernel
theorem dX0_visibleSet_9 : decode cX0_visibleSet 9 = .ok (.if_icmp .ge 29, 3) := by decide +kernel
theorem dX0_visibleSet_12 : decode cX0_visibleSet 12 = .ok (.aload_n 0, 1) := by decide +kernel
theorem dX0_visibleSet_13 : decode cX0_visibleSet 13 = .ok (.aload_n 0, 1) := by decide +kernel
theorem dX0_visibleSet_14 : decode cX0_visibleSet 14 = .ok (.getfield 11, 3) := by decide +kernel
theorem dX0_visibleSet_17 : decode cX0_visibleSet 17 = .ok (.iload_n 3, 1) := by decide +kernel
theorem dX0_visibleSet_18 : decode cX0_visibleSet 18 = .ok (.aaload, 1) := by decide +kernel
theorem dX0_visibleSet_19 : decode cX0_visibleSet 19 = .ok (.iload_n 1, 1) := by decide +kernel
theorem dX0_visibleSet_20 : decode cX0_visibleSet 20 = .ok (.invokevirtual 109, 3) := by decide +kernel
theorem dX0_visibleSet_23 : decode cX0_visibleSet 23 = .ok (.ifCond .eq 9, 3) := by decide +kernel
theorem dX0_visibleSet_26 : decode cX0_visibleSet 26 = .ok (.iload_n 2, 1) := by decide +kernel
theorem dX0_visibleSet_27 : decode cX0_visibleSet 27 = .ok (.iconst 1, 1) := by decide +kernel
theorem dX0_visibleSet_28 : decode cX0_visibleSet 28 = .ok (.iload_n 3, 1) := by decide +kernel
theorem dX0_visibleSet_29 : decode cX0_visibleSet 29 = .ok (.ishl, 1) := by decide +kernel
theorem dX0_visibleSet_30 : decode cX0_visibleSet 30 = .ok (.ior, 1) := by decide +kernel
theorem dX0_visibleSet_31 : decode cX0_visibleSet 31 = .ok (.istore_n 2, 1) := by decide +kernel
theorem dX0_visibleSet_32 : decode cX0_visibleSet 32 = .ok (.iinc 3 1, 3) := by decide +kernel
theorem dX0_visibleSet_35 : decode cX0_visibleSet 35 = .ok (.goto (-31), 3) := by decide +kernel
theorem dX0_visibleSet_38 : decode cX0_visibleSet 38 = .ok (.iload_n 2, 1) := by decide +kernel
theorem dX0_visibleSet_39 : decode cX0_visibleSet 39 = .ok (.ireturn, 1) := by decide +kernel
theorem dX0_characterIn_0 : decode cX0_characterIn 0 = .ok (.iconst 0, 1) := by decide +kernel
theorem dX0_characterIn_1 : decode cX0_characterIn 1 = .ok (.istore 4, 2) := by decide +kernel
theorem dX0_characterIn_3 : decode cX0_characterIn 3 = .ok (.iload 4, 2) := by decide +kernel
theorem dX0_characterIn_5 : decode cX0_characterIn 5 = .ok (.aload_n 0, 1) := by decide +kernel
theorem dX0_characterIn_6 : decode cX0_characterIn 6 = .ok (.getfield 33, 3) := by decide +kernel
theorem dX0_characterIn_9 : decode cX0_characterIn 9 = .ok (.if_icmp .ge 74, 3) := by decide +kernel
theorem dX0_characterIn_12 : decode cX0_characterIn 12 = .ok (.aload_n 0, 1) := by decide +kernel
theorem dX0_characterIn_13 : decode cX0_characterIn 13 = .ok (.getfield 11, 3) := by decide +kernel
theorem dX0_characterIn_16 : decode cX0_characterIn 16 = .ok (.iload 4, 2) := by decide +kernel
theorem dX0_characterIn_18 : decode cX0_characterIn 18 = .ok (.aaload, 1) := by decide +kernel
theorem dX0_characterIn_19 : decode cX0_characterIn 19 = .ok (.astore 5, 2) := by decide +kernel
theorem dX0_characterIn_21 : decode cX0_characterIn 21 = .ok (.aload_n 0, 1) := by decide +kernel
theorem dX0_characterIn_22 : decode cX0_characterIn 22 = .ok (.aload 5, 2) := by decide +kernel
theorem dX0_characterIn_24 : decode cX0_characterIn 24 = .ok (.iload_n 3, 1) := by decide +kernel
theorem dX0_characterIn_25 : decode cX0_characterIn 25 = .ok (.invokevirtual 109, 3) := by decide +kernel
theorem dX0_characterIn_28 : decode cX0_characterIn 28 = .ok (.ifCond .eq 49, 3) := by decide +kernel
theorem dX0_characterIn_31 : decode cX0_characterIn 31 = .ok (.aload_n 0, 1) := by decide +kernel
theorem dX0_characterIn_32 : decode cX0_characterIn 32 = .ok (.aload 5, 2) := by decide +kernel
theorem dX0_characterIn_34 : decode cX0_characterIn 34 = .ok (.iload_n 3, 1) := by decide +kernel
theorem dX0_characterIn_35 : decode cX0_characterIn 35 = .ok (.invokevirtual 113, 3) := by decide +kernel
theorem dX0_characterIn_38 : decode cX0_characterIn 38 = .ok (.iload_n 1, 1) := by decide +kernel
theorem dX0_characterIn_39 : decode cX0_characterIn 39 = .ok (.if_icmp .ne 38, 3) := by decide +kernel
theorem dX0_characterIn_42 : decode cX0_characterIn 42 = .ok (.iload_n 2, 1) := by decide +kernel
theorem dX0_characterIn_43 : decode cX0_characterIn 43 = .ok (.aload_n 0, 1) := by decide +kernel
theorem dX0_characterIn_44 : decode cX0_characterIn 44 = .ok (.aload 5, 2) := by decide +kernel
theorem dX0_characterIn_46 : decode cX0_characterIn 46 = .ok (.iload_n 3, 1) := by decide +kernel
theorem dX0_characterIn_47 : decode cX0_characterIn 47 = .ok (.invokevirtual 117, 3) := by decide +kernel
theorem dX0_characterIn_50 : decode cX0_characterIn 50 = .ok (.isub, 1) := by decide +kernel
theorem dX0_characterIn_51 : decode cX0_characterIn 51 = .ok (.istore 6, 2) := by decide +kernel
theorem dX0_characterIn_53 : decode cX0_characterIn 53 = .ok (.iload 6, 2) := by decide +kernel
theorem dX0_characterIn_55 : decode cX0_characterIn 55 = .ok (.ifCond .lt 22, 3) := by decide +kernel
theorem dX0_characterIn_58 : decode cX0_characterIn 58 = .ok (.iload 6, 2) := by decide +kernel
theorem dX0_characterIn_60 : decode cX0_characterIn 60 = .ok (.aload 5, 2) := by decide +kernel
theorem dX0_characterIn_62 : decode cX0_characterIn 62 = .ok (.getfield 52, 3) := by decide +kernel
theorem dX0_characterIn_65 : decode cX0_characterIn 65 = .ok (.if_icmp .ge 12, 3) := by decide +kernel
theorem dX0_characterIn_68 : decode cX0_characterIn 68 = .ok (.aload 5, 2) := by decide +kernel
theorem dX0_characterIn_70 : decode cX0_characterIn 70 = .ok (.getfield 49, 3) := by decide +kernel
theorem dX0_characterIn_73 : decode cX0_characterIn 73 = .ok (.iload 6, 2) := by decide +kernel
theorem dX0_characterIn_75 : decode cX0_characterIn 75 = .ok (.iaload, 1) := by decide +kernel
theorem dX0_characterIn_76 : decode cX0_characterIn 76 = .ok (.ireturn, 1) := by decide +kernel
theorem dX0_characterIn_77 : decode cX0_characterIn 77 = .ok (.iinc 4 1, 3) := by decide +kernel
theorem dX0_characterIn_80 : decode cX0_characterIn 80 = .ok (.goto (-77), 3) := by decide +kernel
theorem dX0_characterIn_83 : decode cX0_characterIn 83 = .ok (.bipush (-19), 2) := by decide +kernel
theorem dX0_characterIn_85 : decode cX0_characterIn 85 = .ok (.ireturn, 1) := by decide +kernel
theorem dX0_cellsInRow_0 : decode cX0_cellsInRow 0 = .ok (.lconst 0, 1) := by decide +kernel
theorem dX0_cellsInRow_1 : decode cX0_cellsInRow 1 = .ok (.lstore_n 3, 1) := by decide +kernel
theorem dX0_cellsInRow_2 : decode cX0_cellsInRow 2 = .ok (.iconst 0, 1) := by decide +kernel
theorem dX0_cellsInRow_3 : decode cX0_cellsInRow 3 = .ok (.istore 5, 2) := by decide +kernel
theorem dX0_cellsInRow_5 : decode cX0_cellsInRow 5 = .ok (.iload 5, 2) := by decide +kernel
theorem dX0_cellsInRow_7 : decode cX0_cellsInRow 7 = .ok (.aload_n 0, 1) := by decide +kernel
theorem dX0_cellsInRow_8 : decode cX0_cellsInRow 8 = .ok (.getfield 33, 3) := by decide +kernel
theorem dX0_cellsInRow_11 : decode cX0_cellsInRow 11 = .ok (.if_icmp .ge 91, 3) := by decide +kernel
theorem dX0_cellsInRow_14 : decode cX0_cellsInRow 14 = .ok (.aload_n 0, 1) := by decide +kernel
theorem dX0_cellsInRow_15 : decode cX0_cellsInRow 15 = .ok (.getfield 11, 3) := by decide +kernel
theorem dX0_cellsInRow_18 : decode cX0_cellsInRow 18 = .ok (.iload 5, 2) := by decide +kernel
theorem dX0_cellsInRow_20 : decode cX0_cellsInRow 20 = .ok (.aaload, 1) := by decide +kernel
theorem dX0_cellsInRow_21 : decode cX0_cellsInRow 21 = .ok (.astore 6, 2) := by decide +kernel
theorem dX0_cellsInRow_23 : decode cX0_cellsInRow 23 = .ok (.aload_n 0, 1) := by decide +kernel
theorem dX0_cellsInRow_24 : decode cX0_cellsInRow 24 = .ok (.aload 6, 2) := by decide +kernel
theorem dX0_cellsInRow_26 : decode cX0_cellsInRow 26 = .ok (.iload_n 2, 1) := by decide +kernel
theorem dX0_cellsInRow_27 : decode cX0_cellsInRow 27 = .ok (.invokevirtual 109, 3) := by decide +kernel
theorem dX0_cellsInRow_30 : decode cX0_cellsInRow 30 = .ok (.ifCond .eq 66, 3) := by decide +kernel
theorem dX0_cellsInRow_33 : decode cX0_cellsInRow 33 = .ok (.aload_n 0, 1) := by decide +kernel
theorem dX0_cellsInRow_34 : decode cX0_cellsInRow 34 = .ok (.aload 6, 2) := by decide +kernel
theorem dX0_cellsInRow_36 : decode cX0_cellsInRow 36 = .ok (.iload_n 2, 1) := by decide +kernel
theorem dX0_cellsInRow_37 : decode cX0_cellsInRow 37 = .ok (.invokevirtual 113, 3) := by decide +kernel
theorem dX0_cellsInRow_40 : decode cX0_cellsInRow 40 = .ok (.iload_n 1, 1) := by decide +kernel
theorem dX0_cellsInRow_41 : decode cX0_cellsInRow 41 = .ok (.if_icmp .ne 55, 3) := by decide +kernel
theorem dX0_cellsInRow_44 : decode cX0_cellsInRow 44 = .ok (.aload_n 0, 1) := by decide +kernel
theorem dX0_cellsInRow_45 : decode cX0_cellsInRow 45 = .ok (.aload 6, 2) := by decide +kernel
theorem dX0_cellsInRow_47 : decode cX0_cellsInRow 47 = .ok (.iload_n 2, 1) := by decide +kernel
theorem dX0_cellsInRow_48 : decode cX0_cellsInRow 48 = .ok (.invokevirtual 117, 3) := by decide +kernel
theorem dX0_cellsInRow_51 : decode cX0_cellsInRow 51 = .ok (.istore 7, 2) := by decide +kernel
theorem dX0_cellsInRow_53 : decode cX0_cellsInRow 53 = .ok (.iload 7, 2) := by decide +kernel
theorem dX0_cellsInRow_55 : decode cX0_cellsInRow 55 = .ok (.aload 6, 2) := by decide +kernel
theorem dX0_cellsInRow_57 : decode cX0_cellsInRow 57 = .ok (.getfield 52, 3) := by decide +kernel
theorem dX0_cellsInRow_60 : decode cX0_cellsInRow 60 = .ok (.iadd, 1) := by decide +kernel
theorem dX0_cellsInRow_61 : decode cX0_cellsInRow 61 = .ok (.bipush 40, 2) := by decide +kernel
theorem dX0_cellsInRow_63 : decode cX0_cellsInRow 63 = .ok (.invokestatic 97, 3) := by decide +kernel
theorem dX0_cellsInRow_66 : decode cX0_cellsInRow 66 = .ok (.istore 8, 2) := by decide +kernel
theorem dX0_cellsInRow_68 : decode cX0_cellsInRow 68 = .ok (.iload 7, 2) := by decide +kernel
theorem dX0_cellsInRow_70 : decode cX0_cellsInRow 70 = .ok (.iconst 0, 1) := by decide +kernel
theorem dX0_cellsInRow_71 : decode cX0_cellsInRow 71 = .ok (.invokestatic 120, 3) := by decide +kernel
theorem dX0_cellsInRow_74 : decode cX0_cellsInRow 74 = .ok (.istore 9, 2) := by decide +kernel
theorem dX0_cellsInRow_76 : decode cX0_cellsInRow 76 = .ok (.iload 9, 2) := by decide +kernel
theorem dX0_cellsInRow_78 : decode cX0_cellsInRow 78 = .ok (.iload 8, 2) := by decide +kernel
theorem dX0_cellsInRow_80 : decode cX0_cellsInRow 80 = .ok (.if_icmp .ge 16, 3) := by decide +kernel
theorem dX0_cellsInRow_83 : decode cX0_cellsInRow 83 = .ok (.lload_n 3, 1) := by decide +kernel
theorem dX0_cellsInRow_84 : decode cX0_cellsInRow 84 = .ok (.lconst 1, 1) := by decide +kernel
theorem dX0_cellsInRow_85 : decode cX0_cellsInRow 85 = .ok (.iload 9, 2) := by decide +kernel
theorem dX0_cellsInRow_87 : decode cX0_cellsInRow 87 = .ok (.lshl, 1) := by decide +kernel
theorem dX0_cellsInRow_88 : decode cX0_cellsInRow 88 = .ok (.lor, 1) := by decide +kernel
theorem dX0_cellsInRow_89 : decode cX0_cellsInRow 89 = .ok (.lstore_n 3, 1) := by decide +kernel
theorem dX0_cellsInRow_90 : decode cX0_cellsInRow 90 = .ok (.iinc 9 1, 3) := by decide +kernel
theorem dX0_cellsInRow_93 : decode cX0_cellsInRow 93 = .ok (.goto (-17), 3) := by decide +kernel
theorem dX0_cellsInRow_96 : decode cX0_cellsInRow 96 = .ok (.iinc 5 1, 3) := by decide +kernel
theorem dX0_cellsInRow_99 : decode cX0_cellsInRow 99 = .ok (.goto (-94), 3) := by decide +kernel
theorem dX0_cellsInRow_102 : decode cX0_cellsInRow 102 = .ok (.lload_n 3, 1) := by decide +kernel
theorem dX0_cellsInRow_103 : decode cX0_cellsInRow 103 = .ok (.lreturn, 1) := by decide +kernel
theorem dX0_readingPace_0 : decode cX0_readingPace 0 = .ok (.fconst 0, 1) := by decide +kernel
theorem dX0_readingPace_1 : decode cX0_readingPace 1 = .ok (.fstore_n 2, 1) := by decide +kernel
theorem dX0_readingPace_2 : decode cX0_readingPace 2 = .ok (.iconst 0, 1) := by decide +kernel
theorem dX0_readingPace_3 : decode cX0_readingPace 3 = .ok (.istore_n 3, 1) := by decide +kernel
theorem dX0_readingPace_4 : decode cX0_readingPace 4 = .ok (.iload_n 3, 1) := by decide +kernel
theorem dX0_readingPace_5 : decode cX0_readingPace 5 = .ok (.aload_n 0, 1) := by decide +kernel
theorem dX0_readingPace_6 : decode cX0_readingPace 6 = .ok (.getfield 33, 3) := by decide +kernel
theorem dX0_readingPace_9 : decode cX0_readingPace 9 = .ok (.if_icmp .ge 66, 3) := by decide +kernel
theorem dX0_readingPace_12 : decode cX0_readingPace 12 = .ok (.aload_n 0, 1) := by decide +kernel
theorem dX0_readingPace_13 : decode cX0_readingPace 13 = .ok (.getfield 11, 3) := by decide +kernel
theorem dX0_readingPace_16 : decode cX0_readingPace 16 = .ok (.iload_n 3, 1) := by decide +kernel
theorem dX0_readingPace_17 : decode cX0_readingPace 17 = .ok (.aaload, 1) := by decide +kernel
theorem dX0_readingPace_18 : decode cX0_readingPace 18 = .ok (.astore 4, 2) := by decide +kernel
theorem dX0_readingPace_20 : decode cX0_readingPace 20 = .ok (.aload 4, 2) := by decide +kernel
theorem dX0_readingPace_22 : decode cX0_readingPace 22 = .ok (.getfield 58, 3) := by decide +kernel
theorem dX0_readingPace_25 : decode cX0_readingPace 25 = .ok (.iconst 1, 1) := by decide +kernel
theorem dX0_readingPace_26 : decode cX0_readingPace 26 = .ok (.if_icmp .lt 43, 3) := by decide +kernel
theorem dX0_readingPace_29 : decode cX0_readingPace 29 = .ok (.iload_n 1, 1) := by decide +kernel
theorem dX0_readingPace_30 : decode cX0_readingPace 30 = .ok (.aload 4, 2) := by decide +kernel
theorem dX0_readingPace_32 : decode cX0_readingPace 32 = .ok (.getfield 55, 3) := by decide +kernel
theorem dX0_readingPace_35 : decode cX0_readingPace 35 = .ok (.if_icmp .lt 34, 3) := by decide +kernel
theorem dX0_readingPace_38 : decode cX0_readingPace 38 = .ok (.iload_n 1, 1) := by decide +kernel
theorem dX0_readingPace_39 : decode cX0_readingPace 39 = .ok (.aload 4, 2) := by decide +kernel
theorem dX0_readingPace_41 : decode cX0_readingPace 41 = .ok (.getfield 55, 3) := by decide +kernel
theorem dX0_readingPace_44 : decode cX0_readingPace 44 = .ok (.aload 4, 2) := by decide +kernel
theorem dX0_readingPace_46 : decode cX0_readingPace 46 = .ok (.getfield 58, 3) := by decide +kernel
theorem dX0_readingPace_49 : decode cX0_readingPace 49 = .ok (.iadd, 1) := by decide +kernel
theorem dX0_readingPace_50 : decode cX0_readingPace 50 = .ok (.if_icmp .ge 19, 3) := by decide +kernel
theorem dX0_readingPace_53 : decode cX0_readingPace 53 = .ok (.fload_n 2, 1) := by decide +kernel
theorem dX0_readingPace_54 : decode cX0_readingPace 54 = .ok (.aload 4, 2) := by decide +kernel
theorem dX0_readingPace_56 : decode cX0_readingPace 56 = .ok (.getfield 52, 3) := by decide +kernel
theorem dX0_readingPace_59 : decode cX0_readingPace 59 = .ok (.i2f, 1) := by decide +kernel
theorem dX0_readingPace_60 : decode cX0_readingPace 60 = .ok (.aload 4, 2) := by decide +kernel
theorem dX0_readingPace_62 : decode cX0_readingPace 62 = .ok (.getfield 58, 3) := by decide +kernel
theorem dX0_readingPace_65 : decode cX0_readingPace 65 = .ok (.i2f, 1) := by decide +kernel
theorem dX0_readingPace_66 : decode cX0_readingPace 66 = .ok (.fdiv, 1) := by decide +kernel
theorem dX0_readingPace_67 : decode cX0_readingPace 67 = .ok (.fadd, 1) := by decide +kernel
theorem dX0_readingPace_68 : decode cX0_readingPace 68 = .ok (.fstore_n 2, 1) := by decide +kernel
theorem dX0_readingPace_69 : decode cX0_readingPace 69 = .ok (.iinc 3 1, 3) := by decide +kernel
theorem dX0_readingPace_72 : decode cX0_readingPace 72 = .ok (.goto (-68), 3) := by decide +kernel
theorem dX0_readingPace_75 : decode cX0_readingPace 75 = .ok (.fload_n 2, 1) := by decide +kernel
theorem dX0_readingPace_76 : decode cX0_readingPace 76 = .ok (.ldc 123, 2) := by decide +kernel
theorem dX0_readingPace_78 : decode cX0_readingPace 78 = .ok (.fmul, 1) := by decide +kernel
theorem dX0_readingPace_79 : decode cX0_readingPace 79 = .ok (.f2i, 1) := by decide +kernel
theorem dX0_readingPace_80 : decode cX0_readingPace 80 = .ok (.ireturn, 1) := by decide +kernel
theorem dX0_firstMeeting_0 : decode cX0_firstMeeting 0 = .ok (.aload_n 1, 1) := by decide +kernel
theorem dX0_firstMeeting_1 : decode cX0_firstMeeting 1 = .ok (.getfield 67, 3) := by decide +kernel
theorem dX0_firstMeeting_4 : decode cX0_firstMeeting 4 = .ok (.ifCond .eq 10, 3) := by decide +kernel
theorem dX0_firstMeeting_7 : decode cX0_firstMeeting 7 = .ok (.aload_n 2, 1) := by decide +kernel
theorem dX0_firstMeeting_8 : decode cX0_firstMeeting 8 = .ok (.getfield 67, 3) := by decide +kernel
theorem dX0_firstMeeting_11 : decode cX0_firstMeeting 11 = .ok (.ifCond .ne 6, 3) := by decide +kernel
theorem dX0_firstMeeting_14 : decode cX0_firstMeeting 14 = .ok (.bipush (-19), 2) := by decide +kernel
theorem dX0_firstMeeting_16 : decode cX0_firstMeeting 16 = .ok (.ireturn, 1) := by decide +kernel
theorem dX0_firstMeeting_17 : decode cX0_firstMeeting 17 = .ok (.aload_n 1, 1) := by decide +kernel
theorem dX0_firstMeeting_18 : decode cX0_firstMeeting 18 = .ok (.getfield 76, 3) := by decide +kernel
theorem dX0_firstMeeting_21 : decode cX0_firstMeeting 21 = .ok (.aload_n 2, 1) := by decide +kernel
theorem dX0_firstMeeting_22 : decode cX0_firstMeeting 22 = .ok (.getfield 76, 3) := by decide +kernel
theorem dX0_firstMeeting_25 : decode cX0_firstMeeting 25 = .ok (.if_icmp .eq 20, 3) := by decide +kernel
theorem dX0_firstMeeting_28 : decode cX0_firstMeeting 28 = .ok (.aload_n 1, 1) := by decide +kernel
theorem dX0_firstMeeting_29 : decode cX0_firstMeeting 29 = .ok (.invokevirtual 124, 3) := by decide +kernel
theorem dX0_firstMeeting_32 : decode cX0_firstMeeting 32 = .ok (.ifCond .eq 13, 3) := by decide +kernel
theorem dX0_firstMeeting_35 : decode cX0_firstMeeting 35 = .ok (.aload_n 2, 1) := by decide +kernel
theorem dX0_firstMeeting_36 : decode cX0_firstMeeting 36 = .ok (.invokevirtual 124, 3) := by decide +kernel
theorem dX0_firstMeeting_39 : decode cX0_firstMeeting 39 = .ok (.ifCond .eq 6, 3) := by decide +kernel
theorem dX0_firstMeeting_42 : decode cX0_firstMeeting 42 = .ok (.bipush (-19), 2) := by decide +kernel
theorem dX0_firstMeeting_44 : decode cX0_firstMeeting 44 = .ok (.ireturn, 1) := by decide +kernel
theorem dX0_firstMeeting_45 : decode cX0_firstMeeting 45 = .ok (.aload_n 1, 1) := by decide +kernel
theorem dX0_firstMeeting_46 : decode cX0_firstMeeting 46 = .ok (.getfield 55, 3) := by decide +kernel
theorem dX0_firstMeeting_49 : decode cX0_firstMeeting 49 = .ok (.aload_n 2, 1) := by decide +kernel
theorem dX0_firstMeeting_50 : decode cX0_firstMeeting 50 = .ok (.getfield 55, 3) := by decide +kernel
theorem dX0_firstMeeting_53 : decode cX0_firstMeeting 53 = .ok (.invokestatic 120, 3) := by decide +kernel
theorem dX0_firstMeeting_56 : decode cX0_firstMeeting 56 = .ok (.istore_n 3, 1) := by decide +kernel
theorem dX0_firstMeeting_57 : decode cX0_firstMeeting 57 = .ok (.aload_n 0, 1) := by decide +kernel
theorem dX0_firstMeeting_58 : decode cX0_firstMeeting 58 = .ok (.aload_n 1, 1) := by decide +kernel
theorem dX0_firstMeeting_59 : decode cX0_firstMeeting 59 = .ok (.invokevirtual 106, 3) := by decide +kernel
theorem dX0_firstMeeting_62 : decode cX0_firstMeeting 62 = .ok (.aload_n 0, 1) := by decide +kernel
theorem dX0_firstMeeting_63 : decode cX0_firstMeeting 63 = .ok (.aload_n 2, 1) := by decide +kernel
theorem dX0_firstMeeting_64 : decode cX0_firstMeeting 64 = .ok (.invokevirtual 106, 3) := by decide +kernel
theorem dX0_firstMeeting_67 : decode cX0_firstMeeting 67 = .ok (.invokestatic 97, 3) := by decide +kernel
theorem dX0_firstMeeting_70 : decode cX0_firstMeeting 70 = .ok (.istore 4, 2) := by decide +kernel
theorem dX0_firstMeeting_72 : decode cX0_firstMeeting 72 = .ok (.iload_n 3, 1) := by decide +kernel
theorem dX0_firstMeeting_73 : decode cX0_firstMeeting 73 = .ok (.iload 4, 2) := by decide +kernel
theorem dX0_firstMeeting_75 : decode cX0_firstMeeting 75 = .ok (.if_icmp .ge 15, 3) := by decide +kernel
theorem dX0_firstMeeting_78 : decode cX0_firstMeeting 78 = .ok (.aload_n 0, 1) := by decide +kernel
theorem dX0_firstMeeting_79 : decode cX0_firstMeeting 79 = .ok (.aload_n 1, 1) := by decide +kernel
theorem dX0_firstMeeting_80 : decode cX0_firstMeeting 80 = .ok (.aload_n 2, 1) := by decide +kernel
theorem dX0_firstMeeting_81 : decode cX0_firstMeeting 81 = .ok (.iload_n 3, 1) := by decide +kernel
theorem dX0_firstMeeting_82 : decode cX0_firstMeeting 82 = .ok (.invokevirtual 128, 3) := by decide +kernel
theorem dX0_firstMeeting_85 : decode cX0_firstMeeting 85 = .ok (.ifCond .eq 5, 3) := by decide +kernel
theorem dX0_firstMeeting_88 : decode cX0_firstMeeting 88 = .ok (.iload_n 3, 1) := by decide +kernel
theorem dX0_firstMeeting_89 : decode cX0_firstMeeting 89 = .ok (.ireturn, 1) := by decide +kernel
theorem dX0_firstMeeting_90 : decode cX0_firstMeeting 90 = .ok (.iload_n 3, 1) := by decide +kernel
theorem dX0_firstMeeting_91 : decode cX0_firstMeeting 91 = .ok (.iconst 1, 1) := by decide +kernel
theorem dX0_firstMeeting_92 : decode cX0_firstMeeting 92 = .ok (.iadd, 1) := by decide +kernel
theorem dX0_firstMeeting_93 : decode cX0_firstMeeting 93 = .ok (.aload_n 1, 1) := by decide +kernel
theorem dX0_firstMeeting_94 : decode cX0_firstMeeting 94 = .ok (.invokevirtual 89, 3) := by decide +kernel
theorem dX0_firstMeeting_97 : decode cX0_firstMeeting 97 = .ok (.aload_n 2, 1) := by decide +kernel
theorem dX0_firstMeeting_98 : decode cX0_firstMeeting 98 = .ok (.invokevirtual 89, 3) := by decide +kernel
theorem dX0_firstMeeting_101 : decode cX0_firstMeeting 101 = .ok (.invokestatic 97, 3) := by decide +kernel
theorem dX0_firstMeeting_104 : decode cX0_firstMeeting 104 = .ok (.invokestatic 120, 3) := by decide +kernel
theorem dX0_firstMeeting_107 : decode cX0_firstMeeting 107 = .ok (.istore 5, 2) := by decide +kernel
theorem dX0_firstMeeting_109 : decode cX0_firstMeeting 109 = .ok (.iload 5, 2) := by decide +kernel
theorem dX0_firstMeeting_111 : decode cX0_firstMeeting 111 = .ok (.istore 6, 2) := by decide +kernel
theorem dX0_firstMeeting_113 : decode cX0_firstMeeting 113 = .ok (.iload 6, 2) := by decide +kernel
theorem dX0_firstMeeting_115 : decode cX0_firstMeeting 115 = .ok (.iload 4, 2) := by decide +kernel
theorem dX0_firstMeeting_117 : decode cX0_firstMeeting 117 = .ok (.if_icmp .ge 23, 3) := by decide +kernel
theorem dX0_firstMeeting_120 : decode cX0_firstMeeting 120 = .ok (.aload_n 0, 1) := by decide +kernel
theorem dX0_firstMeeting_121 : decode cX0_firstMeeting 121 = .ok (.aload_n 1, 1) := by decide +kernel
theorem dX0_firstMeeting_122 : decode cX0_firstMeeting 122 = .ok (.aload_n 2, 1) := by decide +kernel
theorem dX0_firstMeeting_123 : decode cX0_firstMeeting 123 = .ok (.iload 6, 2) := by decide +kernel
theorem dX0_firstMeeting_125 : decode cX0_firstMeeting 125 = .ok (.invokevirtual 128, 3) := by decide +kernel
theorem dX0_firstMeeting_128 : decode cX0_firstMeeting 128 = .ok (.ifCond .eq 6, 3) := by decide +kernel
theorem dX0_firstMeeting_131 : decode cX0_firstMeeting 131 = .ok (.iload 6, 2) := by decide +kernel
theorem dX0_firstMeeting_133 : decode cX0_firstMeeting 133 = .ok (.ireturn, 1) := by decide +kernel
theorem dX0_firstMeeting_134 : decode cX0_firstMeeting 134 = .ok (.iinc 6 1, 3) := by decide +kernel
theorem dX0_firstMeeting_137 : decode cX0_firstMeeting 137 = .ok (.goto (-24), 3) := by decide +kernel
theorem dX0_firstMeeting_140 : decode cX0_firstMeeting 140 = .ok (.bipush (-19), 2) := by decide +kernel
theorem dX0_firstMeeting_142 : decode cX0_firstMeeting 142 = .ok (.ireturn, 1) := by decide +kernel
theorem dX0_shareCell_0 : decode cX0_shareCell 0 = .ok (.aload_n 0, 1) := by decide +kernel
theorem dX0_shareCell_1 : decode cX0_shareCell 1 = .ok (.aload_n 1, 1) := by decide +kernel
theorem dX0_shareCell_2 : decode cX0_shareCell 2 = .ok (.iload_n 3, 1) := by decide +kernel
theorem dX0_shareCell_3 : decode cX0_shareCell 3 = .ok (.invokevirtual 113, 3) := by decide +kernel
theorem dX0_shareCell_6 : decode cX0_shareCell 6 = .ok (.aload_n 0, 1) := by decide +kernel
theorem dX0_shareCell_7 : decode cX0_shareCell 7 = .ok (.aload_n 2, 1) := by decide +kernel
theorem dX0_shareCell_8 : decode cX0_shareCell 8 = .ok (.iload_n 3, 1) := by decide +kernel
theorem dX0_shareCell_9 : decode cX0_shareCell 9 = .ok (.invokevirtual 113, 3) := by decide +kernel
theorem dX0_shareCell_12 : decode cX0_shareCell 12 = .ok (.if_icmp .eq 5, 3) := by decide +kernel
theorem dX0_shareCell_15 : decode cX0_shareCell 15 = .ok (.iconst 0, 1) := by decide +kernel
theorem dX0_shareCell_16 : decode cX0_shareCell 16 = .ok (.ireturn, 1) := by decide +kernel
theorem dX0_shareCell_17 : decode cX0_shareCell 17 = .ok (.aload_n 0, 1) := by decide +kernel
theorem dX0_shareCell_18 : decode cX0_shareCell 18 = .ok (.aload_n 1, 1) := by decide +kernel
theorem dX0_shareCell_19 : decode cX0_shareCell 19 = .ok (.iload_n 3, 1) := by decide +kernel
theorem dX0_shareCell_20 : decode cX0_shareCell 20 = .ok (.invokevirtual 117, 3) := by decide +kernel
theorem dX0_shareCell_23 : decode cX0_shareCell 23 = .ok (.istore 4, 2) := by decide +kernel
theorem dX0_shareCell_25 : decode cX0_shareCell 25 = .ok (.aload_n 0, 1) := by decide +kernel
theorem dX0_shareCell_26 : decode cX0_shareCell 26 = .ok (.aload_n 2, 1) := by decide +kernel
theorem dX0_shareCell_27 : decode cX0_shareCell 27 = .ok (.iload_n 3, 1) := by decide +kernel
theorem dX0_shareCell_28 : decode cX0_shareCell 28 = .ok (.invokevirtual 117, 3) := by decide +kernel
theorem dX0_shareCell_31 : decode cX0_shareCell 31 = .ok (.istore 5, 2) := by decide +kernel
theorem dX0_shareCell_33 : decode cX0_shareCell 33 = .ok (.iconst 0, 1) := by decide +kernel
theorem dX0_shareCell_34 : decode cX0_shareCell 34 = .ok (.iload 4, 2) := by decide +kernel
theorem dX0_shareCell_36 : decode cX0_shareCell 36 = .ok (.iload 5, 2) := by decide +kernel
theorem dX0_shareCell_38 : decode cX0_shareCell 38 = .ok (.invokestatic 120, 3) := by decide +kernel
theorem dX0_shareCell_41 : decode cX0_shareCell 41 = .ok (.invokestatic 120, 3) := by decide +kernel
theorem dX0_shareCell_44 : decode cX0_shareCell 44 = .ok (.istore 6, 2) := by decide +kernel
theorem dX0_shareCell_46 : decode cX0_shareCell 46 = .ok (.bipush 40, 2) := by decide +kernel
theorem dX0_shareCell_48 : decode cX0_shareCell 48 = .ok (.iload 4, 2) := by decide +kernel
theorem dX0_shareCell_50 : decode cX0_shareCell 50 = .ok (.aload_n 1, 1) := by decide +kernel
theorem dX0_shareCell_51 : decode cX0_shareCell 51 = .ok (.getfield 52, 3) := by decide +kernel
theorem dX0_shareCell_54 : decode cX0_shareCell 54 = .ok (.iadd, 1) := by decide +kernel
theorem dX0_shareCell_55 : decode cX0_shareCell 55 = .ok (.iload 5, 2) := by decide +kernel
theorem dX0_shareCell_57 : decode cX0_shareCell 57 = .ok (.aload_n 2, 1) := by decide +kernel
theorem dX0_shareCell_58 : decode cX0_shareCell 58 = .ok (.getfield 52, 3) := by decide +kernel
theorem dX0_shareCell_61 : decode cX0_shareCell 61 = .ok (.iadd, 1) := by decide +kernel
theorem dX0_shareCell_62 : decode cX0_shareCell 62 = .ok (.invokestatic 97, 3) := by decide +kernel
theorem dX0_shareCell_65 : decode cX0_shareCell 65 = .ok (.invokestatic 97, 3) := by decide +kernel
theorem dX0_shareCell_68 : decode cX0_shareCell 68 = .ok (.istore 7, 2) := by decide +kernel
theorem dX0_shareCell_70 : decode cX0_shareCell 70 = .ok (.iload 6, 2) := by decide +kernel
theorem dX0_shareCell_72 : decode cX0_shareCell 72 = .ok (.iload 7, 2) := by decide +kernel
theorem dX0_shareCell_74 : decode cX0_shareCell 74 = .ok (.if_icmp .ge 7, 3) := by decide +kernel
theorem dX0_shareCell_77 : decode cX0_shareCell 77 = .ok (.iconst 1, 1) := by decide +kernel
theorem dX0_shareCell_78 : decode cX0_shareCell 78 = .ok (.goto 4, 3) := by decide +kernel
theorem dX0_shareCell_81 : decode cX0_shareCell 81 = .ok (.iconst 0, 1) := by decide +kernel
theorem dX0_shareCell_82 : decode cX0_shareCell 82 = .ok (.ireturn, 1) := by decide +kernel
theorem dX0_isFree_0 : decode cX0_isFree 0 = .ok (.aload_n 0, 1) := by decide +kernel
theorem dX0_isFree_1 : decode cX0_isFree 1 = .ok (.getfield 26, 3) := by decide +kernel
theorem dX0_isFree_4 : decode cX0_isFree 4 = .ok (.aload_n 0, 1) := by decide +kernel
theorem dX0_isFree_5 : decode cX0_isFree 5 = .ok (.getfield 11, 3) := by decide +kernel
theorem dX0_isFree_8 : decode cX0_isFree 8 = .ok (.iload_n 1, 1) := by decide +kernel
theorem dX0_isFree_9 : decode cX0_isFree 9 = .ok (.aaload, 1) := by decide +kernel
theorem dX0_isFree_10 : decode cX0_isFree 10 = .ok (.invokevirtual 36, 3) := by decide +kernel
theorem dX0_isFree_13 : decode cX0_isFree 13 = .ok (.aload_n 0, 1) := by decide +kernel
theorem dX0_isFree_14 : decode cX0_isFree 14 = .ok (.getfield 26, 3) := by decide +kernel
theorem dX0_isFree_17 : decode cX0_isFree 17 = .ok (.iload_n 2, 1) := by decide +kernel
theorem dX0_isFree_18 : decode cX0_isFree 18 = .ok (.putfield 55, 3) := by decide +kernel
theorem dX0_isFree_21 : decode cX0_isFree 21 = .ok (.aload_n 0, 1) := by decide +kernel
theorem dX0_isFree_22 : decode cX0_isFree 22 = .ok (.getfield 26, 3) := by decide +kernel
theorem dX0_isFree_25 : decode cX0_isFree 25 = .ok (.iload_n 3, 1) := by decide +kernel
theorem dX0_isFree_26 : decode cX0_isFree 26 = .ok (.iload 4, 2) := by decide +kernel
theorem dX0_isFree_28 : decode cX0_isFree 28 = .ok (.invokevirtual 132, 3) := by decide +kernel
theorem dX0_isFree_31 : decode cX0_isFree 31 = .ok (.iconst 0, 1) := by decide +kernel
theorem dX0_isFree_32 : decode cX0_isFree 32 = .ok (.istore 5, 2) := by decide +kernel
theorem dX0_isFree_34 : decode cX0_isFree 34 = .ok (.iload 5, 2) := by decide +kernel
theorem dX0_isFree_36 : decode cX0_isFree 36 = .ok (.aload_n 0, 1) := by decide +kernel
theorem dX0_isFree_37 : decode cX0_isFree 37 = .ok (.getfield 33, 3) := by decide +kernel
theorem dX0_isFree_40 : decode cX0_isFree 40 = .ok (.if_icmp .ge 37, 3) := by decide +kernel
theorem dX0_isFree_43 : decode cX0_isFree 43 = .ok (.iload 5, 2) := by decide +kernel
theorem dX0_isFree_45 : decode cX0_isFree 45 = .ok (.iload_n 1, 1) := by decide +kernel
theorem dX0_isFree_46 : decode cX0_isFree 46 = .ok (.if_icmp .eq 25, 3) := by decide +kernel
theorem dX0_isFree_49 : decode cX0_isFree 49 = .ok (.aload_n 0, 1) := by decide +kernel
theorem dX0_isFree_50 : decode cX0_isFree 50 = .ok (.aload_n 0, 1) := by decide +kernel
theorem dX0_isFree_51 : decode cX0_isFree 51 = .ok (.getfield 26, 3) := by decide +kernel
theorem dX0_isFree_54 : decode cX0_isFree 54 = .ok (.aload_n 0, 1) := by decide +kernel
theorem dX0_isFree_55 : decode cX0_isFree 55 = .ok (.getfield 11, 3) := by decide +kernel
theorem dX0_isFree_58 : decode cX0_isFree 58 = .ok (.iload 5, 2) := by decide +kernel
theorem dX0_isFree_60 : decode cX0_isFree 60 = .ok (.aaload, 1) := by decide +kernel
theorem dX0_isFree_61 : decode cX0_isFree 61 = .ok (.invokevirtual 71, 3) := by decide +kernel
theorem dX0_isFree_64 : decode cX0_isFree 64 = .ok (.bipush (-19), 2) := by decide +kernel
theorem dX0_isFree_66 : decode cX0_isFree 66 = .ok (.if_icmp .eq 5, 3) := by decide +kernel
theorem dX0_isFree_69 : decode cX0_isFree 69 = .ok (.iconst 0, 1) := by decide +kernel
theorem dX0_isFree_70 : decode cX0_isFree 70 = .ok (.ireturn, 1) := by decide +kernel
theorem dX0_isFree_71 : decode cX0_isFree 71 = .ok (.iinc 5 1, 3) := by decide +kernel
theorem dX0_isFree_74 : decode cX0_isFree 74 = .ok (.goto (-40), 3) := by decide +kernel
theorem dX0_isFree_77 : decode cX0_isFree 77 = .ok (.iconst 1, 1) := by decide +kernel
theorem dX0_isFree_78 : decode cX0_isFree 78 = .ok (.ireturn, 1) := by decide +kernel
theorem dX0_takeAllWords_0 : decode cX0_takeAllWords 0 = .ok (.iconst 0, 1) := by decide +kernel
theorem dX0_takeAllWords_1 : decode cX0_takeAllWords 1 = .ok (.istore_n 1, 1) := by decide +kernel
theorem dX0_takeAllWords_2 : decode cX0_takeAllWords 2 = .ok (.iload_n 1, 1) := by decide +kernel
theorem dX0_takeAllWords_3 : decode cX0_takeAllWords 3 = .ok (.aload_n 0, 1) := by decide +kernel
theorem dX0_takeAllWords_4 : decode cX0_takeAllWords 4 = .ok (.getfield 33, 3) := by decide +kernel
theorem dX0_takeAllWords_7 : decode cX0_takeAllWords 7 = .ok (.if_icmp .ge 19, 3) := by decide +kernel
theorem dX0_takeAllWords_10 : decode cX0_takeAllWords 10 = .ok (.aload_n 0, 1) := by decide +kernel
theorem dX0_takeAllWords_11 : decode cX0_takeAllWords 11 = .ok (.getfield 11, 3) := by decide +kernel
theorem dX0_takeAllWords_14 : decode cX0_takeAllWords 14 = .ok (.iload_n 1, 1) := by decide +kernel
theorem dX0_takeAllWords_15 : decode cX0_takeAllWords 15 = .ok (.aaload, 1) := by decide +kernel
theorem dX0_takeAllWords_16 : decode cX0_takeAllWords 16 = .ok (.iconst 0, 1) := by decide +kernel
theorem dX0_takeAllWords_17 : decode cX0_takeAllWords 17 = .ok (.putfield 67, 3) := by decide +kernel
theorem dX0_takeAllWords_20 : decode cX0_takeAllWords 20 = .ok (.iinc 1 1, 3) := by decide +kernel
theorem dX0_takeAllWords_23 : decode cX0_takeAllWords 23 = .ok (.goto (-21), 3) := by decide +kernel
theorem dX0_takeAllWords_26 : decode cX0_takeAllWords 26 = .ok (.return_, 1) := by decide +kernel
theorem dX0_sortForPutting_0 : decode cX0_sortForPutting 0 = .ok (.iconst 0, 1) := by decide +kernel
theorem dX0_sortForPutting_1 : decode cX0_sortForPutting 1 = .ok (.istore_n 1, 1) := by decide +kernel
theorem dX0_sortForPutting_2 : decode cX0_sortForPutting 2 = .ok (.iload_n 1, 1) := by decide +kernel
theorem dX0_sortForPutting_3 : decode cX0_sortForPutting 3 = .ok (.aload_n 0, 1) := by decide +kernel
theorem dX0_sortForPutting_4 : decode cX0_sortForPutting 4 = .ok (.getfield 33, 3) := by decide +kernel
theorem dX0_sortForPutting_7 : decode cX0_sortForPutting 7 = .ok (.if_icmp .ge 67, 3) := by decide +kernel
theorem dX0_sortForPutting_10 : decode cX0_sortForPutting 10 = .ok (.iload_n 1, 1) := by decide +kernel
theorem dX0_sortForPutting_11 : decode cX0_sortForPutting 11 = .ok (.istore_n 2, 1) := by decide +kernel
theorem dX0_sortForPutting_12 : decode cX0_sortForPutting 12 = .ok (.iload_n 2, 1) := by decide +kernel
theorem dX0_sortForPutting_13 : decode cX0_sortForPutting 13 = .ok (.ifCond .le 48, 3) := by decide +kernel
theorem dX0_sortForPutting_16 : decode cX0_sortForPutting 16 = .ok (.aload_n 0, 1) := by decide +kernel
theorem dX0_sortForPutting_17 : decode cX0_sortForPutting 17 = .ok (.getfield 11, 3) := by decide +kernel
theorem dX0_sortForPutting_20 : decode cX0_sortForPutting 20 = .ok (.iload_n 1, 1) := by decide +kernel
theorem dX0_sortForPutting_21 : decode cX0_sortForPutting 21 = .ok (.aaload, 1) := by decide +kernel
theorem dX0_sortForPutting_22 : decode cX0_sortForPutting 22 = .ok (.aload_n 0, 1) := by decide +kernel
theorem dX0_sortForPutting_23 : decode cX0_sortForPutting 23 = .ok (.getfield 11, 3) := by decide +kernel
theorem dX0_sortForPutting_26 : decode cX0_sortForPutting 26 = .ok (.aload_n 0, 1) := by decide +kernel
theorem dX0_sortForPutting_27 : decode cX0_sortForPutting 27 = .ok (.getfield 30, 3) := by decide +kernel
theorem dX0_sortForPutting_30 : decode cX0_sortForPutting 30 = .ok (.iload_n 2, 1) := by decide +kernel
theorem dX0_sortForPutting_31 : decode cX0_sortForPutting 31 = .ok (.iconst 1, 1) := by decide +kernel
theorem dX0_sortForPutting_32 : decode cX0_sortForPutting 32 = .ok (.isub, 1) := by decide +kernel
theorem dX0_sortForPutting_33 : decode cX0_sortForPutting 33 = .ok (.iaload, 1) := by decide +kernel
theorem dX0_sortForPutting_34 : decode cX0_sortForPutting 34 = .ok (.aaload, 1) := by decide +kernel
theorem dX0_sortForPutting_35 : decode cX0_sortForPutting 35 = .ok (.invokestatic 136, 3) := by decide +kernel
theorem dX0_sortForPutting_38 : decode cX0_sortForPutting 38 = .ok (.ifCond .eq 23, 3) := by decide +kernel
theorem dX0_sortForPutting_41 : decode cX0_sortForPutting 41 = .ok (.aload_n 0, 1) := by decide +kernel
theorem dX0_sortForPutting_42 : decode cX0_sortForPutting 42 = .ok (.getfield 30, 3) := by decide +kernel
theorem dX0_sortForPutting_45 : decode cX0_sortForPutting 45 = .ok (.iload_n 2, 1) := by decide +kernel
theorem dX0_sortForPutting_46 : decode cX0_sortForPutting 46 = .ok (.aload_n 0, 1) := by decide +kernel
theorem dX0_sortForPutting_47 : decode cX0_sortForPutting 47 = .ok (.getfield 30, 3) := by decide +kernel
theorem dX0_sortForPutting_50 : decode cX0_sortForPutting 50 = .ok (.iload_n 2, 1) := by decide +kernel
theorem dX0_sortForPutting_51 : decode cX0_sortForPutting 51 = .ok (.iconst 1, 1) := by decide +kernel
theorem dX0_sortForPutting_52 : decode cX0_sortForPutting 52 = .ok (.isub, 1) := by decide +kernel
theorem dX0_sortForPutting_53 : decode cX0_sortForPutting 53 = .ok (.iaload, 1) := by decide +kernel
theorem dX0_sortForPutting_54 : decode cX0_sortForPutting 54 = .ok (.iastore, 1) := by decide +kernel
theorem dX0_sortForPutting_55 : decode cX0_sortForPutting 55 = .ok (.iinc 2 (-1), 3) := by decide +kernel
theorem dX0_sortForPutting_58 : decode cX0_sortForPutting 58 = .ok (.goto (-46), 3) := by decide +kernel
theorem dX0_sortForPutting_61 : decode cX0_sortForPutting 61 = .ok (.aload_n 0, 1) := by decide +kernel
theorem dX0_sortForPutting_62 : decode cX0_sortForPutting 62 = .ok (.getfield 30, 3) := by decide +kernel
theorem dX0_sortForPutting_65 : decode cX0_sortForPutting 65 = .ok (.iload_n 2, 1) := by decide +kernel
theorem dX0_sortForPutting_66 : decode cX0_sortForPutting 66 = .ok (.iload_n 1, 1) := by decide +kernel
theorem dX0_sortForPutting_67 : decode cX0_sortForPutting 67 = .ok (.iastore, 1) := by decide +kernel
theorem dX0_sortForPutting_68 : decode cX0_sortForPutting 68 = .ok (.iinc 1 1, 3) := by decide +kernel
theorem dX0_sortForPutting_71 : decode cX0_sortForPutting 71 = .ok (.goto (-69), 3) := by decide +kernel
theorem dX0_sortForPutting_74 : decode cX0_sortForPutting 74 = .ok (.return_, 1) := by decide +kernel
theorem dX0_comesBefore_0 : decode cX0_comesBefore 0 = .ok (.aload_n 0, 1) := by decide +kernel
theorem dX0_comesBefore_1 : decode cX0_comesBefore 1 = .ok (.getfield 55, 3) := by decide +kernel
theorem dX0_comesBefore_4 : decode cX0_comesBefore 4 = .ok (.aload_n 1, 1) := by decide +kernel
theorem dX0_comesBefore_5 : decode cX0_comesBefore 5 = .ok (.getfield 55, 3) := by decide +kernel
theorem dX0_comesBefore_8 : decode cX0_comesBefore 8 = .ok (.if_icmp .lt 25, 3) := by decide +kernel
theorem dX0_comesBefore_11 : decode cX0_comesBefore 11 = .ok (.aload_n 0, 1) := by decide +kernel
theorem dX0_comesBefore_12 : decode cX0_comesBefore 12 = .ok (.getfield 55, 3) := by decide +kernel
theorem dX0_comesBefore_15 : decode cX0_comesBefore 15 = .ok (.aload_n 1, 1) := by decide +kernel
theorem dX0_comesBefore_16 : decode cX0_comesBefore 16 = .ok (.getfield 55, 3) := by decide +kernel
theorem dX0_comesBefore_19 : decode cX0_comesBefore 19 = .ok (.if_icmp .ne 18, 3) := by decide +kernel
theorem dX0_comesBefore_22 : decode cX0_comesBefore 22 = .ok (.aload_n 0, 1) := by decide +kernel
theorem dX0_comesBefore_23 : decode cX0_comesBefore 23 = .ok (.getfield 52, 3) := by decide +kernel
theorem dX0_comesBefore_26 : decode cX0_comesBefore 26 = .ok (.aload_n 1, 1) := by decide +kernel
theorem dX0_comesBefore_27 : decode cX0_comesBefore 27 = .ok (.getfield 52, 3) := by decide +kernel
theorem dX0_comesBefore_30 : decode cX0_comesBefore 30 = .ok (.if_icmp .le 7, 3) := by decide +kernel
theorem dX0_comesBefore_33 : decode cX0_comesBefore 33 = .ok (.iconst 1, 1) := by decide +kernel
theorem dX0_comesBefore_34 : decode cX0_comesBefore 34 = .ok (.goto 4, 3) := by decide +kernel
theorem dX0_comesBefore_37 : decode cX0_comesBefore 37 = .ok (.iconst 0, 1) := by decide +kernel
theorem dX0_comesBefore_38 : decode cX0_comesBefore 38 = .ok (.ireturn, 1) := by decide +kernel
theorem dX0_putAtFirstPlace_0 : decode cX0_putAtFirstPlace 0 = .ok (.aload_n 0, 1) := by decide +kernel
theorem dX0_putAtFirstPlace_1 : decode cX0_putAtFirstPlace 1 = .ok (.getfield 11, 3) := by decide +kernel
theorem dX0_putAtFirstPlace_4 : decode cX0_putAtFirstPlace 4 = .ok (.iload_n 1, 1) := by decide +kernel
theorem dX0_putAtFirstPlace_5 : decode cX0_putAtFirstPlace 5 = .ok (.aaload, 1) := by decide +kernel
theorem dX0_putAtFirstPlace_6 : decode cX0_putAtFirstPlace 6 = .ok (.astore_n 2, 1) := by decide +kernel
theorem dX0_putAtFirstPlace_7 : decode cX0_putAtFirstPlace 7 = .ok (.aload_n 2, 1) := by decide +kernel
theorem dX0_putAtFirstPlace_8 : decode cX0_putAtFirstPlace 8 = .ok (.invokevirtual 140, 3) := by decide +kernel
theorem dX0_putAtFirstPlace_11 : decode cX0_putAtFirstPlace 11 = .ok (.istore_n 3, 1) := by decide +kernel
theorem dX0_putAtFirstPlace_12 : decode cX0_putAtFirstPlace 12 = .ok (.iload_n 3, 1) := by decide +kernel
theorem dX0_putAtFirstPlace_13 : decode cX0_putAtFirstPlace 13 = .ok (.iconst 2, 1) := by decide +kernel
theorem dX0_putAtFirstPlace_14 : decode cX0_putAtFirstPlace 14 = .ok (.idiv, 1) := by decide +kernel
theorem dX0_putAtFirstPlace_15 : decode cX0_putAtFirstPlace 15 = .ok (.istore 4, 2) := by decide +kernel
theorem dX0_putAtFirstPlace_17 : decode cX0_putAtFirstPlace 17 = .ok (.iconst 0, 1) := by decide +kernel
theorem dX0_putAtFirstPlace_18 : decode cX0_putAtFirstPlace 18 = .ok (.istore 5, 2) := by decide +kernel
theorem dX0_putAtFirstPlace_20 : decode cX0_putAtFirstPlace 20 = .ok (.iload 5, 2) := by decide +kernel
theorem dX0_putAtFirstPlace_22 : decode cX0_putAtFirstPlace 22 = .ok (.getstatic 143, 3) := by decide +kernel
theorem dX0_putAtFirstPlace_25 : decode cX0_putAtFirstPlace 25 = .ok (.arraylength, 1) := by decide +kernel
theorem dX0_putAtFirstPlace_26 : decode cX0_putAtFirstPlace 26 = .ok (.if_icmp .ge 92, 3) := by decide +kernel
theorem dX0_putAtFirstPlace_29 : decode cX0_putAtFirstPlace 29 = .ok (.iconst 0, 1) := by decide +kernel
theorem dX0_putAtFirstPlace_30 : decode cX0_putAtFirstPlace 30 = .ok (.istore 6, 2) := by decide +kernel
theorem dX0_putAtFirstPlace_32 : decode cX0_putAtFirstPlace 32 = .ok (.iload 6, 2) := by decide +kernel
theorem dX0_putAtFirstPlace_34 : decode cX0_putAtFirstPlace 34 = .ok (.iload_n 3, 1) := by decide +kernel
theorem dX0_putAtFirstPlace_35 : decode cX0_putAtFirstPlace 35 = .ok (.iconst 1, 1) := by decide +kernel
theorem dX0_putAtFirstPlace_36 : decode cX0_putAtFirstPlace 36 = .ok (.iadd, 1) := by decide +kernel
theorem dX0_putAtFirstPlace_37 : decode cX0_putAtFirstPlace 37 = .ok (.if_icmp .gt 75, 3) := by decide +kernel
theorem dX0_putAtFirstPlace_40 : decode cX0_putAtFirstPlace 40 = .ok (.iload 6, 2) := by decide +kernel
theorem dX0_putAtFirstPlace_42 : decode cX0_putAtFirstPlace 42 = .ok (.iconst 2, 1) := by decide +kernel
theorem dX0_putAtFirstPlace_43 : decode cX0_putAtFirstPlace 43 = .ok (.irem, 1) := by decide +kernel
theorem dX0_putAtFirstPlace_44 : decode cX0_putAtFirstPlace 44 = .ok (.ifCond .ne 13, 3) := by decide +kernel
theorem dX0_putAtFirstPlace_47 : decode cX0_putAtFirstPlace 47 = .ok (.iload 4, 2) := by decide +kernel
theorem dX0_putAtFirstPlace_49 : decode cX0_putAtFirstPlace 49 = .ok (.iload 6, 2) := by decide +kernel
theorem dX0_putAtFirstPlace_51 : decode cX0_putAtFirstPlace 51 = .ok (.iconst 2, 1) := by decide +kernel
theorem dX0_putAtFirstPlace_52 : decode cX0_putAtFirstPlace 52 = .ok (.idiv, 1) := by decide +kernel
theorem dX0_putAtFirstPlace_53 : decode cX0_putAtFirstPlace 53 = .ok (.iadd, 1) := by decide +kernel
theorem dX0_putAtFirstPlace_54 : decode cX0_putAtFirstPlace 54 = .ok (.goto 12, 3) := by decide +kernel
theorem dX0_putAtFirstPlace_57 : decode cX0_putAtFirstPlace 57 = .ok (.iload 4, 2) := by decide +kernel
theorem dX0_putAtFirstPlace_59 : decode cX0_putAtFirstPlace 59 = .ok (.iload 6, 2) := by decide +kernel
theorem dX0_putAtFirstPlace_61 : decode cX0_putAtFirstPlace 61 = .ok (.iconst 1, 1) := by decide +kernel
theorem dX0_putAtFirstPlace_62 : decode cX0_putAtFirstPlace 62 = .ok (.iadd, 1) := by decide +kernel
theorem dX0_putAtFirstPlace_63 : decode cX0_putAtFirstPlace 63 = .ok (.iconst 2, 1) := by decide +kernel
theorem dX0_putAtFirstPlace_64 : decode cX0_putAtFirstPlace 64 = .ok (.idiv, 1) := by decide +kernel
theorem dX0_putAtFirstPlace_65 : decode cX0_putAtFirstPlace 65 = .ok (.isub, 1) := by decide +kernel
theorem dX0_putAtFirstPlace_66 : decode cX0_putAtFirstPlace 66 = .ok (.istore 7, 2) := by decide +kernel
theorem dX0_putAtFirstPlace_68 : decode cX0_putAtFirstPlace 68 = .ok (.iload 7, 2) := by decide +kernel
theorem dX0_putAtFirstPlace_70 : decode cX0_putAtFirstPlace 70 = .ok (.ifCond .lt 36, 3) := by decide +kernel
theorem dX0_putAtFirstPlace_73 : decode cX0_putAtFirstPlace 73 = .ok (.aload_n 0, 1) := by decide +kernel
theorem dX0_putAtFirstPlace_74 : decode cX0_putAtFirstPlace 74 = .ok (.iload_n 1, 1) := by decide +kernel
theorem dX0_putAtFirstPlace_75 : decode cX0_putAtFirstPlace 75 = .ok (.aload_n 2, 1) := by decide +kernel
theorem dX0_putAtFirstPlace_76 : decode cX0_putAtFirstPlace 76 = .ok (.getfield 55, 3) := by decide +kernel
theorem dX0_putAtFirstPlace_79 : decode cX0_putAtFirstPlace 79 = .ok (.getstatic 143, 3) := by decide +kernel
theorem dX0_putAtFirstPlace_82 : decode cX0_putAtFirstPlace 82 = .ok (.iload 5, 2) := by decide +kernel
theorem dX0_putAtFirstPlace_84 : decode cX0_putAtFirstPlace 84 = .ok (.iaload, 1) := by decide +kernel
theorem dX0_putAtFirstPlace_85 : decode cX0_putAtFirstPlace 85 = .ok (.iload 7, 2) := by decide +kernel
theorem dX0_putAtFirstPlace_87 : decode cX0_putAtFirstPlace 87 = .ok (.invokevirtual 146, 3) := by decide +kernel
theorem dX0_putAtFirstPlace_90 : decode cX0_putAtFirstPlace 90 = .ok (.ifCond .eq 16, 3) := by decide +kernel
theorem dX0_putAtFirstPlace_93 : decode cX0_putAtFirstPlace 93 = .ok (.aload_n 2, 1) := by decide +kernel
theorem dX0_putAtFirstPlace_94 : decode cX0_putAtFirstPlace 94 = .ok (.getstatic 143, 3) := by decide +kernel
theorem dX0_putAtFirstPlace_97 : decode cX0_putAtFirstPlace 97 = .ok (.iload 5, 2) := by decide +kernel
theorem dX0_putAtFirstPlace_99 : decode cX0_putAtFirstPlace 99 = .ok (.iaload, 1) := by decide +kernel
theorem dX0_putAtFirstPlace_100 : decode cX0_putAtFirstPlace 100 = .ok (.iload 7, 2) := by decide +kernel
theorem dX0_putAtFirstPlace_102 : decode cX0_putAtFirstPlace 102 = .ok (.invokevirtual 132, 3) := by decide +kernel
theorem dX0_putAtFirstPlace_105 : decode cX0_putAtFirstPlace 105 = .ok (.return_, 1) := by decide +kernel
theorem dX0_putAtFirstPlace_106 : decode cX0_putAtFirstPlace 106 = .ok (.iinc 6 1, 3) := by decide +kernel
theorem dX0_putAtFirstPlace_109 : decode cX0_putAtFirstPlace 109 = .ok (.goto (-77), 3) := by decide +kernel
theorem dX0_putAtFirstPlace_112 : decode cX0_putAtFirstPlace 112 = .ok (.iinc 5 1, 3) := by decide +kernel
theorem dX0_putAtFirstPlace_115 : decode cX0_putAtFirstPlace 115 = .ok (.goto (-95), 3) := by decide +kernel
theorem dX0_putAtFirstPlace_118 : decode cX0_putAtFirstPlace 118 = .ok (.return_, 1) := by decide +kernel
theorem dX1_init_0 : decode cX1_init 0 = .ok (.aload_n 0, 1) := by decide +kernel
theorem dX1_init_1 : decode cX1_init 1 = .ok (.invokespecial 3, 3) := by decide +kernel
theorem dX1_init_4 : decode cX1_init 4 = .ok (.aload_n 0, 1) := by decide +kernel
theorem dX1_init_5 : decode cX1_init 5 = .ok (.sipush 160, 3) := by decide +kernel
theorem dX1_init_8 : decode cX1_init 8 = .ok (.newarray .int, 2) := by decide +kernel
theorem dX1_init_10 : decode cX1_init 10 = .ok (.putfield 9, 3) := by decide +kernel
theorem dX1_init_13 : decode cX1_init 13 = .ok (.return_, 1) := by decide +kernel
theorem dX1_readInto_0 : decode cX1_readInto 0 = .ok (.aload_n 0, 1) := by decide +kernel
theorem dX1_readInto_1 : decode cX1_readInto 1 = .ok (.iconst 0, 1) := by decide +kernel
theorem dX1_readInto_2 : decode cX1_readInto 2 = .ok (.putfield 15, 3) := by decide +kernel
theorem dX1_readInto_5 : decode cX1_readInto 5 = .ok (.iconst 0, 1) := by decide +kernel
theorem dX1_readInto_6 : decode cX1_readInto 6 = .ok (.istore_n 2, 1) := by decide +kernel
theorem dX1_readInto_7 : decode cX1_readInto 7 = .ok (.iload_n 2, 1) := by decide +kernel
theorem dX1_readInto_8 : decode cX1_readInto 8 = .ok (.bipush 22, 2) := by decide +kernel
theorem dX1_readInto_10 : decode cX1_readInto 10 = .ok (.if_icmp .gt 39, 3) := by decide +kernel
theorem dX1_readInto_13 : decode cX1_readInto 13 = .ok (.aload_n 0, 1) := by decide +kernel
theorem dX1_readInto_14 : decode cX1_readInto 14 = .ok (.invokevirtual 19, 3) := by decide +kernel
theorem dX1_readInto_17 : decode cX1_readInto 17 = .ok (.aload_n 0, 1) := by decide +kernel
theorem dX1_readInto_18 : decode cX1_readInto 18 = .ok (.getfield 22, 3) := by decide +kernel
theorem dX1_readInto_21 : decode cX1_readInto 21 = .ok (.ifCond .ne 5, 3) := by decide +kernel
theorem dX1_readInto_24 : decode cX1_readInto 24 = .ok (.iload_n 2, 1) := by decide +kernel
theorem dX1_readInto_25 : decode cX1_readInto 25 = .ok (.ireturn, 1) := by decide +kernel
theorem dX1_readInto_26 : decode cX1_readInto 26 = .ok (.aload_n 0, 1) := by decide +kernel
theorem dX1_readInto_27 : decode cX1_readInto 27 = .ok (.aload_n 1, 1) := by decide +kernel
theorem dX1_readInto_28 : decode cX1_readInto 28 = .ok (.invokevirtual 25, 3) := by decide +kernel
theorem dX1_readInto_31 : decode cX1_readInto 31 = .ok (.ifCond .ne 12, 3) := by decide +kernel
theorem dX1_readInto_34 : decode cX1_readInto 34 = .ok (.sipush (-1000), 3) := by decide +kernel
theorem dX1_readInto_37 : decode cX1_readInto 37 = .ok (.aload_n 0, 1) := by decide +kernel
theorem dX1_readInto_38 : decode cX1_readInto 38 = .ok (.getfield 29, 3) := by decide +kernel
theorem dX1_readInto_41 : decode cX1_readInto 41 = .ok (.isub, 1) := by decide +kernel
theorem dX1_readInto_42 : decode cX1_readInto 42 = .ok (.ireturn, 1) := by decide +kernel
theorem dX1_readInto_43 : decode cX1_readInto 43 = .ok (.iinc 2 1, 3) := by decide +kernel
theorem dX1_readInto_46 : decode cX1_readInto 46 = .ok (.goto (-39), 3) := by decide +kernel
theorem dX1_readInto_49 : decode cX1_readInto 49 = .ok (.sipush (-1000), 3) := by decide +kernel
theorem dX1_readInto_52 : decode cX1_readInto 52 = .ok (.aload_n 0, 1) := by decide +kernel
theorem dX1_readInto_53 : decode cX1_readInto 53 = .ok (.getfield 29, 3) := by decide +kernel
theorem dX1_readInto_56 : decode cX1_readInto 56 = .ok (.isub, 1) := by decide +kernel
theorem dX1_readInto_57 : decode cX1_readInto 57 = .ok (.ireturn, 1) := by decide +kernel
theorem dX1_readItem_0 : decode cX1_readItem 0 = .ok (.aload_n 0, 1) := by decide +kernel
theorem dX1_readItem_1 : decode cX1_readItem 1 = .ok (.ldc 32, 2) := by decide +kernel
theorem dX1_readItem_3 : decode cX1_readItem 3 = .ok (.invokevirtual 34, 3) := by decide +kernel
theorem dX1_readItem_6 : decode cX1_readItem 6 = .ok (.ifCond .eq 16, 3) := by decide +kernel
theorem dX1_readItem_9 : decode cX1_readItem 9 = .ok (.aload_n 1, 1) := by decide +kernel
theorem dX1_readItem_10 : decode cX1_readItem 10 = .ok (.invokevirtual 38, 3) := by decide +kernel
theorem dX1_readItem_13 : decode cX1_readItem 13 = .ok (.ifCond .eq 9, 3) := by decide +kernel
theorem dX1_readItem_16 : decode cX1_readItem 16 = .ok (.aload_n 0, 1) := by decide +kernel
theorem dX1_readItem_17 : decode cX1_readItem 17 = .ok (.aload_n 1, 1) := by decide +kernel
theorem dX1_readItem_18 : decode cX1_readItem 18 = .ok (.invokevirtual 44, 3) := by decide +kernel
theorem dX1_readItem_21 : decode cX1_readItem 21 = .ok (.ireturn, 1) := by decide +kernel
theorem dX1_readItem_22 : decode cX1_readItem 22 = .ok (.aload_n 0, 1) := by decide +kernel
theorem dX1_readItem_23 : decode cX1_readItem 23 = .ok (.ldc 47, 2) := by decide +kernel
theorem dX1_readItem_25 : decode cX1_readItem 25 = .ok (.invokevirtual 34, 3) := by decide +kernel
theorem dX1_readItem_28 : decode cX1_readItem 28 = .ok (.ifCond .eq 16, 3) := by decide +kernel
theorem dX1_readItem_31 : decode cX1_readItem 31 = .ok (.aload_n 1, 1) := by decide +kernel
theorem dX1_readItem_32 : decode cX1_readItem 32 = .ok (.invokevirtual 49, 3) := by decide +kernel
theorem dX1_readItem_35 : decode cX1_readItem 35 = .ok (.ifCond .eq 9, 3) := by decide +kernel
theorem dX1_readItem_38 : decode cX1_readItem 38 = .ok (.aload_n 0, 1) := by decide +kernel
theorem dX1_readItem_39 : decode cX1_readItem 39 = .ok (.aload_n 1, 1) := by decide +kernel
theorem dX1_readItem_40 : decode cX1_readItem 40 = .ok (.invokevirtual 52, 3) := by decide +kernel
theorem dX1_readItem_43 : decode cX1_readItem 43 = .ok (.ireturn, 1) := by decide +kernel
theorem dX1_readItem_44 : decode cX1_readItem 44 = .ok (.iconst 0, 1) := by decide +kernel
theorem dX1_readItem_45 : decode cX1_readItem 45 = .ok (.ireturn, 1) := by decide +kernel
theorem dX1_readWord_0 : decode cX1_readWord 0 = .ok (.aload_n 0, 1) := by decide +kernel
theorem dX1_readWord_1 : decode cX1_readWord 1 = .ok (.invokevirtual 19, 3) := by decide +kernel
theorem dX1_readWord_4 : decode cX1_readWord 4 = .ok (.aload_n 0, 1) := by decide +kernel
theorem dX1_readWord_5 : decode cX1_readWord 5 = .ok (.getfield 29, 3) := by decide +kernel
theorem dX1_readWord_8 : decode cX1_readWord 8 = .ok (.istore_n 2, 1) := by decide +kernel
theorem dX1_readWord_9 : decode cX1_readWord 9 = .ok (.aload_n 0, 1) := by decide +kernel
theorem dX1_readWord_10 : decode cX1_readWord 10 = .ok (.getfield 15, 3) := by decide +kernel
theorem dX1_readWord_13 : decode cX1_readWord 13 = .ok (.aload_n 0, 1) := by decide +kernel
theorem dX1_readWord_14 : decode cX1_readWord 14 = .ok (.getfield 29, 3) := by decide +kernel
theorem dX1_readWord_17 : decode cX1_readWord 17 = .ok (.isub, 1) := by decide +kernel
theorem dX1_readWord_18 : decode cX1_readWord 18 = .ok (.istore_n 3, 1) := by decide +kernel
theorem dX1_readWord_19 : decode cX1_readWord 19 = .ok (.aload_n 0, 1) := by decide +kernel
theorem dX1_readWord_20 : decode cX1_readWord 20 = .ok (.getfield 22, 3) := by decide +kernel
theorem dX1_readWord_23 : decode cX1_readWord 23 = .ok (.iconst 1, 1) := by decide +kernel
theorem dX1_readWord_24 : decode cX1_readWord 24 = .ok (.if_icmp .ne 9, 3) := by decide +kernel
theorem dX1_readWord_27 : decode cX1_readWord 27 = .ok (.iload_n 3, 1) := by decide +kernel
theorem dX1_readWord_28 : decode cX1_readWord 28 = .ok (.bipush 12, 2) := by decide +kernel
theorem dX1_readWord_30 : decode cX1_readWord 30 = .ok (.if_icmp .le 5, 3) := by decide +kernel
theorem dX1_readWord_33 : decode cX1_readWord 33 = .ok (.iconst 0, 1) := by decide +kernel
theorem dX1_readWord_34 : decode cX1_readWord 34 = .ok (.ireturn, 1) := by decide +kernel
theorem dX1_readWord_35 : decode cX1_readWord 35 = .ok (.aload_n 0, 1) := by decide +kernel
theorem dX1_readWord_36 : decode cX1_readWord 36 = .ok (.invokevirtual 19, 3) := by decide +kernel
theorem dX1_readWord_39 : decode cX1_readWord 39 = .ok (.aload_n 0, 1) := by decide +kernel
theorem dX1_readWord_40 : decode cX1_readWord 40 = .ok (.invokevirtual 55, 3) := by decide +kernel
theorem dX1_readWord_43 : decode cX1_readWord 43 = .ok (.istore 4, 2) := by decide +kernel
theorem dX1_readWord_45 : decode cX1_readWord 45 = .ok (.iconst 0, 1) := by decide +kernel
theorem dX1_readWord_46 : decode cX1_readWord 46 = .ok (.iload 4, 2) := by decide +kernel
theorem dX1_readWord_48 : decode cX1_readWord 48 = .ok (.invokestatic 59, 3) := by decide +kernel
theorem dX1_readWord_51 : decode cX1_readWord 51 = .ok (.ifCond .ne 5, 3) := by decide +kernel
theorem dX1_readWord_54 : decode cX1_readWord 54 = .ok (.iconst 0, 1) := by decide +kernel
theorem dX1_readWord_55 : decode cX1_readWord 55 = .ok (.ireturn, 1) := by decide +kernel
theorem dX1_readWord_56 : decode cX1_readWord 56 = .ok (.aload_n 0, 1) := by decide +kernel
theorem dX1_readWord_57 : decode cX1_readWord 57 = .ok (.invokevirtual 19, 3) := by decide +kernel
theorem dX1_readWord_60 : decode cX1_readWord 60 = .ok (.aload_n 0, 1) := by decide +kernel
theorem dX1_readWord_61 : decode cX1_readWord 61 = .ok (.invokevirtual 55, 3) := by decide +kernel
theorem dX1_readWord_64 : decode cX1_readWord 64 = .ok (.istore 5, 2) := by decide +kernel
theorem dX1_readWord_66 : decode cX1_readWord 66 = .ok (.iconst 1, 1) := by decide +kernel
theorem dX1_readWord_67 : decode cX1_readWord 67 = .ok (.iload 5, 2) := by decide +kernel
theorem dX1_readWord_69 : decode cX1_readWord 69 = .ok (.invokestatic 59, 3) := by decide +kernel
theorem dX1_readWord_72 : decode cX1_readWord 72 = .ok (.ifCond .ne 5, 3) := by decide +kernel
theorem dX1_readWord_75 : decode cX1_readWord 75 = .ok (.iconst 0, 1) := by decide +kernel
theorem dX1_readWord_76 : decode cX1_readWord 76 = .ok (.ireturn, 1) := by decide +kernel
theorem dX1_readWord_77 : decode cX1_readWord 77 = .ok (.aload_n 0, 1) := by decide +kernel
theorem dX1_readWord_78 : decode cX1_readWord 78 = .ok (.invokevirtual 19, 3) := by decide +kernel
theorem dX1_readWord_81 : decode cX1_readWord 81 = .ok (.aload_n 0, 1) := by decide +kernel
theorem dX1_readWord_82 : decode cX1_readWord 82 = .ok (.invokevirtual 55, 3) := by decide +kernel
theorem dX1_readWord_85 : decode cX1_readWord 85 = .ok (.istore 6, 2) := by decide +kernel
theorem dX1_readWord_87 : decode cX1_readWord 87 = .ok (.iconst 2, 1) := by decide +kernel
theorem dX1_readWord_88 : decode cX1_readWord 88 = .ok (.iload 6, 2) := by decide +kernel
theorem dX1_readWord_90 : decode cX1_readWord 90 = .ok (.invokestatic 59, 3) := by decide +kernel
theorem dX1_readWord_93 : decode cX1_readWord 93 = .ok (.ifCond .ne 5, 3) := by decide +kernel
theorem dX1_readWord_96 : decode cX1_readWord 96 = .ok (.iconst 0, 1) := by decide +kernel
theorem dX1_readWord_97 : decode cX1_readWord 97 = .ok (.ireturn, 1) := by decide +kernel
theorem dX1_readWord_98 : decode cX1_readWord 98 = .ok (.aload_n 0, 1) := by decide +kernel
theorem dX1_readWord_99 : decode cX1_readWord 99 = .ok (.invokevirtual 19, 3) := by decide +kernel
theorem dX1_readWord_102 : decode cX1_readWord 102 = .ok (.aload_n 0, 1) := by decide +kernel
theorem dX1_readWord_103 : decode cX1_readWord 103 = .ok (.invokevirtual 63, 3) := by decide +kernel
theorem dX1_readWord_106 : decode cX1_readWord 106 = .ok (.istore 7, 2) := by decide +kernel
theorem dX1_readWord_108 : decode cX1_readWord 108 = .ok (.iload 7, 2) := by decide +kernel
theorem dX1_readWord_110 : decode cX1_readWord 110 = .ok (.ifCond .eq 7, 3) := by decide +kernel
theorem dX1_readWord_113 : decode cX1_readWord 113 = .ok (.aload_n 0, 1) := by decide +kernel
theorem dX1_readWord_114 : decode cX1_readWord 114 = .ok (.invokevirtual 19, 3) := by decide +kernel
theorem dX1_readWord_117 : decode cX1_readWord 117 = .ok (.aload_n 0, 1) := by decide +kernel
theorem dX1_readWord_118 : decode cX1_readWord 118 = .ok (.getfield 22, 3) := by decide +kernel
theorem dX1_readWord_121 : decode cX1_readWord 121 = .ok (.iconst 3, 1) := by decide +kernel
theorem dX1_readWord_122 : decode cX1_readWord 122 = .ok (.if_icmp .eq 5, 3) := by decide +kernel
theorem dX1_readWord_125 : decode cX1_readWord 125 = .ok (.iconst 0, 1) := by decide +kernel
theorem dX1_readWord_126 : decode cX1_readWord 126 = .ok (.ireturn, 1) := by decide +kernel
theorem dX1_readWord_127 : decode cX1_readWord 127 = .ok (.aload_n 1, 1) := by decide +kernel
theorem dX1_readWord_128 : decode cX1_readWord 128 = .ok (.iload_n 3, 1) := by decide +kernel
theorem dX1_readWord_129 : decode cX1_readWord 129 = .ok (.iload 4, 2) := by decide +kernel
theorem dX1_readWord_131 : decode cX1_readWord 131 = .ok (.iload 5, 2) := by decide +kernel
theorem dX1_readWord_133 : decode cX1_readWord 133 = .ok (.iload 6, 2) := by decide +kernel
theorem dX1_readWord_135 : decode cX1_readWord 135 = .ok (.iload 7, 2) := by decide +kernel
theorem dX1_readWord_137 : decode cX1_readWord 137 = .ok (.invokevirtual 66, 3) := by decide +kernel
theorem dX1_readWord_140 : decode cX1_readWord 140 = .ok (.astore 8, 2) := by decide +kernel
theorem dX1_readWord_142 : decode cX1_readWord 142 = .ok (.aload_n 0, 1) := by decide +kernel
theorem dX1_readWord_143 : decode cX1_readWord 143 = .ok (.getfield 9, 3) := by decide +kernel
theorem dX1_readWord_146 : decode cX1_readWord 146 = .ok (.iload_n 2, 1) := by decide +kernel
theorem dX1_readWord_147 : decode cX1_readWord 147 = .ok (.aload 8, 2) := by decide +kernel
theorem dX1_readWord_149 : decode cX1_readWord 149 = .ok (.getfield 70, 3) := by decide +kernel
theorem dX1_readWord_152 : decode cX1_readWord 152 = .ok (.iconst 0, 1) := by decide +kernel
theorem dX1_readWord_153 : decode cX1_readWord 153 = .ok (.iload_n 3, 1) := by decide +kernel
theorem dX1_readWord_154 : decode cX1_readWord 154 = .ok (.invokestatic 75, 3) := by decide +kernel
theorem dX1_readWord_157 : decode cX1_readWord 157 = .ok (.iconst 1, 1) := by decide +kernel
theorem dX1_readWord_158 : decode cX1_readWord 158 = .ok (.ireturn, 1) := by decide +kernel
theorem dX1_readShot_0 : decode cX1_readShot 0 = .ok (.aload_n 0, 1) := by decide +kernel
theorem dX1_readShot_1 : decode cX1_readShot 1 = .ok (.invokevirtual 19, 3) := by decide +kernel
theorem dX1_readShot_4 : decode cX1_readShot 4 = .ok (.aload_n 0, 1) := by decide +kernel
theorem dX1_readShot_5 : decode cX1_readShot 5 = .ok (.invokevirtual 55, 3) := by decide +kernel
theorem dX1_readShot_8 : decode cX1_readShot 8 = .ok (.istore_n 2, 1) := by decide +kernel
theorem dX1_readShot_9 : decode cX1_readShot 9 = .ok (.iload_n 2, 1) := by decide +kernel
theorem dX1_readShot_10 : decode cX1_readShot 10 = .ok (.iconst 1, 1) := by decide +kernel
theorem dX1_readShot_11 : decode cX1_readShot 11 = .ok (.sipush 3000, 3) := by decide +kernel
theorem dX1_readShot_14 : decode cX1_readShot 14 = .ok (.invokestatic 81, 3) := by decide +kernel
theorem dX1_readShot_17 : decode cX1_readShot 17 = .ok (.ifCond .eq 11, 3) := by decide +kernel
theorem dX1_readShot_20 : decode cX1_readShot 20 = .ok (.aload_n 1, 1) := by decide +kernel
theorem dX1_readShot_21 : decode cX1_readShot 21 = .ok (.iload_n 2, 1) := by decide +kernel
theorem dX1_readShot_22 : decode cX1_readShot 22 = .ok (.invokevirtual 85, 3) := by decide +kernel
theorem dX1_readShot_25 : decode cX1_readShot 25 = .ok (.ifCond .eq 5, 3) := by decide +kernel
theorem dX1_readShot_28 : decode cX1_readShot 28 = .ok (.iconst 0, 1) := by decide +kernel
theorem dX1_readShot_29 : decode cX1_readShot 29 = .ok (.ireturn, 1) := by decide +kernel
theorem dX1_readShot_30 : decode cX1_readShot 30 = .ok (.aload_n 0, 1) := by decide +kernel
theorem dX1_readShot_31 : decode cX1_readShot 31 = .ok (.invokevirtual 19, 3) := by decide +kernel
theorem dX1_readShot_34 : decode cX1_readShot 34 = .ok (.aload_n 0, 1) := by decide +kernel
theorem dX1_readShot_35 : decode cX1_readShot 35 = .ok (.getfield 22, 3) := by decide +kernel
theorem dX1_readShot_38 : decode cX1_readShot 38 = .ok (.iconst 3, 1) := by decide +kernel
theorem dX1_readShot_39 : decode cX1_readShot 39 = .ok (.if_icmp .eq 5, 3) := by decide +kernel
theorem dX1_readShot_42 : decode cX1_readShot 42 = .ok (.iconst 0, 1) := by decide +kernel
theorem dX1_readShot_43 : decode cX1_readShot 43 = .ok (.ireturn, 1) := by decide +kernel
theorem dX1_readShot_44 : decode cX1_readShot 44 = .ok (.aload_n 1, 1) := by decide +kernel
theorem dX1_readShot_45 : decode cX1_readShot 45 = .ok (.iload_n 2, 1) := by decide +kernel
theorem dX1_readShot_46 : decode cX1_readShot 46 = .ok (.invokevirtual 89, 3) := by decide +kernel
theorem dX1_readShot_49 : decode cX1_readShot 49 = .ok (.iconst 1, 1) := by decide +kernel
theorem dX1_readShot_50 : decode cX1_readShot 50 = .ok (.ireturn, 1) := by decide +kernel
theorem dX1_step_0 : decode cX1_step 0 = .ok (.aload_n 0, 1) := by decide +kernel
theorem dX1_step_1 : decode cX1_step 1 = .ok (.aload_n 0, 1) := by decide +kernel
theorem dX1_step_2 : decode cX1_step 2 = .ok (.getfield 15, 3) := by decide +kernel
theorem dX1_step_5 : decode cX1_step 5 = .ok (.putfield 29, 3) := by decide +kernel
theorem dX1_step_8 : decode cX1_step 8 = .ok (.aload_n 0, 1) := by decide +kernel
theorem dX1_step_9 : decode cX1_step 9 = .ok (.getfield 29, 3) := by decide +kernel
theorem dX1_step_12 : decode cX1_step 12 = .ok (.aload_n 0, 1) := by decide +kernel
theorem dX1_step_13 : decode cX1_step 13 = .ok (.getfield 93, 3) := by decide +kernel
theorem dX1_step_16 : decode cX1_step 16 = .ok (.if_icmp .ge 30, 3) := by decide +kernel
theorem dX1_step_19 : decode cX1_step 19 = .ok (.aload_n 0, 1) := by decide +kernel
theorem dX1_step_20 : decode cX1_step 20 = .ok (.getfield 9, 3) := by decide +kernel
theorem dX1_step_23 : decode cX1_step 23 = .ok (.aload_n 0, 1) := by decide +kernel
theorem dX1_step_24 : decode cX1_step 24 = .ok (.getfield 29, 3) := by decide +kernel
theorem dX1_step_27 : decode cX1_step 27 = .ok (.iaload, 1) := by decide +kernel
theorem dX1_step_28 : decode cX1_step 28 = .ok (.bipush 32, 2) := by decide +kernel
theorem dX1_step_30 : decode cX1_step 30 = .ok (.if_icmp .ne 16, 3) := by decide +kernel
theorem dX1_step_33 : decode cX1_step 33 = .ok (.aload_n 0, 1) := by decide +kernel
theorem dX1_step_34 : decode cX1_step 34 = .ok (.dup, 1) := by decide +kernel
theorem dX1_step_35 : decode cX1_step 35 = .ok (.getfield 29, 3) := by decide +kernel
theorem dX1_step_38 : decode cX1_step 38 = .ok (.iconst 1, 1) := by decide +kernel
theorem dX1_step_39 : decode cX1_step 39 = .ok (.iadd, 1) := by decide +kernel
theorem dX1_step_40 : decode cX1_step 40 = .ok (.putfield 29, 3) := by decide +kernel
theorem dX1_step_43 : decode cX1_step 43 = .ok (.goto (-35), 3) := by decide +kernel
theorem dX1_step_46 : decode cX1_step 46 = .ok (.aload_n 0, 1) := by decide +kernel
theorem dX1_step_47 : decode cX1_step 47 = .ok (.aload_n 0, 1) := by decide +kernel
theorem dX1_step_48 : decode cX1_step 48 = .ok (.getfield 29, 3) := by decide +kernel
theorem dX1_step_51 : decode cX1_step 51 = .ok (.putfield 15, 3) := by decide +kernel
theorem dX1_step_54 : decode cX1_step 54 = .ok (.aload_n 0, 1) := by decide +kernel
theorem dX1_step_55 : decode cX1_step 55 = .ok (.aload_n 0, 1) := by decide +kernel
theorem dX1_step_56 : decode cX1_step 56 = .ok (.aload_n 0, 1) := by decide +kernel
theorem dX1_step_57 : decode cX1_step 57 = .ok (.getfield 29, 3) := by decide +kernel
theorem dX1_step_60 : decode cX1_step 60 = .ok (.invokevirtual 96, 3) := by decide +kernel
theorem dX1_step_63 : decode cX1_step 63 = .ok (.putfield 22, 3) := by decide +kernel
theorem dX1_step_66 : decode cX1_step 66 = .ok (.aload_n 0, 1) := by decide +kernel
theorem dX1_step_67 : decode cX1_step 67 = .ok (.getfield 22, 3) := by decide +kernel
theorem dX1_step_70 : decode cX1_step 70 = .ok (.iconst 1, 1) := by decide +kernel
theorem dX1_step_71 : decode cX1_step 71 = .ok (.if_icmp .eq 11, 3) := by decide +kernel
theorem dX1_step_74 : decode cX1_step 74 = .ok (.aload_n 0, 1) := by decide +kernel
theorem dX1_step_75 : decode cX1_step 75 = .ok (.getfield 22, 3) := by decide +kernel
theorem dX1_step_78 : decode cX1_step 78 = .ok (.iconst 2, 1) := by decide +kernel
theorem dX1_step_79 : decode cX1_step 79 = .ok (.if_icmp .ne 42, 3) := by decide +kernel
theorem dX1_step_82 : decode cX1_step 82 = .ok (.aload_n 0, 1) := by decide +kernel
theorem dX1_step_83 : decode cX1_step 83 = .ok (.getfield 15, 3) := by decide +kernel
theorem dX1_step_86 : decode cX1_step 86 = .ok (.aload_n 0, 1) := by decide +kernel
theorem dX1_step_87 : decode cX1_step 87 = .ok (.getfield 93, 3) := by decide +kernel
theorem dX1_step_90 : decode cX1_step 90 = .ok (.if_icmp .ge 48, 3) := by decide +kernel
theorem dX1_step_93 : decode cX1_step 93 = .ok (.aload_n 0, 1) := by decide +kernel
theorem dX1_step_94 : decode cX1_step 94 = .ok (.aload_n 0, 1) := by decide +kernel
theorem dX1_step_95 : decode cX1_step 95 = .ok (.getfield 15, 3) := by decide +kernel
theorem dX1_step_98 : decode cX1_step 98 = .ok (.invokevirtual 96, 3) := by decide +kernel
theorem dX1_step_101 : decode cX1_step 101 = .ok (.aload_n 0, 1) := by decide +kernel
theorem dX1_step_102 : decode cX1_step 102 = .ok (.getfield 22, 3) := by decide +kernel
theorem dX1_step_105 : decode cX1_step 105 = .ok (.if_icmp .ne 33, 3) := by decide +kernel
theorem dX1_step_108 : decode cX1_step 108 = .ok (.aload_n 0, 1) := by decide +kernel
theorem dX1_step_109 : decode cX1_step 109 = .ok (.dup, 1) := by decide +kernel
theorem dX1_step_110 : decode cX1_step 110 = .ok (.getfield 15, 3) := by decide +kernel
theorem dX1_step_113 : decode cX1_step 113 = .ok (.iconst 1, 1) := by decide +kernel
theorem dX1_step_114 : decode cX1_step 114 = .ok (.iadd, 1) := by decide +kernel
theorem dX1_step_115 : decode cX1_step 115 = .ok (.putfield 15, 3) := by decide +kernel
theorem dX1_step_118 : decode cX1_step 118 = .ok (.goto (-36), 3) := by decide +kernel
theorem dX1_step_121 : decode cX1_step 121 = .ok (.aload_n 0, 1) := by decide +kernel
theorem dX1_step_122 : decode cX1_step 122 = .ok (.getfield 22, 3) := by decide +kernel
theorem dX1_step_125 : decode cX1_step 125 = .ok (.ifCond .eq 13, 3) := by decide +kernel
theorem dX1_step_128 : decode cX1_step 128 = .ok (.aload_n 0, 1) := by decide +kernel
theorem dX1_step_129 : decode cX1_step 129 = .ok (.dup, 1) := by decide +kernel
theorem dX1_step_130 : decode cX1_step 130 = .ok (.getfield 15, 3) := by decide +kernel
theorem dX1_step_133 : decode cX1_step 133 = .ok (.iconst 1, 1) := by decide +kernel
theorem dX1_step_134 : decode cX1_step 134 = .ok (.iadd, 1) := by decide +kernel
theorem dX1_step_135 : decode cX1_step 135 = .ok (.putfield 15, 3) := by decide +kernel
theorem dX1_step_138 : decode cX1_step 138 = .ok (.return_, 1) := by decide +kernel
theorem dX1_kindAt_0 : decode cX1_kindAt 0 = .ok (.iload_n 1, 1) := by decide +kernel
theorem dX1_kindAt_1 : decode cX1_kindAt 1 = .ok (.aload_n 0, 1) := by decide +kernel
theorem dX1_kindAt_2 : decode cX1_kindAt 2 = .ok (.getfield 93, 3) := by decide +kernel
theorem dX1_kindAt_5 : decode cX1_kindAt 5 = .ok (.if_icmp .lt 5, 3) := by decide +kernel
theorem dX1_kindAt_8 : decode cX1_kindAt 8 = .ok (.iconst 0, 1) := by decide +kernel
theorem dX1_kindAt_9 : decode cX1_kindAt 9 = .ok (.ireturn, 1) := by decide +kernel
theorem dX1_kindAt_10 : decode cX1_kindAt 10 = .ok (.aload_n 0, 1) := by decide +kernel
theorem dX1_kindAt_11 : decode cX1_kindAt 11 = .ok (.getfield 9, 3) := by decide +kernel
theorem dX1_kindAt_14 : decode cX1_kindAt 14 = .ok (.iload_n 1, 1) := by decide +kernel
theorem dX1_kindAt_15 : decode cX1_kindAt 15 = .ok (.iaload, 1) := by decide +kernel
theorem dX1_kindAt_16 : decode cX1_kindAt 16 = .ok (.istore_n 2, 1) := by decide +kernel
theorem dX1_kindAt_17 : decode cX1_kindAt 17 = .ok (.iload_n 2, 1) := by decide +kernel
theorem dX1_kindAt_18 : decode cX1_kindAt 18 = .ok (.bipush 97, 2) := by decide +kernel
theorem dX1_kindAt_20 : decode cX1_kindAt 20 = .ok (.if_icmp .lt 11, 3) := by decide +kernel
theorem dX1_kindAt_23 : decode cX1_kindAt 23 = .ok (.iload_n 2, 1) := by decide +kernel
theorem dX1_kindAt_24 : decode cX1_kindAt 24 = .ok (.bipush 122, 2) := by decide +kernel
theorem dX1_kindAt_26 : decode cX1_kindAt 26 = .ok (.if_icmp .gt 5, 3) := by decide +kernel
theorem dX1_kindAt_29 : decode cX1_kindAt 29 = .ok (.iconst 1, 1) := by decide +kernel
theorem dX1_kindAt_30 : decode cX1_kindAt 30 = .ok (.ireturn, 1) := by decide +kernel
theorem dX1_kindAt_31 : decode cX1_kindAt 31 = .ok (.iload_n 2, 1) := by decide +kernel
theorem dX1_kindAt_32 : decode cX1_kindAt 32 = .ok (.bipush 48, 2) := by decide +kernel
theorem dX1_kindAt_34 : decode cX1_kindAt 34 = .ok (.if_icmp .lt 11, 3) := by decide +kernel
theorem dX1_kindAt_37 : decode cX1_kindAt 37 = .ok (.iload_n 2, 1) := by decide +kernel
theorem dX1_kindAt_38 : decode cX1_kindAt 38 = .ok (.bipush 57, 2) := by decide +kernel
theorem dX1_kindAt_40 : decode cX1_kindAt 40 = .ok (.if_icmp .gt 5, 3) := by decide +kernel
theorem dX1_kindAt_43 : decode cX1_kindAt 43 = .ok (.iconst 2, 1) := by decide +kernel
theorem dX1_kindAt_44 : decode cX1_kindAt 44 = .ok (.ireturn, 1) := by decide +kernel
theorem dX1_kindAt_45 : decode cX1_kindAt 45 = .ok (.iload_n 2, 1) := by decide +kernel
theorem dX1_kindAt_46 : decode cX1_kindAt 46 = .ok (.bipush 59, 2) := by decide +kernel
theorem dX1_kindAt_48 : decode cX1_kindAt 48 = .ok (.if_icmp .ne 7, 3) := by decide +kernel
theorem dX1_kindAt_51 : decode cX1_kindAt 51 = .ok (.iconst 3, 1) := by decide +kernel
theorem dX1_kindAt_52 : decode cX1_kindAt 52 = .ok (.goto 4, 3) := by decide +kernel
theorem dX1_kindAt_55 : decode cX1_kindAt 55 = .ok (.iconst 4, 1) := by decide +kernel
theorem dX1_kindAt_56 : decode cX1_kindAt 56 = .ok (.ireturn, 1) := by decide +kernel
theorem dX1_isName_0 : decode cX1_isName 0 = .ok (.aload_n 0, 1) := by decide +kernel
theorem dX1_isName_1 : decode cX1_isName 1 = .ok (.getfield 22, 3) := by decide +kernel
theorem dX1_isName_4 : decode cX1_isName 4 = .ok (.iconst 1, 1) := by decide +kernel
theorem dX1_isName_5 : decode cX1_isName 5 = .ok (.if_icmp .ne 19, 3) := by decide +kernel
theorem dX1_isName_8 : decode cX1_isName 8 = .ok (.aload_n 0, 1) := by decide +kernel
theorem dX1_isName_9 : decode cX1_isName 9 = .ok (.getfield 15, 3) := by decide +kernel
theorem dX1_isName_12 : decode cX1_isName 12 = .ok (.aload_n 0, 1) := by decide +kernel
theorem dX1_isName_13 : decode cX1_isName 13 = .ok (.getfield 29, 3) := by decide +kernel
theorem dX1_isName_16 : decode cX1_isName 16 = .ok (.isub, 1) := by decide +kernel
theorem dX1_isName_17 : decode cX1_isName 17 = .ok (.aload_n 1, 1) := by decide +kernel
theorem dX1_isName_18 : decode cX1_isName 18 = .ok (.invokevirtual 100, 3) := by decide +kernel
theorem dX1_isName_21 : decode cX1_isName 21 = .ok (.if_icmp .eq 5, 3) := by decide +kernel
theorem dX1_isName_24 : decode cX1_isName 24 = .ok (.iconst 0, 1) := by decide +kernel
theorem dX1_isName_25 : decode cX1_isName 25 = .ok (.ireturn, 1) := by decide +kernel
theorem dX1_isName_26 : decode cX1_isName 26 = .ok (.iconst 0, 1) := by decide +kernel
theorem dX1_isName_27 : decode cX1_isName 27 = .ok (.istore_n 2, 1) := by decide +kernel
theorem dX1_isName_28 : decode cX1_isName 28 = .ok (.iload_n 2, 1) := by decide +kernel
theorem dX1_isName_29 : decode cX1_isName 29 = .ok (.aload_n 1, 1) := by decide +kernel
theorem dX1_isName_30 : decode cX1_isName 30 = .ok (.invokevirtual 100, 3) := by decide +kernel
theorem dX1_isName_33 : decode cX1_isName 33 = .ok (.if_icmp .ge 30, 3) := by decide +kernel
theorem dX1_isName_36 : decode cX1_isName 36 = .ok (.aload_n 0, 1) := by decide +kernel
theorem dX1_isName_37 : decode cX1_isName 37 = .ok (.getfield 9, 3) := by decide +kernel
theorem dX1_isName_40 : decode cX1_isName 40 = .ok (.aload_n 0, 1) := by decide +kernel
theorem dX1_isName_41 : decode cX1_isName 41 = .ok (.getfield 29, 3) := by decide +kernel
theorem dX1_isName_44 : decode cX1_isName 44 = .ok (.iload_n 2, 1) := by decide +kernel
theorem dX1_isName_45 : decode cX1_isName 45 = .ok (.iadd, 1) := by decide +kernel
theorem dX1_isName_46 : decode cX1_isName 46 = .ok (.iaload, 1) := by decide +kernel
theorem dX1_isName_47 : decode cX1_isName 47 = .ok (.aload_n 1, 1) := by decide +kernel
theorem dX1_isName_48 : decode cX1_isName 48 = .ok (.iload_n 2, 1) := by decide +kernel
theorem dX1_isName_49 : decode cX1_isName 49 = .ok (.invokevirtual 104, 3) := by decide +kernel
theorem dX1_isName_52 : decode cX1_isName 52 = .ok (.if_icmp .eq 5, 3) := by decide +kernel
theorem dX1_isName_55 : decode cX1_isName 55 = .ok (.iconst 0, 1) := by decide +kernel
theorem dX1_isName_56 : decode cX1_isName 56 = .ok (.ireturn, 1) := by decide +kernel
theorem dX1_isName_57 : decode cX1_isName 57 = .ok (.iinc 2 1, 3) := by decide +kernel
theorem dX1_isName_60 : decode cX1_isName 60 = .ok (.goto (-32), 3) := by decide +kernel
theorem dX1_isName_63 : decode cX1_isName 63 = .ok (.iconst 1, 1) := by decide +kernel
theorem dX1_isName_64 : decode cX1_isName 64 = .ok (.ireturn, 1) := by decide +kernel
theorem dX1_wayOf_0 : decode cX1_wayOf 0 = .ok (.aload_n 0, 1) := by decide +kernel
theorem dX1_wayOf_1 : decode cX1_wayOf 1 = .ok (.ldc 108, 2) := by decide +kernel
theorem dX1_wayOf_3 : decode cX1_wayOf 3 = .ok (.invokevirtual 34, 3) := by decide +kernel
theorem dX1_wayOf_6 : decode cX1_wayOf 6 = .ok (.ifCond .eq 5, 3) := by decide +kernel
theorem dX1_wayOf_9 : decode cX1_wayOf 9 = .ok (.iconst 1, 1) := by decide +kernel
theorem dX1_wayOf_10 : decode cX1_wayOf 10 = .ok (.ireturn, 1) := by decide +kernel
theorem dX1_wayOf_11 : decode cX1_wayOf 11 = .ok (.aload_n 0, 1) := by decide +kernel
theorem dX1_wayOf_12 : decode cX1_wayOf 12 = .ok (.ldc 110, 2) := by decide +kernel
theorem dX1_wayOf_14 : decode cX1_wayOf 14 = .ok (.invokevirtual 34, 3) := by decide +kernel
theorem dX1_wayOf_17 : decode cX1_wayOf 17 = .ok (.ifCond .eq 5, 3) := by decide +kernel
theorem dX1_wayOf_20 : decode cX1_wayOf 20 = .ok (.iconst 2, 1) := by decide +kernel
theorem dX1_wayOf_21 : decode cX1_wayOf 21 = .ok (.ireturn, 1) := by decide +kernel
theorem dX1_wayOf_22 : decode cX1_wayOf 22 = .ok (.aload_n 0, 1) := by decide +kernel
theorem dX1_wayOf_23 : decode cX1_wayOf 23 = .ok (.ldc 112, 2) := by decide +kernel
theorem dX1_wayOf_25 : decode cX1_wayOf 25 = .ok (.invokevirtual 34, 3) := by decide +kernel
theorem dX1_wayOf_28 : decode cX1_wayOf 28 = .ok (.ifCond .eq 5, 3) := by decide +kernel
theorem dX1_wayOf_31 : decode cX1_wayOf 31 = .ok (.iconst 3, 1) := by decide +kernel
theorem dX1_wayOf_32 : decode cX1_wayOf 32 = .ok (.ireturn, 1) := by decide +kernel
theorem dX1_wayOf_33 : decode cX1_wayOf 33 = .ok (.aload_n 0, 1) := by decide +kernel
theorem dX1_wayOf_34 : decode cX1_wayOf 34 = .ok (.ldc 114, 2) := by decide +kernel
theorem dX1_wayOf_36 : decode cX1_wayOf 36 = .ok (.invokevirtual 34, 3) := by decide +kernel
theorem dX1_wayOf_39 : decode cX1_wayOf 39 = .ok (.ifCond .eq 7, 3) := by decide +kernel
theorem dX1_wayOf_42 : decode cX1_wayOf 42 = .ok (.iconst 4, 1) := by decide +kernel
theorem dX1_wayOf_43 : decode cX1_wayOf 43 = .ok (.goto 4, 3) := by decide +kernel
theorem dX1_wayOf_46 : decode cX1_wayOf 46 = .ok (.iconst 0, 1) := by decide +kernel
theorem dX1_wayOf_47 : decode cX1_wayOf 47 = .ok (.ireturn, 1) := by decide +kernel
theorem dX1_numberOf_0 : decode cX1_numberOf 0 = .ok (.aload_n 0, 1) := by decide +kernel
theorem dX1_numberOf_1 : decode cX1_numberOf 1 = .ok (.getfield 22, 3) := by decide +kernel
theorem dX1_numberOf_4 : decode cX1_numberOf 4 = .ok (.iconst 2, 1) := by decide +kernel
theorem dX1_numberOf_5 : decode cX1_numberOf 5 = .ok (.if_icmp .ne 30, 3) := by decide +kernel
theorem dX1_numberOf_8 : decode cX1_numberOf 8 = .ok (.aload_n 0, 1) := by decide +kernel
theorem dX1_numberOf_9 : decode cX1_numberOf 9 = .ok (.getfield 9, 3) := by decide +kernel
theorem dX1_numberOf_12 : decode cX1_numberOf 12 = .ok (.aload_n 0, 1) := by decide +kernel
theorem dX1_numberOf_13 : decode cX1_numberOf 13 = .ok (.getfield 29, 3) := by decide +kernel
theorem dX1_numberOf_16 : decode cX1_numberOf 16 = .ok (.iaload, 1) := by decide +kernel
theorem dX1_numberOf_17 : decode cX1_numberOf 17 = .ok (.bipush 48, 2) := by decide +kernel
theorem dX1_numberOf_19 : decode cX1_numberOf 19 = .ok (.if_icmp .ne 18, 3) := by decide +kernel
theorem dX1_numberOf_22 : decode cX1_numberOf 22 = .ok (.aload_n 0, 1) := by decide +kernel
theorem dX1_numberOf_23 : decode cX1_numberOf 23 = .ok (.getfield 15, 3) := by decide +kernel
theorem dX1_numberOf_26 : decode cX1_numberOf 26 = .ok (.aload_n 0, 1) := by decide +kernel
theorem dX1_numberOf_27 : decode cX1_numberOf 27 = .ok (.getfield 29, 3) := by decide +kernel
theorem dX1_numberOf_30 : decode cX1_numberOf 30 = .ok (.isub, 1) := by decide +kernel
theorem dX1_numberOf_31 : decode cX1_numberOf 31 = .ok (.iconst 1, 1) := by decide +kernel
theorem dX1_numberOf_32 : decode cX1_numberOf 32 = .ok (.if_icmp .le 5, 3) := by decide +kernel
theorem dX1_numberOf_35 : decode cX1_numberOf 35 = .ok (.iconst (-1), 1) := by decide +kernel
theorem dX1_numberOf_36 : decode cX1_numberOf 36 = .ok (.ireturn, 1) := by decide +kernel
theorem dX1_numberOf_37 : decode cX1_numberOf 37 = .ok (.iconst 0, 1) := by decide +kernel
theorem dX1_numberOf_38 : decode cX1_numberOf 38 = .ok (.istore_n 1, 1) := by decide +kernel
theorem dX1_numberOf_39 : decode cX1_numberOf 39 = .ok (.aload_n 0, 1) := by decide +kernel
theorem dX1_numberOf_40 : decode cX1_numberOf 40 = .ok (.getfield 29, 3) := by decide +kernel
theorem dX1_numberOf_43 : decode cX1_numberOf 43 = .ok (.istore_n 2, 1) := by decide +kernel
theorem dX1_numberOf_44 : decode cX1_numberOf 44 = .ok (.iload_n 2, 1) := by decide +kernel
theorem dX1_numberOf_45 : decode cX1_numberOf 45 = .ok (.aload_n 0, 1) := by decide +kernel
theorem dX1_numberOf_46 : decode cX1_numberOf 46 = .ok (.getfield 15, 3) := by decide +kernel
theorem dX1_numberOf_49 : decode cX1_numberOf 49 = .ok (.if_icmp .ge 33, 3) := by decide +kernel
theorem dX1_numberOf_52 : decode cX1_numberOf 52 = .ok (.iload_n 1, 1) := by decide +kernel
theorem dX1_numberOf_53 : decode cX1_numberOf 53 = .ok (.bipush 10, 2) := by decide +kernel
theorem dX1_numberOf_55 : decode cX1_numberOf 55 = .ok (.imul, 1) := by decide +kernel
theorem dX1_numberOf_56 : decode cX1_numberOf 56 = .ok (.aload_n 0, 1) := by decide +kernel
theorem dX1_numberOf_57 : decode cX1_numberOf 57 = .ok (.getfield 9, 3) := by decide +kernel
theorem dX1_numberOf_60 : decode cX1_numberOf 60 = .ok (.iload_n 2, 1) := by decide +kernel
theorem dX1_numberOf_61 : decode cX1_numberOf 61 = .ok (.iaload, 1) := by decide +kernel
theorem dX1_numberOf_62 : decode cX1_numberOf 62 = .ok (.bipush 48, 2) := by decide +kernel
theorem dX1_numberOf_64 : decode cX1_numberOf 64 = .ok (.isub, 1) := by decide +kernel
theorem dX1_numberOf_65 : decode cX1_numberOf 65 = .ok (.iadd, 1) := by decide +kernel
theorem dX1_numberOf_66 : decode cX1_numberOf 66 = .ok (.istore_n 1, 1) := by decide +kernel
theorem dX1_numberOf_67 : decode cX1_numberOf 67 = .ok (.iload_n 1, 1) := by decide +kernel
theorem dX1_numberOf_68 : decode cX1_numberOf 68 = .ok (.sipush 4000, 3) := by decide +kernel
theorem dX1_numberOf_71 : decode cX1_numberOf 71 = .ok (.if_icmp .le 5, 3) := by decide +kernel
theorem dX1_numberOf_74 : decode cX1_numberOf 74 = .ok (.iconst (-1), 1) := by decide +kernel
theorem dX1_numberOf_75 : decode cX1_numberOf 75 = .ok (.ireturn, 1) := by decide +kernel
theorem dX1_numberOf_76 : decode cX1_numberOf 76 = .ok (.iinc 2 1, 3) := by decide +kernel
theorem dX1_numberOf_79 : decode cX1_numberOf 79 = .ok (.goto (-35), 3) := by decide +kernel
theorem dX1_numberOf_82 : decode cX1_numberOf 82 = .ok (.iload_n 1, 1) := by decide +kernel
theorem dX1_numberOf_83 : decode cX1_numberOf 83 = .ok (.ireturn, 1) := by decide +kernel
theorem dX2_init_0 : decode cX2_init 0 = .ok (.aload_n 0, 1) := by decide +kernel
theorem dX2_init_1 : decode cX2_init 1 = .ok (.invokespecial 3, 3) := by decide +kernel
theorem dX2_init_4 : decode cX2_init 4 = .ok (.aload_n 0, 1) := by decide +kernel
theorem dX2_init_5 : decode cX2_init 5 = .ok (.bipush 12, 2) := by decide +kernel
theorem dX2_init_7 : decode cX2_init 7 = .ok (.newarray .int, 2) := by decide +kernel
theorem dX2_init_9 : decode cX2_init 9 = .ok (.putfield 9, 3) := by decide +kernel
theorem dX2_init_12 : decode cX2_init 12 = .ok (.return_, 1) := by decide +kernel
theorem dX2_copyFrom_0 : decode cX2_copyFrom 0 = .ok (.aload_n 1, 1) := by decide +kernel
theorem dX2_copyFrom_1 : decode cX2_copyFrom 1 = .ok (.getfield 9, 3) := by decide +kernel
theorem dX2_copyFrom_4 : decode cX2_copyFrom 4 = .ok (.iconst 0, 1) := by decide +kernel
theorem dX2_copyFrom_5 : decode cX2_copyFrom 5 = .ok (.aload_n 0, 1) := by decide +kernel
theorem dX2_copyFrom_6 : decode cX2_copyFrom 6 = .ok (.getfield 9, 3) := by decide +kernel
theorem dX2_copyFrom_9 : decode cX2_copyFrom 9 = .ok (.iconst 0, 1) := by decide +kernel
theorem dX2_copyFrom_10 : decode cX2_copyFrom 10 = .ok (.bipush 12, 2) := by decide +kernel
theorem dX2_copyFrom_12 : decode cX2_copyFrom 12 = .ok (.invokestatic 15, 3) := by decide +kernel
theorem dX2_copyFrom_15 : decode cX2_copyFrom 15 = .ok (.aload_n 0, 1) := by decide +kernel
theorem dX2_copyFrom_16 : decode cX2_copyFrom 16 = .ok (.aload_n 1, 1) := by decide +kernel
theorem dX2_copyFrom_17 : decode cX2_copyFrom 17 = .ok (.getfield 21, 3) := by decide +kernel
theorem dX2_copyFrom_20 : decode cX2_copyFrom 20 = .ok (.putfield 21, 3) := by decide +kernel
theorem dX2_copyFrom_23 : decode cX2_copyFrom 23 = .ok (.aload_n 0, 1) := by decide +kernel
theorem dX2_copyFrom_24 : decode cX2_copyFrom 24 = .ok (.aload_n 1, 1) := by decide +kernel
theorem dX2_copyFrom_25 : decode cX2_copyFrom 25 = .ok (.getfield 25, 3) := by decide +kernel
theorem dX2_copyFrom_28 : decode cX2_copyFrom 28 = .ok (.putfield 25, 3) := by decide +kernel
theorem dX2_copyFrom_31 : decode cX2_copyFrom 31 = .ok (.aload_n 0, 1) := by decide +kernel
theorem dX2_copyFrom_32 : decode cX2_copyFrom 32 = .ok (.aload_n 1, 1) := by decide +kernel
theorem dX2_copyFrom_33 : decode cX2_copyFrom 33 = .ok (.getfield 28, 3) := by decide +kernel
theorem dX2_copyFrom_36 : decode cX2_copyFrom 36 = .ok (.putfield 28, 3) := by decide +kernel
theorem dX2_copyFrom_39 : decode cX2_copyFrom 39 = .ok (.aload_n 0, 1) := by decide +kernel
theorem dX2_copyFrom_40 : decode cX2_copyFrom 40 = .ok (.aload_n 1, 1) := by decide +kernel
theorem dX2_copyFrom_41 : decode cX2_copyFrom 41 = .ok (.getfield 31, 3) := by decide +kernel
theorem dX2_copyFrom_44 : decode cX2_copyFrom 44 = .ok (.putfield 31, 3) := by decide +kernel
theorem dX2_copyFrom_47 : decode cX2_copyFrom 47 = .ok (.aload_n 0, 1) := by decide +kernel
theorem dX2_copyFrom_48 : decode cX2_copyFrom 48 = .ok (.aload_n 1, 1) := by decide +kernel
theorem dX2_copyFrom_49 : decode cX2_copyFrom 49 = .ok (.getfield 34, 3) := by decide +kernel
theorem dX2_copyFrom_52 : decode cX2_copyFrom 52 = .ok (.putfield 34, 3) := by decide +kernel
theorem dX2_copyFrom_55 : decode cX2_copyFrom 55 = .ok (.aload_n 0, 1) := by decide +kernel
theorem dX2_copyFrom_56 : decode cX2_copyFrom 56 = .ok (.aload_n 1, 1) := by decide +kernel
theorem dX2_copyFrom_57 : decode cX2_copyFrom 57 = .ok (.getfield 37, 3) := by decide +kernel
theorem dX2_copyFrom_60 : decode cX2_copyFrom 60 = .ok (.putfield 37, 3) := by decide +kernel
theorem dX2_copyFrom_63 : decode cX2_copyFrom 63 = .ok (.aload_n 0, 1) := by decide +kernel
theorem dX2_copyFrom_64 : decode cX2_copyFrom 64 = .ok (.aload_n 1, 1) := by decide +kernel
theorem dX2_copyFrom_65 : decode cX2_copyFrom 65 = .ok (.getfield 41, 3) := by decide +kernel
theorem dX2_copyFrom_68 : decode cX2_copyFrom 68 = .ok (.putfield 41, 3) := by decide +kernel
theorem dX2_copyFrom_71 : decode cX2_copyFrom 71 = .ok (.aload_n 0, 1) := by decide +kernel
theorem dX2_copyFrom_72 : decode cX2_copyFrom 72 = .ok (.aload_n 1, 1) := by decide +kernel
theorem dX2_copyFrom_73 : decode cX2_copyFrom 73 = .ok (.getfield 44, 3) := by decide +kernel
theorem dX2_copyFrom_76 : decode cX2_copyFrom 76 = .ok (.putfield 44, 3) := by decide +kernel
theorem dX2_copyFrom_79 : decode cX2_copyFrom 79 = .ok (.return_, 1) := by decide +kernel
theorem dX2_property_0 : decode cX2_property 0 = .ok (.iload_n 1, 1) := by decide +kernel
theorem dX2_property_1 : decode cX2_property 1 = .ok (.tableswitch 42 0 2 #[27, 32, 37], 27) := by decide +kernel
theorem dX2_property_28 : decode cX2_property 28 = .ok (.aload_n 0, 1) := by decide +kernel
theorem dX2_property_29 : decode cX2_property 29 = .ok (.getfield 25, 3) := by decide +kernel
theorem dX2_property_32 : decode cX2_property 32 = .ok (.ireturn, 1) := by decide +kernel
theorem dX2_property_33 : decode cX2_property 33 = .ok (.aload_n 0, 1) := by decide +kernel
theorem dX2_property_34 : decode cX2_property 34 = .ok (.getfield 28, 3) := by decide +kernel
theorem dX2_property_37 : decode cX2_property 37 = .ok (.ireturn, 1) := by decide +kernel
theorem dX2_property_38 : decode cX2_property 38 = .ok (.aload_n 0, 1) := by decide +kernel
theorem dX2_property_39 : decode cX2_property 39 = .ok (.getfield 31, 3) := by decide +kernel
theorem dX2_property_42 : decode cX2_property 42 = .ok (.ireturn, 1) := by decide +kernel
theorem dX2_property_43 : decode cX2_property 43 = .ok (.aload_n 0, 1) := by decide +kernel
theorem dX2_property_44 : decode cX2_property 44 = .ok (.getfield 34, 3) := by decide +kernel
theorem dX2_property_47 : decode cX2_property 47 = .ok (.ireturn, 1) := by decide +kernel
theorem dX2_setProperty_0 : decode cX2_setProperty 0 = .ok (.iload_n 1, 1) := by decide +kernel
theorem dX2_setProperty_1 : decode cX2_setProperty 1 = .ok (.tableswitch 51 0 2 #[27, 35, 43], 27) := by decide +kernel
theorem dX2_setProperty_28 : decode cX2_setProperty 28 = .ok (.aload_n 0, 1) := by decide +kernel
theorem dX2_setProperty_29 : decode cX2_setProperty 29 = .ok (.iload_n 2, 1) := by decide +kernel
theorem dX2_setProperty_30 : decode cX2_setProperty 30 = .ok (.putfield 25, 3) := by decide +kernel
theorem dX2_setProperty_33 : decode cX2_setProperty 33 = .ok (.goto 24, 3) := by decide +kernel
theorem dX2_setProperty_36 : decode cX2_setProperty 36 = .ok (.aload_n 0, 1) := by decide +kernel
theorem dX2_setProperty_37 : decode cX2_setProperty 37 = .ok (.iload_n 2, 1) := by decide +kernel
theorem dX2_setProperty_38 : decode cX2_setProperty 38 = .ok (.putfield 28, 3) := by decide +kernel
theorem dX2_setProperty_41 : decode cX2_setProperty 41 = .ok (.goto 16, 3) := by decide +kernel
theorem dX2_setProperty_44 : decode cX2_setProperty 44 = .ok (.aload_n 0, 1) := by decide +kernel
theorem dX2_setProperty_45 : decode cX2_setProperty 45 = .ok (.iload_n 2, 1) := by decide +kernel
theorem dX2_setProperty_46 : decode cX2_setProperty 46 = .ok (.putfield 31, 3) := by decide +kernel
theorem dX2_setProperty_49 : decode cX2_setProperty 49 = .ok (.goto 8, 3) := by decide +kernel
theorem dX2_setProperty_52 : decode cX2_setProperty 52 = .ok (.aload_n 0, 1) := by decide +kernel
theorem dX2_setProperty_53 : decode cX2_setProperty 53 = .ok (.iload_n 2, 1) := by decide +kernel
theorem dX2_setProperty_54 : decode cX2_setProperty 54 = .ok (.putfield 34, 3) := by decide +kernel
theorem dX2_setProperty_57 : decode cX2_setProperty 57 = .ok (.return_, 1) := by decide +kernel
theorem dX2_putAt_0 : decode cX2_putAt 0 = .ok (.aload_n 0, 1) := by decide +kernel
theorem dX2_putAt_1 : decode cX2_putAt 1 = .ok (.iconst 1, 1) := by decide +kernel
theorem dX2_putAt_2 : decode cX2_putAt 2 = .ok (.putfield 37, 3) := by decide +kernel
theorem dX2_putAt_5 : decode cX2_putAt 5 = .ok (.aload_n 0, 1) := by decide +kernel
theorem dX2_putAt_6 : decode cX2_putAt 6 = .ok (.iload_n 1, 1) := by decide +kernel
theorem dX2_putAt_7 : decode cX2_putAt 7 = .ok (.putfield 41, 3) := by decide +kernel
theorem dX2_putAt_10 : decode cX2_putAt 10 = .ok (.aload_n 0, 1) := by decide +kernel
theorem dX2_putAt_11 : decode cX2_putAt 11 = .ok (.iload_n 2, 1) := by decide +kernel
theorem dX2_putAt_12 : decode cX2_putAt 12 = .ok (.putfield 44, 3) := by decide +kernel
theorem dX2_putAt_15 : decode cX2_putAt 15 = .ok (.return_, 1) := by decide +kernel
theorem dX2_leavesIn_0 : decode cX2_leavesIn 0 = .ok (.aload_n 0, 1) := by decide +kernel
theorem dX2_leavesIn_1 : decode cX2_leavesIn 1 = .ok (.getfield 25, 3) := by decide +kernel
theorem dX2_leavesIn_4 : decode cX2_leavesIn 4 = .ok (.aload_n 0, 1) := by decide +kernel
theorem dX2_leavesIn_5 : decode cX2_leavesIn 5 = .ok (.getfield 28, 3) := by decide +kernel
theorem dX2_leavesIn_8 : decode cX2_leavesIn 8 = .ok (.iadd, 1) := by decide +kernel
theorem dX2_leavesIn_9 : decode cX2_leavesIn 9 = .ok (.aload_n 0, 1) := by decide +kernel
theorem dX2_leavesIn_10 : decode cX2_leavesIn 10 = .ok (.getfield 31, 3) := by decide +kernel
theorem dX2_leavesIn_13 : decode cX2_leavesIn 13 = .ok (.iadd, 1) := by decide +kernel
theorem dX2_leavesIn_14 : decode cX2_leavesIn 14 = .ok (.ireturn, 1) := by decide +kernel
theorem dX2_stepsIn_0 : decode cX2_stepsIn 0 = .ok (.iload_n 1, 1) := by decide +kernel
theorem dX2_stepsIn_1 : decode cX2_stepsIn 1 = .ok (.iconst 1, 1) := by decide +kernel
theorem dX2_stepsIn_2 : decode cX2_stepsIn 2 = .ok (.iadd, 1) := by decide +kernel
theorem dX2_stepsIn_3 : decode cX2_stepsIn 3 = .ok (.aload_n 0, 1) := by decide +kernel
theorem dX2_stepsIn_4 : decode cX2_stepsIn 4 = .ok (.getfield 25, 3) := by decide +kernel
theorem dX2_stepsIn_7 : decode cX2_stepsIn 7 = .ok (.aload_n 0, 1) := by decide +kernel
theorem dX2_stepsIn_8 : decode cX2_stepsIn 8 = .ok (.getfield 28, 3) := by decide +kernel
theorem dX2_stepsIn_11 : decode cX2_stepsIn 11 = .ok (.iadd, 1) := by decide +kernel
theorem dX2_stepsIn_12 : decode cX2_stepsIn 12 = .ok (.aload_n 0, 1) := by decide +kernel
theorem dX2_stepsIn_13 : decode cX2_stepsIn 13 = .ok (.getfield 31, 3) := by decide +kernel
theorem dX2_stepsIn_16 : decode cX2_stepsIn 16 = .ok (.iadd, 1) := by decide +kernel
theorem dX2_stepsIn_17 : decode cX2_stepsIn 17 = .ok (.isub, 1) := by decide +kernel
theorem dX2_stepsIn_18 : decode cX2_stepsIn 18 = .ok (.ireturn, 1) := by decide +kernel
theorem dX2_keepsLane_0 : decode cX2_keepsLane 0 = .ok (.aload_n 0, 1) := by decide +kernel
theorem dX2_keepsLane_1 : decode cX2_keepsLane 1 = .ok (.getfield 34, 3) := by decide +kernel
theorem dX2_keepsLane_4 : decode cX2_keepsLane 4 = .ok (.iconst 3, 1) := by decide +kernel
theorem dX2_keepsLane_5 : decode cX2_keepsLane 5 = .ok (.if_icmp .eq 15, 3) := by decide +kernel
theorem dX2_keepsLane_8 : decode cX2_keepsLane 8 = .ok (.aload_n 0, 1) := by decide +kernel
theorem dX2_keepsLane_9 : decode cX2_keepsLane 9 = .ok (.getfield 34, 3) := by decide +kernel
theorem dX2_keepsLane_12 : decode cX2_keepsLane 12 = .ok (.iconst 4, 1) := by decide +kernel
theorem dX2_keepsLane_13 : decode cX2_keepsLane 13 = .ok (.if_icmp .eq 7, 3) := by decide +kernel
theorem dX2_keepsLane_16 : decode cX2_keepsLane 16 = .ok (.iconst 1, 1) := by decide +kernel
theorem dX2_keepsLane_17 : decode cX2_keepsLane 17 = .ok (.goto 4, 3) := by decide +kernel
theorem dX2_keepsLane_20 : decode cX2_keepsLane 20 = .ok (.iconst 0, 1) := by decide +kernel
theorem dX2_keepsLane_21 : decode cX2_keepsLane 21 = .ok (.ireturn, 1) := by decide +kernel
theorem dX2_lastColumn_0 : decode cX2_lastColumn 0 = .ok (.bipush 40, 2) := by decide +kernel
theorem dX2_lastColumn_2 : decode cX2_lastColumn 2 = .ok (.aload_n 0, 1) := by decide +kernel
theorem dX2_lastColumn_3 : decode cX2_lastColumn 3 = .ok (.getfield 21, 3) := by decide +kernel
theorem dX2_lastColumn_6 : decode cX2_lastColumn 6 = .ok (.isub, 1) := by decide +kernel
theorem dX2_lastColumn_7 : decode cX2_lastColumn 7 = .ok (.ireturn, 1) := by decide +kernel
theorem dX2_cellsToLeave_0 : decode cX2_cellsToLeave 0 = .ok (.aload_n 0, 1) := by decide +kernel
theorem dX2_cellsToLeave_1 : decode cX2_cellsToLeave 1 = .ok (.getfield 34, 3) := by decide +kernel
theorem dX2_cellsToLeave_4 : decode cX2_cellsToLeave 4 = .ok (.tableswitch 53 1 3 #[28, 38, 46], 28) := by decide +kernel
theorem dX2_cellsToLeave_32 : decode cX2_cellsToLeave 32 = .ok (.aload_n 0, 1) := by decide +kernel
theorem dX2_cellsToLeave_33 : decode cX2_cellsToLeave 33 = .ok (.getfield 44, 3) := by decide +kernel
theorem dX2_cellsToLeave_36 : decode cX2_cellsToLeave 36 = .ok (.aload_n 0, 1) := by decide +kernel
theorem dX2_cellsToLeave_37 : decode cX2_cellsToLeave 37 = .ok (.getfield 21, 3) := by decide +kernel
theorem dX2_cellsToLeave_40 : decode cX2_cellsToLeave 40 = .ok (.iadd, 1) := by decide +kernel
theorem dX2_cellsToLeave_41 : decode cX2_cellsToLeave 41 = .ok (.ireturn, 1) := by decide +kernel
theorem dX2_cellsToLeave_42 : decode cX2_cellsToLeave 42 = .ok (.bipush 40, 2) := by decide +kernel
theorem dX2_cellsToLeave_44 : decode cX2_cellsToLeave 44 = .ok (.aload_n 0, 1) := by decide +kernel
theorem dX2_cellsToLeave_45 : decode cX2_cellsToLeave 45 = .ok (.getfield 44, 3) := by decide +kernel
theorem dX2_cellsToLeave_48 : decode cX2_cellsToLeave 48 = .ok (.isub, 1) := by decide +kernel
theorem dX2_cellsToLeave_49 : decode cX2_cellsToLeave 49 = .ok (.ireturn, 1) := by decide +kernel
theorem dX2_cellsToLeave_50 : decode cX2_cellsToLeave 50 = .ok (.aload_n 0, 1) := by decide +kernel
theorem dX2_cellsToLeave_51 : decode cX2_cellsToLeave 51 = .ok (.getfield 41, 3) := by decide +kernel
theorem dX2_cellsToLeave_54 : decode cX2_cellsToLeave 54 = .ok (.iconst 1, 1) := by decide +kernel
theorem dX2_cellsToLeave_55 : decode cX2_cellsToLeave 55 = .ok (.iadd, 1) := by decide +kernel
theorem dX2_cellsToLeave_56 : decode cX2_cellsToLeave 56 = .ok (.ireturn, 1) := by decide +kernel
theorem dX2_cellsToLeave_57 : decode cX2_cellsToLeave 57 = .ok (.bipush 8, 2) := by decide +kernel
theorem dX2_cellsToLeave_59 : decode cX2_cellsToLeave 59 = .ok (.aload_n 0, 1) := by decide +kernel
theorem dX2_cellsToLeave_60 : decode cX2_cellsToLeave 60 = .ok (.getfield 41, 3) := by decide +kernel
theorem dX2_cellsToLeave_63 : decode cX2_cellsToLeave 63 = .ok (.isub, 1) := by decide +kernel
theorem dX2_cellsToLeave_64 : decode cX2_cellsToLeave 64 = .ok (.ireturn, 1) := by decide +kernel
theorem dX3_init_0 : decode cX3_init 0 = .ok (.aload_n 0, 1) := by decide +kernel
theorem dX3_init_1 : decode cX3_init 1 = .ok (.invokespecial 1, 3) := by decide +kernel
theorem dX3_init_4 : decode cX3_init 4 = .ok (.aload_n 0, 1) := by decide +kernel
theorem dX3_init_5 : decode cX3_init 5 = .ok (.new 7, 3) := by decide +kernel
theorem dX3_init_8 : decode cX3_init 8 = .ok (.dup, 1) := by decide +kernel
theorem dX3_init_9 : decode cX3_init 9 = .ok (.invokespecial 9, 3) := by decide +kernel
theorem dX3_init_12 : decode cX3_init 12 = .ok (.putfield 10, 3) := by decide +kernel
theorem dX3_init_15 : decode cX3_init 15 = .ok (.aload_n 0, 1) := by decide +kernel
theorem dX3_init_16 : decode cX3_init 16 = .ok (.new 7, 3) := by decide +kernel
theorem dX3_init_19 : decode cX3_init 19 = .ok (.dup, 1) := by decide +kernel
theorem dX3_init_20 : decode cX3_init 20 = .ok (.invokespecial 9, 3) := by decide +kernel
theorem dX3_init_23 : decode cX3_init 23 = .ok (.putfield 16, 3) := by decide +kernel
theorem dX3_init_26 : decode cX3_init 26 = .ok (.aload_n 0, 1) := by decide +kernel
theorem dX3_init_27 : decode cX3_init 27 = .ok (.iconst 5, 1) := by decide +kernel
theorem dX3_init_28 : decode cX3_init 28 = .ok (.anewarray 7, 3) := by decide +kernel
theorem dX3_init_31 : decode cX3_init 31 = .ok (.putfield 19, 3) := by decide +kernel
theorem dX3_init_34 : decode cX3_init 34 = .ok (.iconst 0, 1) := by decide +kernel
theorem dX3_init_35 : decode cX3_init 35 = .ok (.istore_n 1, 1) := by decide +kernel
theorem dX3_init_36 : decode cX3_init 36 = .ok (.iload_n 1, 1) := by decide +kernel
theorem dX3_init_37 : decode cX3_init 37 = .ok (.iconst 5, 1) := by decide +kernel
theorem dX3_init_38 : decode cX3_init 38 = .ok (.if_icmp .ge 22, 3) := by decide +kernel
theorem dX3_init_41 : decode cX3_init 41 = .ok (.aload_n 0, 1) := by decide +kernel
theorem dX3_init_42 : decode cX3_init 42 = .ok (.getfield 19, 3) := by decide +kernel
theorem dX3_init_45 : decode cX3_init 45 = .ok (.iload_n 1, 1) := by decide +kernel
theorem dX3_init_46 : decode cX3_init 46 = .ok (.new 7, 3) := by decide +kernel
theorem dX3_init_49 : decode cX3_init 49 = .ok (.dup, 1) := by decide +kernel
theorem dX3_init_50 : decode cX3_init 50 = .ok (.invokespecial 9, 3) := by decide +kernel
theorem dX3_init_53 : decode cX3_init 53 = .ok (.aastore, 1) := by decide +kernel
theorem dX3_init_54 : decode cX3_init 54 = .ok (.iinc 1 1, 3) := by decide +kernel
theorem dX3_init_57 : decode cX3_init 57 = .ok (.goto (-21), 3) := by decide +kernel
theorem dX3_init_60 : decode cX3_init 60 = .ok (.aload_n 0, 1) := by decide +kernel
theorem dX3_init_61 : decode cX3_init 61 = .ok (.iconst 0, 1) := by decide +kernel
theorem dX3_init_62 : decode cX3_init 62 = .ok (.putfield 23, 3) := by decide +kernel
theorem dX3_init_65 : decode cX3_init 65 = .ok (.aload_n 0, 1) := by decide +kernel
theorem dX3_init_66 : decode cX3_init 66 = .ok (.new 27, 3) := by decide +kernel
theorem dX3_init_69 : decode cX3_init 69 = .ok (.dup, 1) := by decide +kernel
theorem dX3_init_70 : decode cX3_init 70 = .ok (.invokespecial 29, 3) := by decide +kernel
theorem dX3_init_73 : decode cX3_init 73 = .ok (.putfield 30, 3) := by decide +kernel
theorem dX3_init_76 : decode cX3_init 76 = .ok (.return_, 1) := by decide +kernel
theorem dX3_addWord_0 : decode cX3_addWord 0 = .ok (.iload_n 1, 1) := by decide +kernel
theorem dX3_addWord_1 : decode cX3_addWord 1 = .ok (.iconst 1, 1) := by decide +kernel
theorem dX3_addWord_2 : decode cX3_addWord 2 = .ok (.bipush 12, 2) := by decide +kernel
theorem dX3_addWord_4 : decode cX3_addWord 4 = .ok (.invokestatic 34, 3) := by decide +kernel
theorem dX3_addWord_7 : decode cX3_addWord 7 = .ok (.ifCond .eq 37, 3) := by decide +kernel
theorem dX3_addWord_10 : decode cX3_addWord 10 = .ok (.iconst 0, 1) := by decide +kernel
theorem dX3_addWord_11 : decode cX3_addWord 11 = .ok (.iload_n 2, 1) := by decide +kernel
theorem dX3_addWord_12 : decode cX3_addWord 12 = .ok (.invokestatic 38, 3) := by decide +kernel
theorem dX3_addWord_15 : decode cX3_addWord 15 = .ok (.ifCond .eq 29, 3) := by decide +kernel
theorem dX3_addWord_18 : decode cX3_addWord 18 = .ok (.iconst 1, 1) := by decide +kernel
theorem dX3_addWord_19 : decode cX3_addWord 19 = .ok (.iload_n 3, 1) := by decide +kernel
theorem dX3_addWord_20 : decode cX3_addWord 20 = .ok (.invokestatic 38, 3) := by decide +kernel
theorem dX3_addWord_23 : decode cX3_addWord 23 = .ok (.ifCond .eq 21, 3) := by decide +kernel
theorem dX3_addWord_26 : decode cX3_addWord 26 = .ok (.iconst 2, 1) := by decide +kernel
theorem dX3_addWord_27 : decode cX3_addWord 27 = .ok (.iload 4, 2) := by decide +kernel
theorem dX3_addWord_29 : decode cX3_addWord 29 = .ok (.invokestatic 38, 3) := by decide +kernel
theorem dX3_addWord_32 : decode cX3_addWord 32 = .ok (.ifCond .eq 12, 3) := by decide +kernel
theorem dX3_addWord_35 : decode cX3_addWord 35 = .ok (.iconst 3, 1) := by decide +kernel
theorem dX3_addWord_36 : decode cX3_addWord 36 = .ok (.iload 5, 2) := by decide +kernel
theorem dX3_addWord_38 : decode cX3_addWord 38 = .ok (.invokestatic 38, 3) := by decide +kernel
theorem dX3_addWord_41 : decode cX3_addWord 41 = .ok (.ifCond .ne 6, 3) := by decide +kernel
theorem dX3_addWord_44 : decode cX3_addWord 44 = .ok (.bipush (-11), 2) := by decide +kernel
theorem dX3_addWord_46 : decode cX3_addWord 46 = .ok (.ireturn, 1) := by decide +kernel
theorem dX3_addWord_47 : decode cX3_addWord 47 = .ok (.aload_n 0, 1) := by decide +kernel
theorem dX3_addWord_48 : decode cX3_addWord 48 = .ok (.getfield 10, 3) := by decide +kernel
theorem dX3_addWord_51 : decode cX3_addWord 51 = .ok (.invokevirtual 42, 3) := by decide +kernel
theorem dX3_addWord_54 : decode cX3_addWord 54 = .ok (.ifCond .ne 6, 3) := by decide +kernel
theorem dX3_addWord_57 : decode cX3_addWord 57 = .ok (.bipush (-13), 2) := by decide +kernel
theorem dX3_addWord_59 : decode cX3_addWord 59 = .ok (.ireturn, 1) := by decide +kernel
theorem dX3_addWord_60 : decode cX3_addWord 60 = .ok (.aload_n 0, 1) := by decide +kernel
theorem dX3_addWord_61 : decode cX3_addWord 61 = .ok (.invokevirtual 46, 3) := by decide +kernel
theorem dX3_addWord_64 : decode cX3_addWord 64 = .ok (.aload_n 0, 1) := by decide +kernel
theorem dX3_addWord_65 : decode cX3_addWord 65 = .ok (.getfield 10, 3) := by decide +kernel
theorem dX3_addWord_68 : decode cX3_addWord 68 = .ok (.iload_n 1, 1) := by decide +kernel
theorem dX3_addWord_69 : decode cX3_addWord 69 = .ok (.iload_n 2, 1) := by decide +kernel
theorem dX3_addWord_70 : decode cX3_addWord 70 = .ok (.iload_n 3, 1) := by decide +kernel
theorem dX3_addWord_71 : decode cX3_addWord 71 = .ok (.iload 4, 2) := by decide +kernel
theorem dX3_addWord_73 : decode cX3_addWord 73 = .ok (.iload 5, 2) := by decide +kernel
theorem dX3_addWord_75 : decode cX3_addWord 75 = .ok (.invokevirtual 49, 3) := by decide +kernel
theorem dX3_addWord_78 : decode cX3_addWord 78 = .ok (.pop, 1) := by decide +kernel
theorem dX3_addWord_79 : decode cX3_addWord 79 = .ok (.aload_n 0, 1) := by decide +kernel
theorem dX3_addWord_80 : decode cX3_addWord 80 = .ok (.getfield 10, 3) := by decide +kernel
theorem dX3_addWord_83 : decode cX3_addWord 83 = .ok (.getfield 53, 3) := by decide +kernel
theorem dX3_addWord_86 : decode cX3_addWord 86 = .ok (.iconst 1, 1) := by decide +kernel
theorem dX3_addWord_87 : decode cX3_addWord 87 = .ok (.isub, 1) := by decide +kernel
theorem dX3_addWord_88 : decode cX3_addWord 88 = .ok (.ireturn, 1) := by decide +kernel
theorem dX3_removeWord_0 : decode cX3_removeWord 0 = .ok (.aload_n 0, 1) := by decide +kernel
theorem dX3_removeWord_1 : decode cX3_removeWord 1 = .ok (.getfield 10, 3) := by decide +kernel
theorem dX3_removeWord_4 : decode cX3_removeWord 4 = .ok (.iload_n 1, 1) := by decide +kernel
theorem dX3_removeWord_5 : decode cX3_removeWord 5 = .ok (.invokevirtual 56, 3) := by decide +kernel
theorem dX3_removeWord_8 : decode cX3_removeWord 8 = .ok (.ifCond .ne 6, 3) := by decide +kernel
theorem dX3_removeWord_11 : decode cX3_removeWord 11 = .ok (.bipush (-11), 2) := by decide +kernel
theorem dX3_removeWord_13 : decode cX3_removeWord 13 = .ok (.ireturn, 1) := by decide +kernel
theorem dX3_removeWord_14 : decode cX3_removeWord 14 = .ok (.aload_n 0, 1) := by decide +kernel
theorem dX3_removeWord_15 : decode cX3_removeWord 15 = .ok (.invokevirtual 46, 3) := by decide +kernel
theorem dX3_removeWord_18 : decode cX3_removeWord 18 = .ok (.aload_n 0, 1) := by decide +kernel
theorem dX3_removeWord_19 : decode cX3_removeWord 19 = .ok (.getfield 10, 3) := by decide +kernel
theorem dX3_removeWord_22 : decode cX3_removeWord 22 = .ok (.iload_n 1, 1) := by decide +kernel
theorem dX3_removeWord_23 : decode cX3_removeWord 23 = .ok (.invokevirtual 60, 3) := by decide +kernel
theorem dX3_removeWord_26 : decode cX3_removeWord 26 = .ok (.aload_n 0, 1) := by decide +kernel
theorem dX3_removeWord_27 : decode cX3_removeWord 27 = .ok (.getfield 10, 3) := by decide +kernel
theorem dX3_removeWord_30 : decode cX3_removeWord 30 = .ok (.getfield 53, 3) := by decide +kernel
theorem dX3_removeWord_33 : decode cX3_removeWord 33 = .ok (.ireturn, 1) := by decide +kernel
theorem dX3_setWord_0 : decode cX3_setWord 0 = .ok (.aload_n 0, 1) := by decide +kernel
theorem dX3_setWord_1 : decode cX3_setWord 1 = .ok (.getfield 10, 3) := by decide +kernel
theorem dX3_setWord_4 : decode cX3_setWord 4 = .ok (.iload_n 1, 1) := by decide +kernel
theorem dX3_setWord_5 : decode cX3_setWord 5 = .ok (.invokevirtual 56, 3) := by decide +kernel
theorem dX3_setWord_8 : decode cX3_setWord 8 = .ok (.ifCond .eq 11, 3) := by decide +kernel
theorem dX3_setWord_11 : decode cX3_setWord 11 = .ok (.iload_n 2, 1) := by decide +kernel
theorem dX3_setWord_12 : decode cX3_setWord 12 = .ok (.iload_n 3, 1) := by decide +kernel
theorem dX3_setWord_13 : decode cX3_setWord 13 = .ok (.invokestatic 38, 3) := by decide +kernel
theorem dX3_setWord_16 : decode cX3_setWord 16 = .ok (.ifCond .ne 6, 3) := by decide +kernel
theorem dX3_setWord_19 : decode cX3_setWord 19 = .ok (.bipush (-11), 2) := by decide +kernel
theorem dX3_setWord_21 : decode cX3_setWord 21 = .ok (.ireturn, 1) := by decide +kernel
theorem dX3_setWord_22 : decode cX3_setWord 22 = .ok (.aload_n 0, 1) := by decide +kernel
theorem dX3_setWord_23 : decode cX3_setWord 23 = .ok (.invokevirtual 46, 3) := by decide +kernel
theorem dX3_setWord_26 : decode cX3_setWord 26 = .ok (.aload_n 0, 1) := by decide +kernel
theorem dX3_setWord_27 : decode cX3_setWord 27 = .ok (.getfield 10, 3) := by decide +kernel
theorem dX3_setWord_30 : decode cX3_setWord 30 = .ok (.getfield 64, 3) := by decide +kernel
theorem dX3_setWord_33 : decode cX3_setWord 33 = .ok (.iload_n 1, 1) := by decide +kernel
theorem dX3_setWord_34 : decode cX3_setWord 34 = .ok (.aaload, 1) := by decide +kernel
theorem dX3_setWord_35 : decode cX3_setWord 35 = .ok (.astore 4, 2) := by decide +kernel
theorem dX3_setWord_37 : decode cX3_setWord 37 = .ok (.aload 4, 2) := by decide +kernel
theorem dX3_setWord_39 : decode cX3_setWord 39 = .ok (.iload_n 2, 1) := by decide +kernel
theorem dX3_setWord_40 : decode cX3_setWord 40 = .ok (.invokevirtual 68, 3) := by decide +kernel
theorem dX3_setWord_43 : decode cX3_setWord 43 = .ok (.istore 5, 2) := by decide +kernel
theorem dX3_setWord_45 : decode cX3_setWord 45 = .ok (.aload 4, 2) := by decide +kernel
theorem dX3_setWord_47 : decode cX3_setWord 47 = .ok (.iload_n 2, 1) := by decide +kernel
theorem dX3_setWord_48 : decode cX3_setWord 48 = .ok (.iload_n 3, 1) := by decide +kernel
theorem dX3_setWord_49 : decode cX3_setWord 49 = .ok (.invokevirtual 74, 3) := by decide +kernel
theorem dX3_setWord_52 : decode cX3_setWord 52 = .ok (.aload 4, 2) := by decide +kernel
theorem dX3_setWord_54 : decode cX3_setWord 54 = .ok (.iconst 0, 1) := by decide +kernel
theorem dX3_setWord_55 : decode cX3_setWord 55 = .ok (.putfield 78, 3) := by decide +kernel
theorem dX3_setWord_58 : decode cX3_setWord 58 = .ok (.iload 5, 2) := by decide +kernel
theorem dX3_setWord_60 : decode cX3_setWord 60 = .ok (.ireturn, 1) := by decide +kernel
theorem dX3_addShot_0 : decode cX3_addShot 0 = .ok (.iload_n 1, 1) := by decide +kernel
theorem dX3_addShot_1 : decode cX3_addShot 1 = .ok (.iconst 1, 1) := by decide +kernel
theorem dX3_addShot_2 : decode cX3_addShot 2 = .ok (.sipush 3000, 3) := by decide +kernel
theorem dX3_addShot_5 : decode cX3_addShot 5 = .ok (.invokestatic 34, 3) := by decide +kernel
theorem dX3_addShot_8 : decode cX3_addShot 8 = .ok (.ifCond .ne 6, 3) := by decide +kernel
theorem dX3_addShot_11 : decode cX3_addShot 11 = .ok (.bipush (-11), 2) := by decide +kernel
theorem dX3_addShot_13 : decode cX3_addShot 13 = .ok (.ireturn, 1) := by decide +kernel
theorem dX3_addShot_14 : decode cX3_addShot 14 = .ok (.aload_n 0, 1) := by decide +kernel
theorem dX3_addShot_15 : decode cX3_addShot 15 = .ok (.getfield 10, 3) := by decide +kernel
theorem dX3_addShot_18 : decode cX3_addShot 18 = .ok (.iload_n 1, 1) := by decide +kernel
theorem dX3_addShot_19 : decode cX3_addShot 19 = .ok (.invokevirtual 82, 3) := by decide +kernel
theorem dX3_addShot_22 : decode cX3_addShot 22 = .ok (.ifCond .eq 6, 3) := by decide +kernel
theorem dX3_addShot_25 : decode cX3_addShot 25 = .ok (.bipush (-12), 2) := by decide +kernel
theorem dX3_addShot_27 : decode cX3_addShot 27 = .ok (.ireturn, 1) := by decide +kernel
theorem dX3_addShot_28 : decode cX3_addShot 28 = .ok (.aload_n 0, 1) := by decide +kernel
theorem dX3_addShot_29 : decode cX3_addShot 29 = .ok (.getfield 10, 3) := by decide +kernel
theorem dX3_addShot_32 : decode cX3_addShot 32 = .ok (.invokevirtual 85, 3) := by decide +kernel
theorem dX3_addShot_35 : decode cX3_addShot 35 = .ok (.ifCond .ne 6, 3) := by decide +kernel
theorem dX3_addShot_38 : decode cX3_addShot 38 = .ok (.bipush (-13), 2) := by decide +kernel
theorem dX3_addShot_40 : decode cX3_addShot 40 = .ok (.ireturn, 1) := by decide +kernel
theorem dX3_addShot_41 : decode cX3_addShot 41 = .ok (.aload_n 0, 1) := by decide +kernel
theorem dX3_addShot_42 : decode cX3_addShot 42 = .ok (.invokevirtual 46, 3) := by decide +kernel
theorem dX3_addShot_45 : decode cX3_addShot 45 = .ok (.aload_n 0, 1) := by decide +kernel
theorem dX3_addShot_46 : decode cX3_addShot 46 = .ok (.getfield 10, 3) := by decide +kernel
theorem dX3_addShot_49 : decode cX3_addShot 49 = .ok (.iload_n 1, 1) := by decide +kernel
theorem dX3_addShot_50 : decode cX3_addShot 50 = .ok (.invokevirtual 88, 3) := by decide +kernel
theorem dX3_addShot_53 : decode cX3_addShot 53 = .ok (.aload_n 0, 1) := by decide +kernel
theorem dX3_addShot_54 : decode cX3_addShot 54 = .ok (.getfield 10, 3) := by decide +kernel
theorem dX3_addShot_57 : decode cX3_addShot 57 = .ok (.getfield 91, 3) := by decide +kernel
theorem dX3_addShot_60 : decode cX3_addShot 60 = .ok (.ireturn, 1) := by decide +kernel
theorem dX3_removeShot_0 : decode cX3_removeShot 0 = .ok (.iload_n 1, 1) := by decide +kernel
theorem dX3_removeShot_1 : decode cX3_removeShot 1 = .ok (.iconst 1, 1) := by decide +kernel
theorem dX3_removeShot_2 : decode cX3_removeShot 2 = .ok (.sipush 3000, 3) := by decide +kernel
theorem dX3_removeShot_5 : decode cX3_removeShot 5 = .ok (.invokestatic 34, 3) := by decide +kernel
theorem dX3_removeShot_8 : decode cX3_removeShot 8 = .ok (.ifCond .ne 6, 3) := by decide +kernel
theorem dX3_removeShot_11 : decode cX3_removeShot 11 = .ok (.bipush (-11), 2) := by decide +kernel
theorem dX3_removeShot_13 : decode cX3_removeShot 13 = .ok (.ireturn, 1) := by decide +kernel
theorem dX3_removeShot_14 : decode cX3_removeShot 14 = .ok (.aload_n 0, 1) := by decide +kernel
theorem dX3_removeShot_15 : decode cX3_removeShot 15 = .ok (.getfield 10, 3) := by decide +kernel
theorem dX3_removeShot_18 : decode cX3_removeShot 18 = .ok (.iload_n 1, 1) := by decide +kernel
theorem dX3_removeShot_19 : decode cX3_removeShot 19 = .ok (.invokevirtual 82, 3) := by decide +kernel
theorem dX3_removeShot_22 : decode cX3_removeShot 22 = .ok (.ifCond .ne 6, 3) := by decide +kernel
theorem dX3_removeShot_25 : decode cX3_removeShot 25 = .ok (.bipush (-12), 2) := by decide +kernel
theorem dX3_removeShot_27 : decode cX3_removeShot 27 = .ok (.ireturn, 1) := by decide +kernel
theorem dX3_removeShot_28 : decode cX3_removeShot 28 = .ok (.aload_n 0, 1) := by decide +kernel
theorem dX3_removeShot_29 : decode cX3_removeShot 29 = .ok (.invokevirtual 46, 3) := by decide +kernel
theorem dX3_removeShot_32 : decode cX3_removeShot 32 = .ok (.aload_n 0, 1) := by decide +kernel
theorem dX3_removeShot_33 : decode cX3_removeShot 33 = .ok (.getfield 10, 3) := by decide +kernel
theorem dX3_removeShot_36 : decode cX3_removeShot 36 = .ok (.iload_n 1, 1) := by decide +kernel
theorem dX3_removeShot_37 : decode cX3_removeShot 37 = .ok (.invokevirtual 94, 3) := by decide +kernel
theorem dX3_removeShot_40 : decode cX3_removeShot 40 = .ok (.aload_n 0, 1) := by decide +kernel
theorem dX3_removeShot_41 : decode cX3_removeShot 41 = .ok (.getfield 10, 3) := by decide +kernel
theorem dX3_removeShot_44 : decode cX3_removeShot 44 = .ok (.getfield 91, 3) := by decide +kernel
theorem dX3_removeShot_47 : decode cX3_removeShot 47 = .ok (.ireturn, 1) := by decide +kernel
theorem dX3_setSpeed_0 : decode cX3_setSpeed 0 = .ok (.iload_n 1, 1) := by decide +kernel
theorem dX3_setSpeed_1 : decode cX3_setSpeed 1 = .ok (.bipush 50, 2) := by decide +kernel
theorem dX3_setSpeed_3 : decode cX3_setSpeed 3 = .ok (.sipush 400, 3) := by decide +kernel
theorem dX3_setSpeed_6 : decode cX3_setSpeed 6 = .ok (.invokestatic 34, 3) := by decide +kernel
theorem dX3_setSpeed_9 : decode cX3_setSpeed 9 = .ok (.ifCond .ne 6, 3) := by decide +kernel
theorem dX3_setSpeed_12 : decode cX3_setSpeed 12 = .ok (.bipush (-11), 2) := by decide +kernel
theorem dX3_setSpeed_14 : decode cX3_setSpeed 14 = .ok (.ireturn, 1) := by decide +kernel
theorem dX3_setSpeed_15 : decode cX3_setSpeed 15 = .ok (.aload_n 0, 1) := by decide +kernel
theorem dX3_setSpeed_16 : decode cX3_setSpeed 16 = .ok (.invokevirtual 46, 3) := by decide +kernel
theorem dX3_setSpeed_19 : decode cX3_setSpeed 19 = .ok (.aload_n 0, 1) := by decide +kernel
theorem dX3_setSpeed_20 : decode cX3_setSpeed 20 = .ok (.getfield 10, 3) := by decide +kernel
theorem dX3_setSpeed_23 : decode cX3_setSpeed 23 = .ok (.getfield 97, 3) := by decide +kernel
theorem dX3_setSpeed_26 : decode cX3_setSpeed 26 = .ok (.istore_n 2, 1) := by decide +kernel
theorem dX3_setSpeed_27 : decode cX3_setSpeed 27 = .ok (.aload_n 0, 1) := by decide +kernel
theorem dX3_setSpeed_28 : decode cX3_setSpeed 28 = .ok (.getfield 10, 3) := by decide +kernel
theorem dX3_setSpeed_31 : decode cX3_setSpeed 31 = .ok (.iload_n 1, 1) := by decide +kernel
theorem dX3_setSpeed_32 : decode cX3_setSpeed 32 = .ok (.putfield 97, 3) := by decide +kernel
theorem dX3_setSpeed_35 : decode cX3_setSpeed 35 = .ok (.iload_n 2, 1) := by decide +kernel
theorem dX3_setSpeed_36 : decode cX3_setSpeed 36 = .ok (.ireturn, 1) := by decide +kernel
theorem dX3_append_0 : decode cX3_append 0 = .ok (.iload_n 1, 1) := by decide +kernel
theorem dX3_append_1 : decode cX3_append 1 = .ok (.iconst 1, 1) := by decide +kernel
theorem dX3_append_2 : decode cX3_append 2 = .ok (.sipush 255, 3) := by decide +kernel
theorem dX3_append_5 : decode cX3_append 5 = .ok (.invokestatic 34, 3) := by decide +kernel
theorem dX3_append_8 : decode cX3_append 8 = .ok (.ifCond .ne 6, 3) := by decide +kernel
theorem dX3_append_11 : decode cX3_append 11 = .ok (.bipush (-11), 2) := by decide +kernel
theorem dX3_append_13 : decode cX3_append 13 = .ok (.ireturn, 1) := by decide +kernel
theorem dX3_append_14 : decode cX3_append 14 = .ok (.aload_n 0, 1) := by decide +kernel
theorem dX3_append_15 : decode cX3_append 15 = .ok (.getfield 30, 3) := by decide +kernel
theorem dX3_append_18 : decode cX3_append 18 = .ok (.getfield 100, 3) := by decide +kernel
theorem dX3_append_21 : decode cX3_append 21 = .ok (.sipush 160, 3) := by decide +kernel
theorem dX3_append_24 : decode cX3_append 24 = .ok (.if_icmp .lt 6, 3) := by decide +kernel
theorem dX3_append_27 : decode cX3_append 27 = .ok (.bipush (-13), 2) := by decide +kernel
theorem dX3_append_29 : decode cX3_append 29 = .ok (.ireturn, 1) := by decide +kernel
theorem dX3_append_30 : decode cX3_append 30 = .ok (.aload_n 0, 1) := by decide +kernel
theorem dX3_append_31 : decode cX3_append 31 = .ok (.getfield 30, 3) := by decide +kernel
theorem dX3_append_34 : decode cX3_append 34 = .ok (.getfield 103, 3) := by decide +kernel
theorem dX3_append_37 : decode cX3_append 37 = .ok (.aload_n 0, 1) := by decide +kernel
theorem dX3_append_38 : decode cX3_append 38 = .ok (.getfield 30, 3) := by decide +kernel
theorem dX3_append_41 : decode cX3_append 41 = .ok (.getfield 100, 3) := by decide +kernel
theorem dX3_append_44 : decode cX3_append 44 = .ok (.iload_n 1, 1) := by decide +kernel
theorem dX3_append_45 : decode cX3_append 45 = .ok (.iastore, 1) := by decide +kernel
theorem dX3_append_46 : decode cX3_append 46 = .ok (.aload_n 0, 1) := by decide +kernel
theorem dX3_append_47 : decode cX3_append 47 = .ok (.getfield 30, 3) := by decide +kernel
theorem dX3_append_50 : decode cX3_append 50 = .ok (.dup, 1) := by decide +kernel
theorem dX3_append_51 : decode cX3_append 51 = .ok (.getfield 100, 3) := by decide +kernel
theorem dX3_append_54 : decode cX3_append 54 = .ok (.iconst 1, 1) := by decide +kernel
theorem dX3_append_55 : decode cX3_append 55 = .ok (.iadd, 1) := by decide +kernel
theorem dX3_append_56 : decode cX3_append 56 = .ok (.putfield 100, 3) := by decide +kernel
theorem dX3_append_59 : decode cX3_append 59 = .ok (.aload_n 0, 1) := by decide +kernel
theorem dX3_append_60 : decode cX3_append 60 = .ok (.getfield 30, 3) := by decide +kernel
theorem dX3_append_63 : decode cX3_append 63 = .ok (.getfield 100, 3) := by decide +kernel
theorem dX3_append_66 : decode cX3_append 66 = .ok (.ireturn, 1) := by decide +kernel
theorem dX3_clearText_0 : decode cX3_clearText 0 = .ok (.aload_n 0, 1) := by decide +kernel
theorem dX3_clearText_1 : decode cX3_clearText 1 = .ok (.getfield 30, 3) := by decide +kernel
theorem dX3_clearText_4 : decode cX3_clearText 4 = .ok (.getfield 100, 3) := by decide +kernel
theorem dX3_clearText_7 : decode cX3_clearText 7 = .ok (.istore_n 1, 1) := by decide +kernel
theorem dX3_clearText_8 : decode cX3_clearText 8 = .ok (.aload_n 0, 1) := by decide +kernel
theorem dX3_clearText_9 : decode cX3_clearText 9 = .ok (.getfield 30, 3) := by decide +kernel
theorem dX3_clearText_12 : decode cX3_clearText 12 = .ok (.iconst 0, 1) := by decide +kernel
theorem dX3_clearText_13 : decode cX3_clearText 13 = .ok (.putfield 100, 3) := by decide +kernel
theorem dX3_clearText_16 : decode cX3_clearText 16 = .ok (.iload_n 1, 1) := by decide +kernel
theorem dX3_clearText_17 : decode cX3_clearText 17 = .ok (.ireturn, 1) := by decide +kernel
theorem dX3_load_0 : decode cX3_load 0 = .ok (.aload_n 0, 1) := by decide +kernel
theorem dX3_load_1 : decode cX3_load 1 = .ok (.getfield 16, 3) := by decide +kernel
theorem dX3_load_4 : decode cX3_load 4 = .ok (.aload_n 0, 1) := by decide +kernel
theorem dX3_load_5 : decode cX3_load 5 = .ok (.getfield 10, 3) := by decide +kernel
theorem dX3_load_8 : decode cX3_load 8 = .ok (.invokevirtual 107, 3) := by decide +kernel
theorem dX3_load_11 : decode cX3_load 11 = .ok (.aload_n 0, 1) := by decide +kernel
theorem dX3_load_12 : decode cX3_load 12 = .ok (.getfield 30, 3) := by decide +kernel
theorem dX3_load_15 : decode cX3_load 15 = .ok (.aload_n 0, 1) := by decide +kernel
theorem dX3_load_16 : decode cX3_load 16 = .ok (.getfield 16, 3) := by decide +kernel
theorem dX3_load_19 : decode cX3_load 19 = .ok (.invokevirtual 111, 3) := by decide +kernel
theorem dX3_load_22 : decode cX3_load 22 = .ok (.istore_n 1, 1) := by decide +kernel
theorem dX3_load_23 : decode cX3_load 23 = .ok (.iload_n 1, 1) := by decide +kernel
theorem dX3_load_24 : decode cX3_load 24 = .ok (.ifCond .ge 5, 3) := by decide +kernel
theorem dX3_load_27 : decode cX3_load 27 = .ok (.iload_n 1, 1) := by decide +kernel
theorem dX3_load_28 : decode cX3_load 28 = .ok (.ireturn, 1) := by decide +kernel
theorem dX3_load_29 : decode cX3_load 29 = .ok (.aload_n 0, 1) := by decide +kernel
theorem dX3_load_30 : decode cX3_load 30 = .ok (.invokevirtual 46, 3) := by decide +kernel
theorem dX3_load_33 : decode cX3_load 33 = .ok (.aload_n 0, 1) := by decide +kernel
theorem dX3_load_34 : decode cX3_load 34 = .ok (.getfield 10, 3) := by decide +kernel
theorem dX3_load_37 : decode cX3_load 37 = .ok (.aload_n 0, 1) := by decide +kernel
theorem dX3_load_38 : decode cX3_load 38 = .ok (.getfield 16, 3) := by decide +kernel
theorem dX3_load_41 : decode cX3_load 41 = .ok (.invokevirtual 107, 3) := by decide +kernel
theorem dX3_load_44 : decode cX3_load 44 = .ok (.aload_n 0, 1) := by decide +kernel
theorem dX3_load_45 : decode cX3_load 45 = .ok (.getfield 30, 3) := by decide +kernel
theorem dX3_load_48 : decode cX3_load 48 = .ok (.iconst 0, 1) := by decide +kernel
theorem dX3_load_49 : decode cX3_load 49 = .ok (.putfield 100, 3) := by decide +kernel
theorem dX3_load_52 : decode cX3_load 52 = .ok (.iload_n 1, 1) := by decide +kernel
theorem dX3_load_53 : decode cX3_load 53 = .ok (.ireturn, 1) := by decide +kernel
theorem dX3_put_0 : decode cX3_put 0 = .ok (.aload_n 0, 1) := by decide +kernel
theorem dX3_put_1 : decode cX3_put 1 = .ok (.iload_n 1, 1) := by decide +kernel
theorem dX3_put_2 : decode cX3_put 2 = .ok (.iload_n 2, 1) := by decide +kernel
theorem dX3_put_3 : decode cX3_put 3 = .ok (.iload_n 3, 1) := by decide +kernel
theorem dX3_put_4 : decode cX3_put 4 = .ok (.invokevirtual 115, 3) := by decide +kernel
theorem dX3_put_7 : decode cX3_put 7 = .ok (.ifCond .ne 6, 3) := by decide +kernel
theorem dX3_put_10 : decode cX3_put 10 = .ok (.bipush (-11), 2) := by decide +kernel
theorem dX3_put_12 : decode cX3_put 12 = .ok (.ireturn, 1) := by decide +kernel
theorem dX3_put_13 : decode cX3_put 13 = .ok (.aload_n 0, 1) := by decide +kernel
theorem dX3_put_14 : decode cX3_put 14 = .ok (.getfield 10, 3) := by decide +kernel
theorem dX3_put_17 : decode cX3_put 17 = .ok (.getfield 64, 3) := by decide +kernel
theorem dX3_put_20 : decode cX3_put 20 = .ok (.iload_n 1, 1) := by decide +kernel
theorem dX3_put_21 : decode cX3_put 21 = .ok (.aaload, 1) := by decide +kernel
theorem dX3_put_22 : decode cX3_put 22 = .ok (.astore 4, 2) := by decide +kernel
theorem dX3_put_24 : decode cX3_put 24 = .ok (.aload_n 0, 1) := by decide +kernel
theorem dX3_put_25 : decode cX3_put 25 = .ok (.getfield 10, 3) := by decide +kernel
theorem dX3_put_28 : decode cX3_put 28 = .ok (.iload_n 1, 1) := by decide +kernel
theorem dX3_put_29 : decode cX3_put 29 = .ok (.aload 4, 2) := by decide +kernel
theorem dX3_put_31 : decode cX3_put 31 = .ok (.getfield 118, 3) := by decide +kernel
theorem dX3_put_34 : decode cX3_put 34 = .ok (.iload_n 2, 1) := by decide +kernel
theorem dX3_put_35 : decode cX3_put 35 = .ok (.iload_n 3, 1) := by decide +kernel
theorem dX3_put_36 : decode cX3_put 36 = .ok (.invokevirtual 121, 3) := by decide +kernel
theorem dX3_put_39 : decode cX3_put 39 = .ok (.ifCond .ne 6, 3) := by decide +kernel
theorem dX3_put_42 : decode cX3_put 42 = .ok (.bipush (-12), 2) := by decide +kernel
theorem dX3_put_44 : decode cX3_put 44 = .ok (.ireturn, 1) := by decide +kernel
theorem dX3_put_45 : decode cX3_put 45 = .ok (.aload_n 0, 1) := by decide +kernel
theorem dX3_put_46 : decode cX3_put 46 = .ok (.invokevirtual 46, 3) := by decide +kernel
theorem dX3_put_49 : decode cX3_put 49 = .ok (.aload 4, 2) := by decide +kernel
theorem dX3_put_51 : decode cX3_put 51 = .ok (.iload_n 2, 1) := by decide +kernel
theorem dX3_put_52 : decode cX3_put 52 = .ok (.iload_n 3, 1) := by decide +kernel
theorem dX3_put_53 : decode cX3_put 53 = .ok (.invokevirtual 125, 3) := by decide +kernel
theorem dX3_put_56 : decode cX3_put 56 = .ok (.aload_n 0, 1) := by decide +kernel
theorem dX3_put_57 : decode cX3_put 57 = .ok (.getfield 10, 3) := by decide +kernel
theorem dX3_put_60 : decode cX3_put 60 = .ok (.invokevirtual 128, 3) := by decide +kernel
theorem dX3_put_63 : decode cX3_put 63 = .ok (.ireturn, 1) := by decide +kernel
theorem dX3_take_0 : decode cX3_take 0 = .ok (.aload_n 0, 1) := by decide +kernel
theorem dX3_take_1 : decode cX3_take 1 = .ok (.getfield 10, 3) := by decide +kernel
theorem dX3_take_4 : decode cX3_take 4 = .ok (.iload_n 1, 1) := by decide +kernel
theorem dX3_take_5 : decode cX3_take 5 = .ok (.invokevirtual 56, 3) := by decide +kernel
theorem dX3_take_8 : decode cX3_take 8 = .ok (.ifCond .ne 6, 3) := by decide +kernel
theorem dX3_take_11 : decode cX3_take 11 = .ok (.bipush (-11), 2) := by decide +kernel
theorem dX3_take_13 : decode cX3_take 13 = .ok (.ireturn, 1) := by decide +kernel
theorem dX3_take_14 : decode cX3_take 14 = .ok (.aload_n 0, 1) := by decide +kernel
theorem dX3_take_15 : decode cX3_take 15 = .ok (.getfield 10, 3) := by decide +kernel
theorem dX3_take_18 : decode cX3_take 18 = .ok (.getfield 64, 3) := by decide +kernel
theorem dX3_take_21 : decode cX3_take 21 = .ok (.iload_n 1, 1) := by decide +kernel
theorem dX3_take_22 : decode cX3_take 22 = .ok (.aaload, 1) := by decide +kernel
theorem dX3_take_23 : decode cX3_take 23 = .ok (.getfield 78, 3) := by decide +kernel
theorem dX3_take_26 : decode cX3_take 26 = .ok (.ifCond .ne 6, 3) := by decide +kernel
theorem dX3_take_29 : decode cX3_take 29 = .ok (.bipush (-12), 2) := by decide +kernel
theorem dX3_take_31 : decode cX3_take 31 = .ok (.ireturn, 1) := by decide +kernel
theorem dX3_take_32 : decode cX3_take 32 = .ok (.aload_n 0, 1) := by decide +kernel
theorem dX3_take_33 : decode cX3_take 33 = .ok (.invokevirtual 46, 3) := by decide +kernel
theorem dX3_take_36 : decode cX3_take 36 = .ok (.aload_n 0, 1) := by decide +kernel
theorem dX3_take_37 : decode cX3_take 37 = .ok (.getfield 10, 3) := by decide +kernel
theorem dX3_take_40 : decode cX3_take 40 = .ok (.getfield 64, 3) := by decide +kernel
theorem dX3_take_43 : decode cX3_take 43 = .ok (.iload_n 1, 1) := by decide +kernel
theorem dX3_take_44 : decode cX3_take 44 = .ok (.aaload, 1) := by decide +kernel
theorem dX3_take_45 : decode cX3_take 45 = .ok (.iconst 0, 1) := by decide +kernel
theorem dX3_take_46 : decode cX3_take 46 = .ok (.putfield 78, 3) := by decide +kernel
theorem dX3_take_49 : decode cX3_take 49 = .ok (.aload_n 0, 1) := by decide +kernel
theorem dX3_take_50 : decode cX3_take 50 = .ok (.getfield 10, 3) := by decide +kernel
theorem dX3_take_53 : decode cX3_take 53 = .ok (.invokevirtual 128, 3) := by decide +kernel
theorem dX3_take_56 : decode cX3_take 56 = .ok (.ireturn, 1) := by decide +kernel
theorem dX3_putAll_0 : decode cX3_putAll 0 = .ok (.aload_n 0, 1) := by decide +kernel
theorem dX3_putAll_1 : decode cX3_putAll 1 = .ok (.invokevirtual 46, 3) := by decide +kernel
theorem dX3_putAll_4 : decode cX3_putAll 4 = .ok (.aload_n 0, 1) := by decide +kernel
theorem dX3_putAll_5 : decode cX3_putAll 5 = .ok (.getfield 10, 3) := by decide +kernel
theorem dX3_putAll_8 : decode cX3_putAll 8 = .ok (.invokevirtual 132, 3) := by decide +kernel
theorem dX3_putAll_11 : decode cX3_putAll 11 = .ok (.aload_n 0, 1) := by decide +kernel
theorem dX3_putAll_12 : decode cX3_putAll 12 = .ok (.getfield 10, 3) := by decide +kernel
theorem dX3_putAll_15 : decode cX3_putAll 15 = .ok (.invokevirtual 135, 3) := by decide +kernel
theorem dX3_putAll_18 : decode cX3_putAll 18 = .ok (.iconst 0, 1) := by decide +kernel
theorem dX3_putAll_19 : decode cX3_putAll 19 = .ok (.istore_n 1, 1) := by decide +kernel
theorem dX3_putAll_20 : decode cX3_putAll 20 = .ok (.iload_n 1, 1) := by decide +kernel
theorem dX3_putAll_21 : decode cX3_putAll 21 = .ok (.aload_n 0, 1) := by decide +kernel
theorem dX3_putAll_22 : decode cX3_putAll 22 = .ok (.getfield 10, 3) := by decide +kernel
theorem dX3_putAll_25 : decode cX3_putAll 25 = .ok (.getfield 53, 3) := by decide +kernel
theorem dX3_putAll_28 : decode cX3_putAll 28 = .ok (.if_icmp .ge 25, 3) := by decide +kernel
theorem dX3_putAll_31 : decode cX3_putAll 31 = .ok (.aload_n 0, 1) := by decide +kernel
theorem dX3_putAll_32 : decode cX3_putAll 32 = .ok (.getfield 10, 3) := by decide +kernel
theorem dX3_putAll_35 : decode cX3_putAll 35 = .ok (.aload_n 0, 1) := by decide +kernel
theorem dX3_putAll_36 : decode cX3_putAll 36 = .ok (.getfield 10, 3) := by decide +kernel
theorem dX3_putAll_39 : decode cX3_putAll 39 = .ok (.getfield 138, 3) := by decide +kernel
theorem dX3_putAll_42 : decode cX3_putAll 42 = .ok (.iload_n 1, 1) := by decide +kernel
theorem dX3_putAll_43 : decode cX3_putAll 43 = .ok (.iaload, 1) := by decide +kernel
theorem dX3_putAll_44 : decode cX3_putAll 44 = .ok (.invokevirtual 141, 3) := by decide +kernel
theorem dX3_putAll_47 : decode cX3_putAll 47 = .ok (.iinc 1 1, 3) := by decide +kernel
theorem dX3_putAll_50 : decode cX3_putAll 50 = .ok (.goto (-30), 3) := by decide +kernel
theorem dX3_putAll_53 : decode cX3_putAll 53 = .ok (.aload_n 0, 1) := by decide +kernel
theorem dX3_putAll_54 : decode cX3_putAll 54 = .ok (.getfield 10, 3) := by decide +kernel
theorem dX3_putAll_57 : decode cX3_putAll 57 = .ok (.invokevirtual 128, 3) := by decide +kernel
theorem dX3_putAll_60 : decode cX3_putAll 60 = .ok (.ireturn, 1) := by decide +kernel
theorem dX3_undo_0 : decode cX3_undo 0 = .ok (.aload_n 0, 1) := by decide +kernel
theorem dX3_undo_1 : decode cX3_undo 1 = .ok (.getfield 23, 3) := by decide +kernel
theorem dX3_undo_4 : decode cX3_undo 4 = .ok (.iconst 1, 1) := by decide +kernel
theorem dX3_undo_5 : decode cX3_undo 5 = .ok (.if_icmp .ge 6, 3) := by decide +kernel
theorem dX3_undo_8 : decode cX3_undo 8 = .ok (.bipush (-12), 2) := by decide +kernel
theorem dX3_undo_10 : decode cX3_undo 10 = .ok (.ireturn, 1) := by decide +kernel
theorem dX3_undo_11 : decode cX3_undo 11 = .ok (.aload_n 0, 1) := by decide +kernel
theorem dX3_undo_12 : decode cX3_undo 12 = .ok (.dup, 1) := by decide +kernel
theorem dX3_undo_13 : decode cX3_undo 13 = .ok (.getfield 23, 3) := by decide +kernel
theorem dX3_undo_16 : decode cX3_undo 16 = .ok (.iconst 1, 1) := by decide +kernel
theorem dX3_undo_17 : decode cX3_undo 17 = .ok (.isub, 1) := by decide +kernel
theorem dX3_undo_18 : decode cX3_undo 18 = .ok (.putfield 23, 3) := by decide +kernel
theorem dX3_undo_21 : decode cX3_undo 21 = .ok (.aload_n 0, 1) := by decide +kernel
theorem dX3_undo_22 : decode cX3_undo 22 = .ok (.getfield 10, 3) := by decide +kernel
theorem dX3_undo_25 : decode cX3_undo 25 = .ok (.aload_n 0, 1) := by decide +kernel
theorem dX3_undo_26 : decode cX3_undo 26 = .ok (.getfield 19, 3) := by decide +kernel
theorem dX3_undo_29 : decode cX3_undo 29 = .ok (.aload_n 0, 1) := by decide +kernel
theorem dX3_undo_30 : decode cX3_undo 30 = .ok (.getfield 23, 3) := by decide +kernel
theorem dX3_undo_33 : decode cX3_undo 33 = .ok (.aaload, 1) := by decide +kernel
theorem dX3_undo_34 : decode cX3_undo 34 = .ok (.invokevirtual 107, 3) := by decide +kernel
theorem dX3_undo_37 : decode cX3_undo 37 = .ok (.aload_n 0, 1) := by decide +kernel
theorem dX3_undo_38 : decode cX3_undo 38 = .ok (.getfield 23, 3) := by decide +kernel
theorem dX3_undo_41 : decode cX3_undo 41 = .ok (.ireturn, 1) := by decide +kernel
theorem dX3_count_0 : decode cX3_count 0 = .ok (.iload_n 1, 1) := by decide +kernel
theorem dX3_count_1 : decode cX3_count 1 = .ok (.tableswitch 96 0 6 #[43, 51, 59, 67, 75, 83, 88], 43) := by decide +kernel
theorem dX3_count_44 : decode cX3_count 44 = .ok (.aload_n 0, 1) := by decide +kernel
theorem dX3_count_45 : decode cX3_count 45 = .ok (.getfield 10, 3) := by decide +kernel
theorem dX3_count_48 : decode cX3_count 48 = .ok (.getfield 53, 3) := by decide +kernel
theorem dX3_count_51 : decode cX3_count 51 = .ok (.ireturn, 1) := by decide +kernel
theorem dX3_count_52 : decode cX3_count 52 = .ok (.aload_n 0, 1) := by decide +kernel
theorem dX3_count_53 : decode cX3_count 53 = .ok (.getfield 10, 3) := by decide +kernel
theorem dX3_count_56 : decode cX3_count 56 = .ok (.invokevirtual 128, 3) := by decide +kernel
theorem dX3_count_59 : decode cX3_count 59 = .ok (.ireturn, 1) := by decide +kernel
theorem dX3_count_60 : decode cX3_count 60 = .ok (.aload_n 0, 1) := by decide +kernel
theorem dX3_count_61 : decode cX3_count 61 = .ok (.getfield 10, 3) := by decide +kernel
theorem dX3_count_64 : decode cX3_count 64 = .ok (.getfield 91, 3) := by decide +kernel
theorem dX3_count_67 : decode cX3_count 67 = .ok (.ireturn, 1) := by decide +kernel
theorem dX3_count_68 : decode cX3_count 68 = .ok (.aload_n 0, 1) := by decide +kernel
theorem dX3_count_69 : decode cX3_count 69 = .ok (.getfield 10, 3) := by decide +kernel
theorem dX3_count_72 : decode cX3_count 72 = .ok (.getfield 97, 3) := by decide +kernel
theorem dX3_count_75 : decode cX3_count 75 = .ok (.ireturn, 1) := by decide +kernel
theorem dX3_count_76 : decode cX3_count 76 = .ok (.aload_n 0, 1) := by decide +kernel
theorem dX3_count_77 : decode cX3_count 77 = .ok (.getfield 10, 3) := by decide +kernel
theorem dX3_count_80 : decode cX3_count 80 = .ok (.invokevirtual 144, 3) := by decide +kernel
theorem dX3_count_83 : decode cX3_count 83 = .ok (.ireturn, 1) := by decide +kernel
theorem dX3_count_84 : decode cX3_count 84 = .ok (.aload_n 0, 1) := by decide +kernel
theorem dX3_count_85 : decode cX3_count 85 = .ok (.getfield 23, 3) := by decide +kernel
theorem dX3_count_88 : decode cX3_count 88 = .ok (.ireturn, 1) := by decide +kernel
theorem dX3_count_89 : decode cX3_count 89 = .ok (.aload_n 0, 1) := by decide +kernel
theorem dX3_count_90 : decode cX3_count 90 = .ok (.getfield 30, 3) := by decide +kernel
theorem dX3_count_93 : decode cX3_count 93 = .ok (.getfield 100, 3) := by decide +kernel
theorem dX3_count_96 : decode cX3_count 96 = .ok (.ireturn, 1) := by decide +kernel
theorem dX3_count_97 : decode cX3_count 97 = .ok (.bipush (-11), 2) := by decide +kernel
theorem dX3_count_99 : decode cX3_count 99 = .ok (.ireturn, 1) := by decide +kernel
theorem dX3_word_0 : decode cX3_word 0 = .ok (.aload_n 0, 1) := by decide +kernel
theorem dX3_word_1 : decode cX3_word 1 = .ok (.getfield 10, 3) := by decide +kernel
theorem dX3_word_4 : decode cX3_word 4 = .ok (.iload_n 1, 1) := by decide +kernel
theorem dX3_word_5 : decode cX3_word 5 = .ok (.invokevirtual 56, 3) := by decide +kernel
theorem dX3_word_8 : decode cX3_word 8 = .ok (.ifCond .eq 13, 3) := by decide +kernel
theorem dX3_word_11 : decode cX3_word 11 = .ok (.iload_n 2, 1) := by decide +kernel
theorem dX3_word_12 : decode cX3_word 12 = .ok (.iconst 0, 1) := by decide +kernel
theorem dX3_word_13 : decode cX3_word 13 = .ok (.bipush 7, 2) := by decide +kernel
theorem dX3_word_15 : decode cX3_word 15 = .ok (.invokestatic 34, 3) := by decide +kernel
theorem dX3_word_18 : decode cX3_word 18 = .ok (.ifCond .ne 6, 3) := by decide +kernel
theorem dX3_word_21 : decode cX3_word 21 = .ok (.bipush (-11), 2) := by decide +kernel
theorem dX3_word_23 : decode cX3_word 23 = .ok (.ireturn, 1) := by decide +kernel
theorem dX3_word_24 : decode cX3_word 24 = .ok (.aload_n 0, 1) := by decide +kernel
theorem dX3_word_25 : decode cX3_word 25 = .ok (.getfield 10, 3) := by decide +kernel
theorem dX3_word_28 : decode cX3_word 28 = .ok (.getfield 64, 3) := by decide +kernel
theorem dX3_word_31 : decode cX3_word 31 = .ok (.iload_n 1, 1) := by decide +kernel
theorem dX3_word_32 : decode cX3_word 32 = .ok (.aaload, 1) := by decide +kernel
theorem dX3_word_33 : decode cX3_word 33 = .ok (.astore_n 3, 1) := by decide +kernel
theorem dX3_word_34 : decode cX3_word 34 = .ok (.iload_n 2, 1) := by decide +kernel
theorem dX3_word_35 : decode cX3_word 35 = .ok (.bipush 7, 2) := by decide +kernel
theorem dX3_word_37 : decode cX3_word 37 = .ok (.if_icmp .ne 8, 3) := by decide +kernel
theorem dX3_word_40 : decode cX3_word 40 = .ok (.aload_n 3, 1) := by decide +kernel
theorem dX3_word_41 : decode cX3_word 41 = .ok (.getfield 147, 3) := by decide +kernel
theorem dX3_word_44 : decode cX3_word 44 = .ok (.ireturn, 1) := by decide +kernel
theorem dX3_word_45 : decode cX3_word 45 = .ok (.iload_n 2, 1) := by decide +kernel
theorem dX3_word_46 : decode cX3_word 46 = .ok (.iconst 3, 1) := by decide +kernel
theorem dX3_word_47 : decode cX3_word 47 = .ok (.if_icmp .gt 9, 3) := by decide +kernel
theorem dX3_word_50 : decode cX3_word 50 = .ok (.aload_n 3, 1) := by decide +kernel
theorem dX3_word_51 : decode cX3_word 51 = .ok (.iload_n 2, 1) := by decide +kernel
theorem dX3_word_52 : decode cX3_word 52 = .ok (.invokevirtual 68, 3) := by decide +kernel
theorem dX3_word_55 : decode cX3_word 55 = .ok (.ireturn, 1) := by decide +kernel
theorem dX3_word_56 : decode cX3_word 56 = .ok (.aload_n 3, 1) := by decide +kernel
theorem dX3_word_57 : decode cX3_word 57 = .ok (.getfield 78, 3) := by decide +kernel
theorem dX3_word_60 : decode cX3_word 60 = .ok (.ifCond .ne 6, 3) := by decide +kernel
theorem dX3_word_63 : decode cX3_word 63 = .ok (.bipush (-19), 2) := by decide +kernel
theorem dX3_word_65 : decode cX3_word 65 = .ok (.ireturn, 1) := by decide +kernel
theorem dX3_word_66 : decode cX3_word 66 = .ok (.iload_n 2, 1) := by decide +kernel
theorem dX3_word_67 : decode cX3_word 67 = .ok (.lookupswitch 35 #[(4, 25), (5, 30)], 25) := by decide +kernel
theorem dX3_word_92 : decode cX3_word 92 = .ok (.aload_n 3, 1) := by decide +kernel
theorem dX3_word_93 : decode cX3_word 93 = .ok (.getfield 148, 3) := by decide +kernel
theorem dX3_word_96 : decode cX3_word 96 = .ok (.ireturn, 1) := by decide +kernel
theorem dX3_word_97 : decode cX3_word 97 = .ok (.aload_n 3, 1) := by decide +kernel
theorem dX3_word_98 : decode cX3_word 98 = .ok (.getfield 151, 3) := by decide +kernel
theorem dX3_word_101 : decode cX3_word 101 = .ok (.ireturn, 1) := by decide +kernel
theorem dX3_word_102 : decode cX3_word 102 = .ok (.aload_n 0, 1) := by decide +kernel
theorem dX3_word_103 : decode cX3_word 103 = .ok (.getfield 10, 3) := by decide +kernel
theorem dX3_word_106 : decode cX3_word 106 = .ok (.aload_n 3, 1) := by decide +kernel
theorem dX3_word_107 : decode cX3_word 107 = .ok (.invokevirtual 154, 3) := by decide +kernel
theorem dX3_word_110 : decode cX3_word 110 = .ok (.iconst 1, 1) := by decide +kernel
theorem dX3_word_111 : decode cX3_word 111 = .ok (.isub, 1) := by decide +kernel
theorem dX3_word_112 : decode cX3_word 112 = .ok (.ireturn, 1) := by decide +kernel
theorem dX3_letter_0 : decode cX3_letter 0 = .ok (.aload_n 0, 1) := by decide +kernel
theorem dX3_letter_1 : decode cX3_letter 1 = .ok (.getfield 10, 3) := by decide +kernel
theorem dX3_letter_4 : decode cX3_letter 4 = .ok (.iload_n 1, 1) := by decide +kernel
theorem dX3_letter_5 : decode cX3_letter 5 = .ok (.invokevirtual 56, 3) := by decide +kernel
theorem dX3_letter_8 : decode cX3_letter 8 = .ok (.ifCond .eq 7, 3) := by decide +kernel
theorem dX3_letter_11 : decode cX3_letter 11 = .ok (.iload_n 2, 1) := by decide +kernel
theorem dX3_letter_12 : decode cX3_letter 12 = .ok (.ifCond .ge 6, 3) := by decide +kernel
theorem dX3_letter_15 : decode cX3_letter 15 = .ok (.bipush (-11), 2) := by decide +kernel
theorem dX3_letter_17 : decode cX3_letter 17 = .ok (.ireturn, 1) := by decide +kernel
theorem dX3_letter_18 : decode cX3_letter 18 = .ok (.aload_n 0, 1) := by decide +kernel
theorem dX3_letter_19 : decode cX3_letter 19 = .ok (.getfield 10, 3) := by decide +kernel
theorem dX3_letter_22 : decode cX3_letter 22 = .ok (.getfield 64, 3) := by decide +kernel
theorem dX3_letter_25 : decode cX3_letter 25 = .ok (.iload_n 1, 1) := by decide +kernel
theorem dX3_letter_26 : decode cX3_letter 26 = .ok (.aaload, 1) := by decide +kernel
theorem dX3_letter_27 : decode cX3_letter 27 = .ok (.astore_n 3, 1) := by decide +kernel
theorem dX3_letter_28 : decode cX3_letter 28 = .ok (.iload_n 2, 1) := by decide +kernel
theorem dX3_letter_29 : decode cX3_letter 29 = .ok (.aload_n 3, 1) := by decide +kernel
theorem dX3_letter_30 : decode cX3_letter 30 = .ok (.getfield 147, 3) := by decide +kernel
theorem dX3_letter_33 : decode cX3_letter 33 = .ok (.if_icmp .ge 12, 3) := by decide +kernel
theorem dX3_letter_36 : decode cX3_letter 36 = .ok (.aload_n 3, 1) := by decide +kernel
theorem dX3_letter_37 : decode cX3_letter 37 = .ok (.getfield 158, 3) := by decide +kernel
theorem dX3_letter_40 : decode cX3_letter 40 = .ok (.iload_n 2, 1) := by decide +kernel
theorem dX3_letter_41 : decode cX3_letter 41 = .ok (.iaload, 1) := by decide +kernel
theorem dX3_letter_42 : decode cX3_letter 42 = .ok (.goto 5, 3) := by decide +kernel
theorem dX3_letter_45 : decode cX3_letter 45 = .ok (.bipush (-19), 2) := by decide +kernel
theorem dX3_letter_47 : decode cX3_letter 47 = .ok (.ireturn, 1) := by decide +kernel
theorem dX3_shot_0 : decode cX3_shot 0 = .ok (.iload_n 1, 1) := by decide +kernel
theorem dX3_shot_1 : decode cX3_shot 1 = .ok (.ifCond .ge 6, 3) := by decide +kernel
theorem dX3_shot_4 : decode cX3_shot 4 = .ok (.bipush (-11), 2) := by decide +kernel
theorem dX3_shot_6 : decode cX3_shot 6 = .ok (.ireturn, 1) := by decide +kernel
theorem dX3_shot_7 : decode cX3_shot 7 = .ok (.iload_n 1, 1) := by decide +kernel
theorem dX3_shot_8 : decode cX3_shot 8 = .ok (.aload_n 0, 1) := by decide +kernel
theorem dX3_shot_9 : decode cX3_shot 9 = .ok (.getfield 10, 3) := by decide +kernel
theorem dX3_shot_12 : decode cX3_shot 12 = .ok (.getfield 91, 3) := by decide +kernel
theorem dX3_shot_15 : decode cX3_shot 15 = .ok (.if_icmp .ge 15, 3) := by decide +kernel
theorem dX3_shot_18 : decode cX3_shot 18 = .ok (.aload_n 0, 1) := by decide +kernel
theorem dX3_shot_19 : decode cX3_shot 19 = .ok (.getfield 10, 3) := by decide +kernel
theorem dX3_shot_22 : decode cX3_shot 22 = .ok (.getfield 161, 3) := by decide +kernel
theorem dX3_shot_25 : decode cX3_shot 25 = .ok (.iload_n 1, 1) := by decide +kernel
theorem dX3_shot_26 : decode cX3_shot 26 = .ok (.iaload, 1) := by decide +kernel
theorem dX3_shot_27 : decode cX3_shot 27 = .ok (.goto 5, 3) := by decide +kernel
theorem dX3_shot_30 : decode cX3_shot 30 = .ok (.bipush (-19), 2) := by decide +kernel
theorem dX3_shot_32 : decode cX3_shot 32 = .ok (.ireturn, 1) := by decide +kernel
theorem dX3_where_0 : decode cX3_where 0 = .ok (.aload_n 0, 1) := by decide +kernel
theorem dX3_where_1 : decode cX3_where 1 = .ok (.getfield 10, 3) := by decide +kernel
theorem dX3_where_4 : decode cX3_where 4 = .ok (.iload_n 1, 1) := by decide +kernel
theorem dX3_where_5 : decode cX3_where 5 = .ok (.invokevirtual 56, 3) := by decide +kernel
theorem dX3_where_8 : decode cX3_where 8 = .ok (.ifCond .eq 19, 3) := by decide +kernel
theorem dX3_where_11 : decode cX3_where 11 = .ok (.iload_n 2, 1) := by decide +kernel
theorem dX3_where_12 : decode cX3_where 12 = .ok (.invokestatic 164, 3) := by decide +kernel
theorem dX3_where_15 : decode cX3_where 15 = .ok (.ifCond .eq 12, 3) := by decide +kernel
theorem dX3_where_18 : decode cX3_where 18 = .ok (.iload_n 3, 1) := by decide +kernel
theorem dX3_where_19 : decode cX3_where 19 = .ok (.iconst 0, 1) := by decide +kernel
theorem dX3_where_20 : decode cX3_where 20 = .ok (.iconst 1, 1) := by decide +kernel
theorem dX3_where_21 : decode cX3_where 21 = .ok (.invokestatic 34, 3) := by decide +kernel
theorem dX3_where_24 : decode cX3_where 24 = .ok (.ifCond .ne 6, 3) := by decide +kernel
theorem dX3_where_27 : decode cX3_where 27 = .ok (.bipush (-11), 2) := by decide +kernel
theorem dX3_where_29 : decode cX3_where 29 = .ok (.ireturn, 1) := by decide +kernel
theorem dX3_where_30 : decode cX3_where 30 = .ok (.aload_n 0, 1) := by decide +kernel
theorem dX3_where_31 : decode cX3_where 31 = .ok (.getfield 10, 3) := by decide +kernel
theorem dX3_where_34 : decode cX3_where 34 = .ok (.getfield 64, 3) := by decide +kernel
theorem dX3_where_37 : decode cX3_where 37 = .ok (.iload_n 1, 1) := by decide +kernel
theorem dX3_where_38 : decode cX3_where 38 = .ok (.aaload, 1) := by decide +kernel
theorem dX3_where_39 : decode cX3_where 39 = .ok (.astore 4, 2) := by decide +kernel
theorem dX3_where_41 : decode cX3_where 41 = .ok (.aload_n 0, 1) := by decide +kernel
theorem dX3_where_42 : decode cX3_where 42 = .ok (.getfield 10, 3) := by decide +kernel
theorem dX3_where_45 : decode cX3_where 45 = .ok (.aload 4, 2) := by decide +kernel
theorem dX3_where_47 : decode cX3_where 47 = .ok (.iload_n 2, 1) := by decide +kernel
theorem dX3_where_48 : decode cX3_where 48 = .ok (.invokevirtual 167, 3) := by decide +kernel
theorem dX3_where_51 : decode cX3_where 51 = .ok (.ifCond .ne 6, 3) := by decide +kernel
theorem dX3_where_54 : decode cX3_where 54 = .ok (.bipush (-19), 2) := by decide +kernel
theorem dX3_where_56 : decode cX3_where 56 = .ok (.ireturn, 1) := by decide +kernel
theorem dX3_where_57 : decode cX3_where 57 = .ok (.iload_n 3, 1) := by decide +kernel
theorem dX3_where_58 : decode cX3_where 58 = .ok (.ifCond .ne 14, 3) := by decide +kernel
theorem dX3_where_61 : decode cX3_where 61 = .ok (.aload_n 0, 1) := by decide +kernel
theorem dX3_where_62 : decode cX3_where 62 = .ok (.getfield 10, 3) := by decide +kernel
theorem dX3_where_65 : decode cX3_where 65 = .ok (.aload 4, 2) := by decide +kernel
theorem dX3_where_67 : decode cX3_where 67 = .ok (.iload_n 2, 1) := by decide +kernel
theorem dX3_where_68 : decode cX3_where 68 = .ok (.invokevirtual 171, 3) := by decide +kernel
theorem dX3_where_71 : decode cX3_where 71 = .ok (.ireturn, 1) := by decide +kernel
theorem dX3_where_72 : decode cX3_where 72 = .ok (.aload_n 0, 1) := by decide +kernel
theorem dX3_where_73 : decode cX3_where 73 = .ok (.getfield 10, 3) := by decide +kernel
theorem dX3_where_76 : decode cX3_where 76 = .ok (.aload 4, 2) := by decide +kernel
theorem dX3_where_78 : decode cX3_where 78 = .ok (.iload_n 2, 1) := by decide +kernel
theorem dX3_where_79 : decode cX3_where 79 = .ok (.invokevirtual 175, 3) := by decide +kernel
theorem dX3_where_82 : decode cX3_where 82 = .ok (.istore 5, 2) := by decide +kernel
theorem dX3_where_84 : decode cX3_where 84 = .ok (.iload 5, 2) := by decide +kernel
theorem dX3_where_86 : decode cX3_where 86 = .ok (.iconst 0, 1) := by decide +kernel
theorem dX3_where_87 : decode cX3_where 87 = .ok (.bipush 39, 2) := by decide +kernel
theorem dX3_where_89 : decode cX3_where 89 = .ok (.invokestatic 34, 3) := by decide +kernel
theorem dX3_where_92 : decode cX3_where 92 = .ok (.ifCond .eq 8, 3) := by decide +kernel
theorem dX3_where_95 : decode cX3_where 95 = .ok (.iload 5, 2) := by decide +kernel
theorem dX3_where_97 : decode cX3_where 97 = .ok (.goto 9, 3) := by decide +kernel
theorem dX3_where_100 : decode cX3_where 100 = .ok (.sipush (-1000), 3) := by decide +kernel
theorem dX3_where_103 : decode cX3_where 103 = .ok (.iload 5, 2) := by decide +kernel
theorem dX3_where_105 : decode cX3_where 105 = .ok (.iadd, 1) := by decide +kernel
theorem dX3_where_106 : decode cX3_where 106 = .ok (.ireturn, 1) := by decide +kernel
theorem dX3_written_0 : decode cX3_written 0 = .ok (.iload_n 1, 1) := by decide +kernel
theorem dX3_written_1 : decode cX3_written 1 = .ok (.iconst 0, 1) := by decide +kernel
theorem dX3_written_2 : decode cX3_written 2 = .ok (.bipush 7, 2) := by decide +kernel
theorem dX3_written_4 : decode cX3_written 4 = .ok (.invokestatic 34, 3) := by decide +kernel
theorem dX3_written_7 : decode cX3_written 7 = .ok (.ifCond .eq 20, 3) := by decide +kernel
theorem dX3_written_10 : decode cX3_written 10 = .ok (.iload_n 2, 1) := by decide +kernel
theorem dX3_written_11 : decode cX3_written 11 = .ok (.iconst 0, 1) := by decide +kernel
theorem dX3_written_12 : decode cX3_written 12 = .ok (.bipush 39, 2) := by decide +kernel
theorem dX3_written_14 : decode cX3_written 14 = .ok (.invokestatic 34, 3) := by decide +kernel
theorem dX3_written_17 : decode cX3_written 17 = .ok (.ifCond .eq 10, 3) := by decide +kernel
theorem dX3_written_20 : decode cX3_written 20 = .ok (.iload_n 3, 1) := by decide +kernel
theorem dX3_written_21 : decode cX3_written 21 = .ok (.invokestatic 164, 3) := by decide +kernel
theorem dX3_written_24 : decode cX3_written 24 = .ok (.ifCond .ne 6, 3) := by decide +kernel
theorem dX3_written_27 : decode cX3_written 27 = .ok (.bipush (-11), 2) := by decide +kernel
theorem dX3_written_29 : decode cX3_written 29 = .ok (.ireturn, 1) := by decide +kernel
theorem dX3_written_30 : decode cX3_written 30 = .ok (.aload_n 0, 1) := by decide +kernel
theorem dX3_written_31 : decode cX3_written 31 = .ok (.getfield 10, 3) := by decide +kernel
theorem dX3_written_34 : decode cX3_written 34 = .ok (.iload_n 1, 1) := by decide +kernel
theorem dX3_written_35 : decode cX3_written 35 = .ok (.iload_n 2, 1) := by decide +kernel
theorem dX3_written_36 : decode cX3_written 36 = .ok (.iload_n 3, 1) := by decide +kernel
theorem dX3_written_37 : decode cX3_written 37 = .ok (.invokevirtual 178, 3) := by decide +kernel
theorem dX3_written_40 : decode cX3_written 40 = .ok (.ireturn, 1) := by decide +kernel
theorem dX3_onScreen_0 : decode cX3_onScreen 0 = .ok (.iload_n 1, 1) := by decide +kernel
theorem dX3_onScreen_1 : decode cX3_onScreen 1 = .ok (.invokestatic 164, 3) := by decide +kernel
theorem dX3_onScreen_4 : decode cX3_onScreen 4 = .ok (.ifCond .ne 6, 3) := by decide +kernel
theorem dX3_onScreen_7 : decode cX3_onScreen 7 = .ok (.bipush (-11), 2) := by decide +kernel
theorem dX3_onScreen_9 : decode cX3_onScreen 9 = .ok (.ireturn, 1) := by decide +kernel
theorem dX3_onScreen_10 : decode cX3_onScreen 10 = .ok (.aload_n 0, 1) := by decide +kernel
theorem dX3_onScreen_11 : decode cX3_onScreen 11 = .ok (.getfield 10, 3) := by decide +kernel
theorem dX3_onScreen_14 : decode cX3_onScreen 14 = .ok (.iload_n 1, 1) := by decide +kernel
theorem dX3_onScreen_15 : decode cX3_onScreen 15 = .ok (.invokevirtual 182, 3) := by decide +kernel
theorem dX3_onScreen_18 : decode cX3_onScreen 18 = .ok (.ireturn, 1) := by decide +kernel
theorem dX3_meeting_0 : decode cX3_meeting 0 = .ok (.aload_n 0, 1) := by decide +kernel
theorem dX3_meeting_1 : decode cX3_meeting 1 = .ok (.getfield 10, 3) := by decide +kernel
theorem dX3_meeting_4 : decode cX3_meeting 4 = .ok (.iload_n 1, 1) := by decide +kernel
theorem dX3_meeting_5 : decode cX3_meeting 5 = .ok (.invokevirtual 56, 3) := by decide +kernel
theorem dX3_meeting_8 : decode cX3_meeting 8 = .ok (.ifCond .eq 19, 3) := by decide +kernel
theorem dX3_meeting_11 : decode cX3_meeting 11 = .ok (.aload_n 0, 1) := by decide +kernel
theorem dX3_meeting_12 : decode cX3_meeting 12 = .ok (.getfield 10, 3) := by decide +kernel
theorem dX3_meeting_15 : decode cX3_meeting 15 = .ok (.iload_n 2, 1) := by decide +kernel
theorem dX3_meeting_16 : decode cX3_meeting 16 = .ok (.invokevirtual 56, 3) := by decide +kernel
theorem dX3_meeting_19 : decode cX3_meeting 19 = .ok (.ifCond .eq 8, 3) := by decide +kernel
theorem dX3_meeting_22 : decode cX3_meeting 22 = .ok (.iload_n 1, 1) := by decide +kernel
theorem dX3_meeting_23 : decode cX3_meeting 23 = .ok (.iload_n 2, 1) := by decide +kernel
theorem dX3_meeting_24 : decode cX3_meeting 24 = .ok (.if_icmp .ne 6, 3) := by decide +kernel
theorem dX3_meeting_27 : decode cX3_meeting 27 = .ok (.bipush (-11), 2) := by decide +kernel
theorem dX3_meeting_29 : decode cX3_meeting 29 = .ok (.ireturn, 1) := by decide +kernel
theorem dX3_meeting_30 : decode cX3_meeting 30 = .ok (.aload_n 0, 1) := by decide +kernel
theorem dX3_meeting_31 : decode cX3_meeting 31 = .ok (.getfield 10, 3) := by decide +kernel
theorem dX3_meeting_34 : decode cX3_meeting 34 = .ok (.aload_n 0, 1) := by decide +kernel
theorem dX3_meeting_35 : decode cX3_meeting 35 = .ok (.getfield 10, 3) := by decide +kernel
theorem dX3_meeting_38 : decode cX3_meeting 38 = .ok (.getfield 64, 3) := by decide +kernel
theorem dX3_meeting_41 : decode cX3_meeting 41 = .ok (.iload_n 1, 1) := by decide +kernel
theorem dX3_meeting_42 : decode cX3_meeting 42 = .ok (.aaload, 1) := by decide +kernel
theorem dX3_meeting_43 : decode cX3_meeting 43 = .ok (.aload_n 0, 1) := by decide +kernel
theorem dX3_meeting_44 : decode cX3_meeting 44 = .ok (.getfield 10, 3) := by decide +kernel
theorem dX3_meeting_47 : decode cX3_meeting 47 = .ok (.getfield 64, 3) := by decide +kernel
theorem dX3_meeting_50 : decode cX3_meeting 50 = .ok (.iload_n 2, 1) := by decide +kernel
theorem dX3_meeting_51 : decode cX3_meeting 51 = .ok (.aaload, 1) := by decide +kernel
theorem dX3_meeting_52 : decode cX3_meeting 52 = .ok (.invokevirtual 185, 3) := by decide +kernel
theorem dX3_meeting_55 : decode cX3_meeting 55 = .ok (.ireturn, 1) := by decide +kernel
theorem dX3_pace_0 : decode cX3_pace 0 = .ok (.iload_n 1, 1) := by decide +kernel
theorem dX3_pace_1 : decode cX3_pace 1 = .ok (.invokestatic 164, 3) := by decide +kernel
theorem dX3_pace_4 : decode cX3_pace 4 = .ok (.ifCond .ne 6, 3) := by decide +kernel
theorem dX3_pace_7 : decode cX3_pace 7 = .ok (.bipush (-11), 2) := by decide +kernel
theorem dX3_pace_9 : decode cX3_pace 9 = .ok (.ireturn, 1) := by decide +kernel
theorem dX3_pace_10 : decode cX3_pace 10 = .ok (.aload_n 0, 1) := by decide +kernel
theorem dX3_pace_11 : decode cX3_pace 11 = .ok (.getfield 10, 3) := by decide +kernel
theorem dX3_pace_14 : decode cX3_pace 14 = .ok (.iload_n 1, 1) := by decide +kernel
theorem dX3_pace_15 : decode cX3_pace 15 = .ok (.invokevirtual 189, 3) := by decide +kernel
theorem dX3_pace_18 : decode cX3_pace 18 = .ok (.ireturn, 1) := by decide +kernel
theorem dX3_earliest_0 : decode cX3_earliest 0 = .ok (.aload_n 0, 1) := by decide +kernel
theorem dX3_earliest_1 : decode cX3_earliest 1 = .ok (.iload_n 1, 1) := by decide +kernel
theorem dX3_earliest_2 : decode cX3_earliest 2 = .ok (.iload_n 2, 1) := by decide +kernel
theorem dX3_earliest_3 : decode cX3_earliest 3 = .ok (.iload_n 3, 1) := by decide +kernel
theorem dX3_earliest_4 : decode cX3_earliest 4 = .ok (.invokevirtual 115, 3) := by decide +kernel
theorem dX3_earliest_7 : decode cX3_earliest 7 = .ok (.ifCond .ne 6, 3) := by decide +kernel
theorem dX3_earliest_10 : decode cX3_earliest 10 = .ok (.bipush (-11), 2) := by decide +kernel
theorem dX3_earliest_12 : decode cX3_earliest 12 = .ok (.ireturn, 1) := by decide +kernel
theorem dX3_earliest_13 : decode cX3_earliest 13 = .ok (.aload_n 0, 1) := by decide +kernel
theorem dX3_earliest_14 : decode cX3_earliest 14 = .ok (.getfield 10, 3) := by decide +kernel
theorem dX3_earliest_17 : decode cX3_earliest 17 = .ok (.getfield 64, 3) := by decide +kernel
theorem dX3_earliest_20 : decode cX3_earliest 20 = .ok (.iload_n 1, 1) := by decide +kernel
theorem dX3_earliest_21 : decode cX3_earliest 21 = .ok (.aaload, 1) := by decide +kernel
theorem dX3_earliest_22 : decode cX3_earliest 22 = .ok (.getfield 118, 3) := by decide +kernel
theorem dX3_earliest_25 : decode cX3_earliest 25 = .ok (.istore 4, 2) := by decide +kernel
theorem dX3_earliest_27 : decode cX3_earliest 27 = .ok (.iload 4, 2) := by decide +kernel
theorem dX3_earliest_29 : decode cX3_earliest 29 = .ok (.sipush 2000, 3) := by decide +kernel
theorem dX3_earliest_32 : decode cX3_earliest 32 = .ok (.if_icmp .gt 27, 3) := by decide +kernel
theorem dX3_earliest_35 : decode cX3_earliest 35 = .ok (.aload_n 0, 1) := by decide +kernel
theorem dX3_earliest_36 : decode cX3_earliest 36 = .ok (.getfield 10, 3) := by decide +kernel
theorem dX3_earliest_39 : decode cX3_earliest 39 = .ok (.iload_n 1, 1) := by decide +kernel
theorem dX3_earliest_40 : decode cX3_earliest 40 = .ok (.iload 4, 2) := by decide +kernel
theorem dX3_earliest_42 : decode cX3_earliest 42 = .ok (.iload_n 2, 1) := by decide +kernel
theorem dX3_earliest_43 : decode cX3_earliest 43 = .ok (.iload_n 3, 1) := by decide +kernel
theorem dX3_earliest_44 : decode cX3_earliest 44 = .ok (.invokevirtual 121, 3) := by decide +kernel
theorem dX3_earliest_47 : decode cX3_earliest 47 = .ok (.ifCond .eq 6, 3) := by decide +kernel
theorem dX3_earliest_50 : decode cX3_earliest 50 = .ok (.iload 4, 2) := by decide +kernel
theorem dX3_earliest_52 : decode cX3_earliest 52 = .ok (.ireturn, 1) := by decide +kernel
theorem dX3_earliest_53 : decode cX3_earliest 53 = .ok (.iinc 4 1, 3) := by decide +kernel
theorem dX3_earliest_56 : decode cX3_earliest 56 = .ok (.goto (-29), 3) := by decide +kernel
theorem dX3_earliest_59 : decode cX3_earliest 59 = .ok (.bipush (-19), 2) := by decide +kernel
theorem dX3_earliest_61 : decode cX3_earliest 61 = .ok (.ireturn, 1) := by decide +kernel
theorem dX3_filled_0 : decode cX3_filled 0 = .ok (.iload_n 1, 1) := by decide +kernel
theorem dX3_filled_1 : decode cX3_filled 1 = .ok (.invokestatic 164, 3) := by decide +kernel
theorem dX3_filled_4 : decode cX3_filled 4 = .ok (.ifCond .ne 6, 3) := by decide +kernel
theorem dX3_filled_7 : decode cX3_filled 7 = .ok (.bipush (-11), 2) := by decide +kernel
theorem dX3_filled_9 : decode cX3_filled 9 = .ok (.ireturn, 1) := by decide +kernel
theorem dX3_filled_10 : decode cX3_filled 10 = .ok (.iconst 0, 1) := by decide +kernel
theorem dX3_filled_11 : decode cX3_filled 11 = .ok (.istore_n 2, 1) := by decide +kernel
theorem dX3_filled_12 : decode cX3_filled 12 = .ok (.iconst 0, 1) := by decide +kernel
theorem dX3_filled_13 : decode cX3_filled 13 = .ok (.istore_n 3, 1) := by decide +kernel
theorem dX3_filled_14 : decode cX3_filled 14 = .ok (.iload_n 3, 1) := by decide +kernel
theorem dX3_filled_15 : decode cX3_filled 15 = .ok (.bipush 8, 2) := by decide +kernel
theorem dX3_filled_17 : decode cX3_filled 17 = .ok (.if_icmp .ge 24, 3) := by decide +kernel
theorem dX3_filled_20 : decode cX3_filled 20 = .ok (.iload_n 2, 1) := by decide +kernel
theorem dX3_filled_21 : decode cX3_filled 21 = .ok (.aload_n 0, 1) := by decide +kernel
theorem dX3_filled_22 : decode cX3_filled 22 = .ok (.getfield 10, 3) := by decide +kernel
theorem dX3_filled_25 : decode cX3_filled 25 = .ok (.iload_n 3, 1) := by decide +kernel
theorem dX3_filled_26 : decode cX3_filled 26 = .ok (.iload_n 1, 1) := by decide +kernel
theorem dX3_filled_27 : decode cX3_filled 27 = .ok (.invokevirtual 192, 3) := by decide +kernel
theorem dX3_filled_30 : decode cX3_filled 30 = .ok (.invokestatic 196, 3) := by decide +kernel
theorem dX3_filled_33 : decode cX3_filled 33 = .ok (.iadd, 1) := by decide +kernel
theorem dX3_filled_34 : decode cX3_filled 34 = .ok (.istore_n 2, 1) := by decide +kernel
theorem dX3_filled_35 : decode cX3_filled 35 = .ok (.iinc 3 1, 3) := by decide +kernel
theorem dX3_filled_38 : decode cX3_filled 38 = .ok (.goto (-24), 3) := by decide +kernel
theorem dX3_filled_41 : decode cX3_filled 41 = .ok (.iload_n 2, 1) := by decide +kernel
theorem dX3_filled_42 : decode cX3_filled 42 = .ok (.ireturn, 1) := by decide +kernel
theorem dX3_record_0 : decode cX3_record 0 = .ok (.aload_n 0, 1) := by decide +kernel
theorem dX3_record_1 : decode cX3_record 1 = .ok (.getfield 23, 3) := by decide +kernel
theorem dX3_record_4 : decode cX3_record 4 = .ok (.iconst 5, 1) := by decide +kernel
theorem dX3_record_5 : decode cX3_record 5 = .ok (.if_icmp .lt 7, 3) := by decide +kernel
theorem dX3_record_8 : decode cX3_record 8 = .ok (.aload_n 0, 1) := by decide +kernel
theorem dX3_record_9 : decode cX3_record 9 = .ok (.invokevirtual 202, 3) := by decide +kernel
theorem dX3_record_12 : decode cX3_record 12 = .ok (.aload_n 0, 1) := by decide +kernel
theorem dX3_record_13 : decode cX3_record 13 = .ok (.getfield 19, 3) := by decide +kernel
theorem dX3_record_16 : decode cX3_record 16 = .ok (.aload_n 0, 1) := by decide +kernel
theorem dX3_record_17 : decode cX3_record 17 = .ok (.getfield 23, 3) := by decide +kernel
theorem dX3_record_20 : decode cX3_record 20 = .ok (.aaload, 1) := by decide +kernel
theorem dX3_record_21 : decode cX3_record 21 = .ok (.aload_n 0, 1) := by decide +kernel
theorem dX3_record_22 : decode cX3_record 22 = .ok (.getfield 10, 3) := by decide +kernel
theorem dX3_record_25 : decode cX3_record 25 = .ok (.invokevirtual 107, 3) := by decide +kernel
theorem dX3_record_28 : decode cX3_record 28 = .ok (.aload_n 0, 1) := by decide +kernel
theorem dX3_record_29 : decode cX3_record 29 = .ok (.dup, 1) := by decide +kernel
theorem dX3_record_30 : decode cX3_record 30 = .ok (.getfield 23, 3) := by decide +kernel
theorem dX3_record_33 : decode cX3_record 33 = .ok (.iconst 1, 1) := by decide +kernel
theorem dX3_record_34 : decode cX3_record 34 = .ok (.iadd, 1) := by decide +kernel
theorem dX3_record_35 : decode cX3_record 35 = .ok (.putfield 23, 3) := by decide +kernel
theorem dX3_record_38 : decode cX3_record 38 = .ok (.return_, 1) := by decide +kernel
theorem dX3_dropOldestState_0 : decode cX3_dropOldestState 0 = .ok (.aload_n 0, 1) := by decide +kernel
theorem dX3_dropOldestState_1 : decode cX3_dropOldestState 1 = .ok (.getfield 19, 3) := by decide +kernel
theorem dX3_dropOldestState_4 : decode cX3_dropOldestState 4 = .ok (.iconst 0, 1) := by decide +kernel
theorem dX3_dropOldestState_5 : decode cX3_dropOldestState 5 = .ok (.aaload, 1) := by decide +kernel
theorem dX3_dropOldestState_6 : decode cX3_dropOldestState 6 = .ok (.astore_n 1, 1) := by decide +kernel
theorem dX3_dropOldestState_7 : decode cX3_dropOldestState 7 = .ok (.iconst 1, 1) := by decide +kernel
theorem dX3_dropOldestState_8 : decode cX3_dropOldestState 8 = .ok (.istore_n 2, 1) := by decide +kernel
theorem dX3_dropOldestState_9 : decode cX3_dropOldestState 9 = .ok (.iload_n 2, 1) := by decide +kernel
theorem dX3_dropOldestState_10 : decode cX3_dropOldestState 10 = .ok (.iconst 5, 1) := by decide +kernel
theorem dX3_dropOldestState_11 : decode cX3_dropOldestState 11 = .ok (.if_icmp .ge 23, 3) := by decide +kernel
theorem dX3_dropOldestState_14 : decode cX3_dropOldestState 14 = .ok (.aload_n 0, 1) := by decide +kernel
theorem dX3_dropOldestState_15 : decode cX3_dropOldestState 15 = .ok (.getfield 19, 3) := by decide +kernel
theorem dX3_dropOldestState_18 : decode cX3_dropOldestState 18 = .ok (.iload_n 2, 1) := by decide +kernel
theorem dX3_dropOldestState_19 : decode cX3_dropOldestState 19 = .ok (.iconst 1, 1) := by decide +kernel
theorem dX3_dropOldestState_20 : decode cX3_dropOldestState 20 = .ok (.isub, 1) := by decide +kernel
theorem dX3_dropOldestState_21 : decode cX3_dropOldestState 21 = .ok (.aload_n 0, 1) := by decide +kernel
theorem dX3_dropOldestState_22 : decode cX3_dropOldestState 22 = .ok (.getfield 19, 3) := by decide +kernel
theorem dX3_dropOldestState_25 : decode cX3_dropOldestState 25 = .ok (.iload_n 2, 1) := by decide +kernel
theorem dX3_dropOldestState_26 : decode cX3_dropOldestState 26 = .ok (.aaload, 1) := by decide +kernel
theorem dX3_dropOldestState_27 : decode cX3_dropOldestState 27 = .ok (.aastore, 1) := by decide +kernel
theorem dX3_dropOldestState_28 : decode cX3_dropOldestState 28 = .ok (.iinc 2 1, 3) := by decide +kernel
theorem dX3_dropOldestState_31 : decode cX3_dropOldestState 31 = .ok (.goto (-22), 3) := by decide +kernel
theorem dX3_dropOldestState_34 : decode cX3_dropOldestState 34 = .ok (.aload_n 0, 1) := by decide +kernel
theorem dX3_dropOldestState_35 : decode cX3_dropOldestState 35 = .ok (.getfield 19, 3) := by decide +kernel
theorem dX3_dropOldestState_38 : decode cX3_dropOldestState 38 = .ok (.iconst 4, 1) := by decide +kernel
theorem dX3_dropOldestState_39 : decode cX3_dropOldestState 39 = .ok (.aload_n 1, 1) := by decide +kernel
theorem dX3_dropOldestState_40 : decode cX3_dropOldestState 40 = .ok (.aastore, 1) := by decide +kernel
theorem dX3_dropOldestState_41 : decode cX3_dropOldestState 41 = .ok (.aload_n 0, 1) := by decide +kernel
theorem dX3_dropOldestState_42 : decode cX3_dropOldestState 42 = .ok (.iconst 4, 1) := by decide +kernel
theorem dX3_dropOldestState_43 : decode cX3_dropOldestState 43 = .ok (.putfield 23, 3) := by decide +kernel
theorem dX3_dropOldestState_46 : decode cX3_dropOldestState 46 = .ok (.return_, 1) := by decide +kernel
theorem dX3_isPossiblePlace_0 : decode cX3_isPossiblePlace 0 = .ok (.aload_n 0, 1) := by decide +kernel
theorem dX3_isPossiblePlace_1 : decode cX3_isPossiblePlace 1 = .ok (.getfield 10, 3) := by decide +kernel
theorem dX3_isPossiblePlace_4 : decode cX3_isPossiblePlace 4 = .ok (.iload_n 1, 1) := by decide +kernel
theorem dX3_isPossiblePlace_5 : decode cX3_isPossiblePlace 5 = .ok (.invokevirtual 56, 3) := by decide +kernel
theorem dX3_isPossiblePlace_8 : decode cX3_isPossiblePlace 8 = .ok (.ifCond .eq 37, 3) := by decide +kernel
theorem dX3_isPossiblePlace_11 : decode cX3_isPossiblePlace 11 = .ok (.iload_n 2, 1) := by decide +kernel
theorem dX3_isPossiblePlace_12 : decode cX3_isPossiblePlace 12 = .ok (.iconst 0, 1) := by decide +kernel
theorem dX3_isPossiblePlace_13 : decode cX3_isPossiblePlace 13 = .ok (.bipush 7, 2) := by decide +kernel
theorem dX3_isPossiblePlace_15 : decode cX3_isPossiblePlace 15 = .ok (.invokestatic 34, 3) := by decide +kernel
theorem dX3_isPossiblePlace_18 : decode cX3_isPossiblePlace 18 = .ok (.ifCond .eq 27, 3) := by decide +kernel
theorem dX3_isPossiblePlace_21 : decode cX3_isPossiblePlace 21 = .ok (.iload_n 3, 1) := by decide +kernel
theorem dX3_isPossiblePlace_22 : decode cX3_isPossiblePlace 22 = .ok (.iconst 0, 1) := by decide +kernel
theorem dX3_isPossiblePlace_23 : decode cX3_isPossiblePlace 23 = .ok (.aload_n 0, 1) := by decide +kernel
theorem dX3_isPossiblePlace_24 : decode cX3_isPossiblePlace 24 = .ok (.getfield 10, 3) := by decide +kernel
theorem dX3_isPossiblePlace_27 : decode cX3_isPossiblePlace 27 = .ok (.getfield 64, 3) := by decide +kernel
theorem dX3_isPossiblePlace_30 : decode cX3_isPossiblePlace 30 = .ok (.iload_n 1, 1) := by decide +kernel
theorem dX3_isPossiblePlace_31 : decode cX3_isPossiblePlace 31 = .ok (.aaload, 1) := by decide +kernel
theorem dX3_isPossiblePlace_32 : decode cX3_isPossiblePlace 32 = .ok (.invokevirtual 205, 3) := by decide +kernel
theorem dX3_isPossiblePlace_35 : decode cX3_isPossiblePlace 35 = .ok (.invokestatic 34, 3) := by decide +kernel
theorem dX3_isPossiblePlace_38 : decode cX3_isPossiblePlace 38 = .ok (.ifCond .eq 7, 3) := by decide +kernel
theorem dX3_isPossiblePlace_41 : decode cX3_isPossiblePlace 41 = .ok (.iconst 1, 1) := by decide +kernel
theorem dX3_isPossiblePlace_42 : decode cX3_isPossiblePlace 42 = .ok (.goto 4, 3) := by decide +kernel
theorem dX3_isPossiblePlace_45 : decode cX3_isPossiblePlace 45 = .ok (.iconst 0, 1) := by decide +kernel
theorem dX3_isPossiblePlace_46 : decode cX3_isPossiblePlace 46 = .ok (.ireturn, 1) := by decide +kernel
theorem dX3_isBetween_0 : decode cX3_isBetween 0 = .ok (.iload_n 0, 1) := by decide +kernel
theorem dX3_isBetween_1 : decode cX3_isBetween 1 = .ok (.iload_n 1, 1) := by decide +kernel
theorem dX3_isBetween_2 : decode cX3_isBetween 2 = .ok (.if_icmp .lt 12, 3) := by decide +kernel
theorem dX3_isBetween_5 : decode cX3_isBetween 5 = .ok (.iload_n 0, 1) := by decide +kernel
theorem dX3_isBetween_6 : decode cX3_isBetween 6 = .ok (.iload_n 2, 1) := by decide +kernel
theorem dX3_isBetween_7 : decode cX3_isBetween 7 = .ok (.if_icmp .gt 7, 3) := by decide +kernel
theorem dX3_isBetween_10 : decode cX3_isBetween 10 = .ok (.iconst 1, 1) := by decide +kernel
theorem dX3_isBetween_11 : decode cX3_isBetween 11 = .ok (.goto 4, 3) := by decide +kernel
theorem dX3_isBetween_14 : decode cX3_isBetween 14 = .ok (.iconst 0, 1) := by decide +kernel
theorem dX3_isBetween_15 : decode cX3_isBetween 15 = .ok (.ireturn, 1) := by decide +kernel
theorem dX3_isAskedFrame_0 : decode cX3_isAskedFrame 0 = .ok (.iload_n 0, 1) := by decide +kernel
theorem dX3_isAskedFrame_1 : decode cX3_isAskedFrame 1 = .ok (.iconst 0, 1) := by decide +kernel
theorem dX3_isAskedFrame_2 : decode cX3_isAskedFrame 2 = .ok (.sipush 4000, 3) := by decide +kernel
theorem dX3_isAskedFrame_5 : decode cX3_isAskedFrame 5 = .ok (.invokestatic 34, 3) := by decide +kernel
theorem dX3_isAskedFrame_8 : decode cX3_isAskedFrame 8 = .ok (.ireturn, 1) := by decide +kernel
theorem dX3_isAllowed_0 : decode cX3_isAllowed 0 = .ok (.iload_n 0, 1) := by decide +kernel
theorem dX3_isAllowed_1 : decode cX3_isAllowed 1 = .ok (.tableswitch 63 0 3 #[31, 40, 48, 56], 31) := by decide +kernel
theorem dX3_isAllowed_32 : decode cX3_isAllowed 32 = .ok (.iload_n 1, 1) := by decide +kernel
theorem dX3_isAllowed_33 : decode cX3_isAllowed 33 = .ok (.iconst 0, 1) := by decide +kernel
theorem dX3_isAllowed_34 : decode cX3_isAllowed 34 = .ok (.sipush 2000, 3) := by decide +kernel
theorem dX3_isAllowed_37 : decode cX3_isAllowed 37 = .ok (.invokestatic 34, 3) := by decide +kernel
theorem dX3_isAllowed_40 : decode cX3_isAllowed 40 = .ok (.ireturn, 1) := by decide +kernel
theorem dX3_isAllowed_41 : decode cX3_isAllowed 41 = .ok (.iload_n 1, 1) := by decide +kernel
theorem dX3_isAllowed_42 : decode cX3_isAllowed 42 = .ok (.iconst 1, 1) := by decide +kernel
theorem dX3_isAllowed_43 : decode cX3_isAllowed 43 = .ok (.bipush 60, 2) := by decide +kernel
theorem dX3_isAllowed_45 : decode cX3_isAllowed 45 = .ok (.invokestatic 34, 3) := by decide +kernel
theorem dX3_isAllowed_48 : decode cX3_isAllowed 48 = .ok (.ireturn, 1) := by decide +kernel
theorem dX3_isAllowed_49 : decode cX3_isAllowed 49 = .ok (.iload_n 1, 1) := by decide +kernel
theorem dX3_isAllowed_50 : decode cX3_isAllowed 50 = .ok (.iconst 0, 1) := by decide +kernel
theorem dX3_isAllowed_51 : decode cX3_isAllowed 51 = .ok (.bipush 60, 2) := by decide +kernel
theorem dX3_isAllowed_53 : decode cX3_isAllowed 53 = .ok (.invokestatic 34, 3) := by decide +kernel
theorem dX3_isAllowed_56 : decode cX3_isAllowed 56 = .ok (.ireturn, 1) := by decide +kernel
theorem dX3_isAllowed_57 : decode cX3_isAllowed 57 = .ok (.iload_n 1, 1) := by decide +kernel
theorem dX3_isAllowed_58 : decode cX3_isAllowed 58 = .ok (.iconst 0, 1) := by decide +kernel
theorem dX3_isAllowed_59 : decode cX3_isAllowed 59 = .ok (.iconst 4, 1) := by decide +kernel
theorem dX3_isAllowed_60 : decode cX3_isAllowed 60 = .ok (.invokestatic 34, 3) := by decide +kernel
theorem dX3_isAllowed_63 : decode cX3_isAllowed 63 = .ok (.ireturn, 1) := by decide +kernel
theorem dX3_isAllowed_64 : decode cX3_isAllowed 64 = .ok (.iconst 0, 1) := by decide +kernel
theorem dX3_isAllowed_65 : decode cX3_isAllowed 65 = .ok (.ireturn, 1) := by decide +kernel
theorem dJ13_bitCount_95d88_0 : decode cJ13_bitCount_95d88 0 = .ok (.lload_n 0, 1) := by decide +kernel
theorem dJ13_bitCount_95d88_1 : decode cJ13_bitCount_95d88 1 = .ok (.lload_n 0, 1) := by decide +kernel
theorem dJ13_bitCount_95d88_2 : decode cJ13_bitCount_95d88 2 = .ok (.iconst 1, 1) := by decide +kernel
theorem dJ13_bitCount_95d88_3 : decode cJ13_bitCount_95d88 3 = .ok (.lushr, 1) := by decide +kernel
theorem dJ13_bitCount_95d88_4 : decode cJ13_bitCount_95d88 4 = .ok (.ldc2_w 314, 3) := by decide +kernel
theorem dJ13_bitCount_95d88_7 : decode cJ13_bitCount_95d88 7 = .ok (.land, 1) := by decide +kernel
theorem dJ13_bitCount_95d88_8 : decode cJ13_bitCount_95d88 8 = .ok (.lsub, 1) := by decide +kernel
theorem dJ13_bitCount_95d88_9 : decode cJ13_bitCount_95d88 9 = .ok (.lstore_n 0, 1) := by decide +kernel
theorem dJ13_bitCount_95d88_10 : decode cJ13_bitCount_95d88 10 = .ok (.lload_n 0, 1) := by decide +kernel
theorem dJ13_bitCount_95d88_11 : decode cJ13_bitCount_95d88 11 = .ok (.ldc2_w 316, 3) := by decide +kernel
theorem dJ13_bitCount_95d88_14 : decode cJ13_bitCount_95d88 14 = .ok (.land, 1) := by decide +kernel
theorem dJ13_bitCount_95d88_15 : decode cJ13_bitCount_95d88 15 = .ok (.lload_n 0, 1) := by decide +kernel
theorem dJ13_bitCount_95d88_16 : decode cJ13_bitCount_95d88 16 = .ok (.iconst 2, 1) := by decide +kernel
theorem dJ13_bitCount_95d88_17 : decode cJ13_bitCount_95d88 17 = .ok (.lushr, 1) := by decide +kernel
theorem dJ13_bitCount_95d88_18 : decode cJ13_bitCount_95d88 18 = .ok (.ldc2_w 316, 3) := by decide +kernel
theorem dJ13_bitCount_95d88_21 : decode cJ13_bitCount_95d88 21 = .ok (.land, 1) := by decide +kernel
theorem dJ13_bitCount_95d88_22 : decode cJ13_bitCount_95d88 22 = .ok (.ladd, 1) := by decide +kernel
theorem dJ13_bitCount_95d88_23 : decode cJ13_bitCount_95d88 23 = .ok (.lstore_n 0, 1) := by decide +kernel
theorem dJ13_bitCount_95d88_24 : decode cJ13_bitCount_95d88 24 = .ok (.lload_n 0, 1) := by decide +kernel
theorem dJ13_bitCount_95d88_25 : decode cJ13_bitCount_95d88 25 = .ok (.lload_n 0, 1) := by decide +kernel
theorem dJ13_bitCount_95d88_26 : decode cJ13_bitCount_95d88 26 = .ok (.iconst 4, 1) := by decide +kernel
theorem dJ13_bitCount_95d88_27 : decode cJ13_bitCount_95d88 27 = .ok (.lushr, 1) := by decide +kernel
theorem dJ13_bitCount_95d88_28 : decode cJ13_bitCount_95d88 28 = .ok (.ladd, 1) := by decide +kernel
theorem dJ13_bitCount_95d88_29 : decode cJ13_bitCount_95d88 29 = .ok (.ldc2_w 318, 3) := by decide +kernel
theorem dJ13_bitCount_95d88_32 : decode cJ13_bitCount_95d88 32 = .ok (.land, 1) := by decide +kernel
theorem dJ13_bitCount_95d88_33 : decode cJ13_bitCount_95d88 33 = .ok (.lstore_n 0, 1) := by decide +kernel
theorem dJ13_bitCount_95d88_34 : decode cJ13_bitCount_95d88 34 = .ok (.lload_n 0, 1) := by decide +kernel
theorem dJ13_bitCount_95d88_35 : decode cJ13_bitCount_95d88 35 = .ok (.lload_n 0, 1) := by decide +kernel
theorem dJ13_bitCount_95d88_36 : decode cJ13_bitCount_95d88 36 = .ok (.bipush 8, 2) := by decide +kernel
theorem dJ13_bitCount_95d88_38 : decode cJ13_bitCount_95d88 38 = .ok (.lushr, 1) := by decide +kernel
theorem dJ13_bitCount_95d88_39 : decode cJ13_bitCount_95d88 39 = .ok (.ladd, 1) := by decide +kernel
theorem dJ13_bitCount_95d88_40 : decode cJ13_bitCount_95d88 40 = .ok (.lstore_n 0, 1) := by decide +kernel
theorem dJ13_bitCount_95d88_41 : decode cJ13_bitCount_95d88 41 = .ok (.lload_n 0, 1) := by decide +kernel
theorem dJ13_bitCount_95d88_42 : decode cJ13_bitCount_95d88 42 = .ok (.lload_n 0, 1) := by decide +kernel
theorem dJ13_bitCount_95d88_43 : decode cJ13_bitCount_95d88 43 = .ok (.bipush 16, 2) := by decide +kernel
theorem dJ13_bitCount_95d88_45 : decode cJ13_bitCount_95d88 45 = .ok (.lushr, 1) := by decide +kernel
theorem dJ13_bitCount_95d88_46 : decode cJ13_bitCount_95d88 46 = .ok (.ladd, 1) := by decide +kernel
theorem dJ13_bitCount_95d88_47 : decode cJ13_bitCount_95d88 47 = .ok (.lstore_n 0, 1) := by decide +kernel
theorem dJ13_bitCount_95d88_48 : decode cJ13_bitCount_95d88 48 = .ok (.lload_n 0, 1) := by decide +kernel
theorem dJ13_bitCount_95d88_49 : decode cJ13_bitCount_95d88 49 = .ok (.lload_n 0, 1) := by decide +kernel
theorem dJ13_bitCount_95d88_50 : decode cJ13_bitCount_95d88 50 = .ok (.bipush 32, 2) := by decide +kernel
theorem dJ13_bitCount_95d88_52 : decode cJ13_bitCount_95d88 52 = .ok (.lushr, 1) := by decide +kernel
theorem dJ13_bitCount_95d88_53 : decode cJ13_bitCount_95d88 53 = .ok (.ladd, 1) := by decide +kernel
theorem dJ13_bitCount_95d88_54 : decode cJ13_bitCount_95d88 54 = .ok (.lstore_n 0, 1) := by decide +kernel
theorem dJ13_bitCount_95d88_55 : decode cJ13_bitCount_95d88 55 = .ok (.lload_n 0, 1) := by decide +kernel
theorem dJ13_bitCount_95d88_56 : decode cJ13_bitCount_95d88 56 = .ok (.l2i, 1) := by decide +kernel
theorem dJ13_bitCount_95d88_57 : decode cJ13_bitCount_95d88 57 = .ok (.bipush 127, 2) := by decide +kernel
theorem dJ13_bitCount_95d88_59 : decode cJ13_bitCount_95d88 59 = .ok (.iand, 1) := by decide +kernel
theorem dJ13_bitCount_95d88_60 : decode cJ13_bitCount_95d88 60 = .ok (.ireturn, 1) := by decide +kernel
theorem dJ9_max_7cf53_0 : decode cJ9_max_7cf53 0 = .ok (.iload_n 0, 1) := by decide +kernel
theorem dJ9_max_7cf53_1 : decode cJ9_max_7cf53 1 = .ok (.iload_n 1, 1) := by decide +kernel
theorem dJ9_max_7cf53_2 : decode cJ9_max_7cf53 2 = .ok (.if_icmp .lt 7, 3) := by decide +kernel
theorem dJ9_max_7cf53_5 : decode cJ9_max_7cf53 5 = .ok (.iload_n 0, 1) := by decide +kernel
theorem dJ9_max_7cf53_6 : decode cJ9_max_7cf53 6 = .ok (.goto 4, 3) := by decide +kernel
theorem dJ9_max_7cf53_9 : decode cJ9_max_7cf53 9 = .ok (.iload_n 1, 1) := by decide +kernel
theorem dJ9_max_7cf53_10 : decode cJ9_max_7cf53 10 = .ok (.ireturn, 1) := by decide +kernel
theorem dJ9_min_7cf53_0 : decode cJ9_min_7cf53 0 = .ok (.iload_n 0, 1) := by decide +kernel
theorem dJ9_min_7cf53_1 : decode cJ9_min_7cf53 1 = .ok (.iload_n 1, 1) := by decide +kernel
theorem dJ9_min_7cf53_2 : decode cJ9_min_7cf53 2 = .ok (.if_icmp .gt 7, 3) := by decide +kernel
theorem dJ9_min_7cf53_5 : decode cJ9_min_7cf53 5 = .ok (.iload_n 0, 1) := by decide +kernel
theorem dJ9_min_7cf53_6 : decode cJ9_min_7cf53 6 = .ok (.goto 4, 3) := by decide +kernel
theorem dJ9_min_7cf53_9 : decode cJ9_min_7cf53 9 = .ok (.iload_n 1, 1) := by decide +kernel
theorem dJ9_min_7cf53_10 : decode cJ9_min_7cf53 10 = .ok (.ireturn, 1) := by decide +kernel
theorem dJ0_length_8abf5_0 : decode cJ0_length_8abf5 0 = .ok (.aload_n 0, 1) := by decide +kernel
theorem dJ0_length_8abf5_1 : decode cJ0_length_8abf5 1 = .ok (.getfield 9, 3) := by decide +kernel
theorem dJ0_length_8abf5_4 : decode cJ0_length_8abf5 4 = .ok (.arraylength, 1) := by decide +kernel
theorem dJ0_length_8abf5_5 : decode cJ0_length_8abf5 5 = .ok (.aload_n 0, 1) := by decide +kernel
theorem dJ0_length_8abf5_6 : decode cJ0_length_8abf5 6 = .ok (.invokevirtual 335, 3) := by decide +kernel
theorem dJ0_length_8abf5_9 : decode cJ0_length_8abf5 9 = .ok (.ishr, 1) := by decide +kernel
theorem dJ0_length_8abf5_10 : decode cJ0_length_8abf5 10 = .ok (.ireturn, 1) := by decide +kernel
theorem dJ0_charAt_5068e_0 : decode cJ0_charAt_5068e 0 = .ok (.aload_n 0, 1) := by decide +kernel
theorem dJ0_charAt_5068e_1 : decode cJ0_charAt_5068e 1 = .ok (.invokevirtual 492, 3) := by decide +kernel
theorem dJ0_charAt_5068e_4 : decode cJ0_charAt_5068e 4 = .ok (.ifCond .eq 12, 3) := by decide +kernel
theorem dJ0_charAt_5068e_7 : decode cJ0_charAt_5068e 7 = .ok (.aload_n 0, 1) := by decide +kernel
theorem dJ0_charAt_5068e_8 : decode cJ0_charAt_5068e 8 = .ok (.getfield 9, 3) := by decide +kernel
theorem dJ0_charAt_5068e_11 : decode cJ0_charAt_5068e 11 = .ok (.iload_n 1, 1) := by decide +kernel
theorem dJ0_charAt_5068e_12 : decode cJ0_charAt_5068e 12 = .ok (.invokestatic 495, 3) := by decide +kernel
theorem dJ0_charAt_5068e_15 : decode cJ0_charAt_5068e 15 = .ok (.ireturn, 1) := by decide +kernel
theorem dJ0_charAt_5068e_16 : decode cJ0_charAt_5068e 16 = .ok (.aload_n 0, 1) := by decide +kernel
theorem dJ0_charAt_5068e_17 : decode cJ0_charAt_5068e 17 = .ok (.getfield 9, 3) := by decide +kernel
theorem dJ0_charAt_5068e_20 : decode cJ0_charAt_5068e 20 = .ok (.iload_n 1, 1) := by decide +kernel
theorem dJ0_charAt_5068e_21 : decode cJ0_charAt_5068e 21 = .ok (.invokestatic 498, 3) := by decide +kernel
theorem dJ0_charAt_5068e_24 : decode cJ0_charAt_5068e 24 = .ok (.ireturn, 1) := by decide +kernel
theorem dJ0_coder_7d493_0 : decode cJ0_coder_7d493 0 = .ok (.getstatic 38, 3) := by decide +kernel
theorem dJ0_coder_7d493_3 : decode cJ0_coder_7d493 3 = .ok (.ifCond .eq 10, 3) := by decide +kernel
theorem dJ0_coder_7d493_6 : decode cJ0_coder_7d493 6 = .ok (.aload_n 0, 1) := by decide +kernel
theorem dJ0_coder_7d493_7 : decode cJ0_coder_7d493 7 = .ok (.getfield 15, 3) := by decide +kernel
theorem dJ0_coder_7d493_10 : decode cJ0_coder_7d493 10 = .ok (.goto 4, 3) := by decide +kernel
theorem dJ0_coder_7d493_13 : decode cJ0_coder_7d493 13 = .ok (.iconst 1, 1) := by decide +kernel
theorem dJ0_coder_7d493_14 : decode cJ0_coder_7d493 14 = .ok (.ireturn, 1) := by decide +kernel
theorem dJ0_isLatin1_aae02_0 : decode cJ0_isLatin1_aae02 0 = .ok (.getstatic 38, 3) := by decide +kernel
theorem dJ0_isLatin1_aae02_3 : decode cJ0_isLatin1_aae02 3 = .ok (.ifCond .eq 14, 3) := by decide +kernel
theorem dJ0_isLatin1_aae02_6 : decode cJ0_isLatin1_aae02 6 = .ok (.aload_n 0, 1) := by decide +kernel
theorem dJ0_isLatin1_aae02_7 : decode cJ0_isLatin1_aae02 7 = .ok (.getfield 15, 3) := by decide +kernel
theorem dJ0_isLatin1_aae02_10 : decode cJ0_isLatin1_aae02 10 = .ok (.ifCond .ne 7, 3) := by decide +kernel
theorem dJ0_isLatin1_aae02_13 : decode cJ0_isLatin1_aae02 13 = .ok (.iconst 1, 1) := by decide +kernel
theorem dJ0_isLatin1_aae02_14 : decode cJ0_isLatin1_aae02 14 = .ok (.goto 4, 3) := by decide +kernel
theorem dJ0_isLatin1_aae02_17 : decode cJ0_isLatin1_aae02 17 = .ok (.iconst 0, 1) := by decide +kernel
theorem dJ0_isLatin1_aae02_18 : decode cJ0_isLatin1_aae02 18 = .ok (.ireturn, 1) := by decide +kernel
theorem dJ0_checkIndex_df160_0 : decode cJ0_checkIndex_df160 0 = .ok (.iload_n 0, 1) := by decide +kernel
theorem dJ0_checkIndex_df160_1 : decode cJ0_checkIndex_df160 1 = .ok (.iload_n 1, 1) := by decide +kernel
theorem dJ0_checkIndex_df160_2 : decode cJ0_checkIndex_df160 2 = .ok (.getstatic 1053, 3) := by decide +kernel
theorem dJ0_checkIndex_df160_5 : decode cJ0_checkIndex_df160 5 = .ok (.invokestatic 1059, 3) := by decide +kernel
theorem dJ0_checkIndex_df160_8 : decode cJ0_checkIndex_df160 8 = .ok (.pop, 1) := by decide +kernel
theorem dJ0_checkIndex_df160_9 : decode cJ0_checkIndex_df160 9 = .ok (.return_, 1) := by decide +kernel
theorem dJ1_charAt_3b067_0 : decode cJ1_charAt_3b067 0 = .ok (.iload_n 1, 1) := by decide +kernel
theorem dJ1_charAt_3b067_1 : decode cJ1_charAt_3b067 1 = .ok (.aload_n 0, 1) := by decide +kernel
theorem dJ1_charAt_3b067_2 : decode cJ1_charAt_3b067 2 = .ok (.arraylength, 1) := by decide +kernel
theorem dJ1_charAt_3b067_3 : decode cJ1_charAt_3b067 3 = .ok (.invokestatic 9, 3) := by decide +kernel
theorem dJ1_charAt_3b067_6 : decode cJ1_charAt_3b067 6 = .ok (.aload_n 0, 1) := by decide +kernel
theorem dJ1_charAt_3b067_7 : decode cJ1_charAt_3b067 7 = .ok (.iload_n 1, 1) := by decide +kernel
theorem dJ1_charAt_3b067_8 : decode cJ1_charAt_3b067 8 = .ok (.baload, 1) := by decide +kernel
theorem dJ1_charAt_3b067_9 : decode cJ1_charAt_3b067 9 = .ok (.sipush 255, 3) := by decide +kernel
theorem dJ1_charAt_3b067_12 : decode cJ1_charAt_3b067 12 = .ok (.iand, 1) := by decide +kernel
theorem dJ1_charAt_3b067_13 : decode cJ1_charAt_3b067 13 = .ok (.i2c, 1) := by decide +kernel
theorem dJ1_charAt_3b067_14 : decode cJ1_charAt_3b067 14 = .ok (.ireturn, 1) := by decide +kernel
theorem dJ2_getChar_3b067_0 : decode cJ2_getChar_3b067 0 = .ok (.getstatic 44, 3) := by decide +kernel
theorem dJ2_getChar_3b067_3 : decode cJ2_getChar_3b067 3 = .ok (.ifCond .ne 25, 3) := by decide +kernel
theorem dJ2_getChar_3b067_6 : decode cJ2_getChar_3b067 6 = .ok (.iload_n 1, 1) := by decide +kernel
theorem dJ2_getChar_3b067_7 : decode cJ2_getChar_3b067 7 = .ok (.ifCond .lt 11, 3) := by decide +kernel
theorem dJ2_getChar_3b067_10 : decode cJ2_getChar_3b067 10 = .ok (.iload_n 1, 1) := by decide +kernel
theorem dJ2_getChar_3b067_11 : decode cJ2_getChar_3b067 11 = .ok (.aload_n 0, 1) := by decide +kernel
theorem dJ2_getChar_3b067_12 : decode cJ2_getChar_3b067 12 = .ok (.invokestatic 48, 3) := by decide +kernel
theorem dJ2_getChar_3b067_15 : decode cJ2_getChar_3b067 15 = .ok (.if_icmp .lt 13, 3) := by decide +kernel
theorem dJ2_getChar_3b067_18 : decode cJ2_getChar_3b067 18 = .ok (.new 52, 3) := by decide +kernel
theorem dJ2_getChar_3b067_21 : decode cJ2_getChar_3b067 21 = .ok (.dup, 1) := by decide +kernel
theorem dJ2_getChar_3b067_22 : decode cJ2_getChar_3b067 22 = .ok (.ldc 54, 2) := by decide +kernel
theorem dJ2_getChar_3b067_24 : decode cJ2_getChar_3b067 24 = .ok (.invokespecial 56, 3) := by decide +kernel
theorem dJ2_getChar_3b067_27 : decode cJ2_getChar_3b067 27 = .ok (.athrow, 1) := by decide +kernel
theorem dJ2_getChar_3b067_28 : decode cJ2_getChar_3b067 28 = .ok (.iload_n 1, 1) := by decide +kernel
theorem dJ2_getChar_3b067_29 : decode cJ2_getChar_3b067 29 = .ok (.iconst 1, 1) := by decide +kernel
theorem dJ2_getChar_3b067_30 : decode cJ2_getChar_3b067 30 = .ok (.ishl, 1) := by decide +kernel
theorem dJ2_getChar_3b067_31 : decode cJ2_getChar_3b067 31 = .ok (.istore_n 1, 1) := by decide +kernel
theorem dJ2_getChar_3b067_32 : decode cJ2_getChar_3b067 32 = .ok (.aload_n 0, 1) := by decide +kernel
theorem dJ2_getChar_3b067_33 : decode cJ2_getChar_3b067 33 = .ok (.iload_n 1, 1) := by decide +kernel
theorem dJ2_getChar_3b067_34 : decode cJ2_getChar_3b067 34 = .ok (.iinc 1 1, 3) := by decide +kernel
theorem dJ2_getChar_3b067_37 : decode cJ2_getChar_3b067 37 = .ok (.baload, 1) := by decide +kernel
theorem dJ2_getChar_3b067_38 : decode cJ2_getChar_3b067 38 = .ok (.sipush 255, 3) := by decide +kernel
theorem dJ2_getChar_3b067_41 : decode cJ2_getChar_3b067 41 = .ok (.iand, 1) := by decide +kernel
theorem dJ2_getChar_3b067_42 : decode cJ2_getChar_3b067 42 = .ok (.getstatic 59, 3) := by decide +kernel
theorem dJ2_getChar_3b067_45 : decode cJ2_getChar_3b067 45 = .ok (.ishl, 1) := by decide +kernel
theorem dJ2_getChar_3b067_46 : decode cJ2_getChar_3b067 46 = .ok (.aload_n 0, 1) := by decide +kernel
theorem dJ2_getChar_3b067_47 : decode cJ2_getChar_3b067 47 = .ok (.iload_n 1, 1) := by decide +kernel
theorem dJ2_getChar_3b067_48 : decode cJ2_getChar_3b067 48 = .ok (.baload, 1) := by decide +kernel
theorem dJ2_getChar_3b067_49 : decode cJ2_getChar_3b067 49 = .ok (.sipush 255, 3) := by decide +kernel
theorem dJ2_getChar_3b067_52 : decode cJ2_getChar_3b067 52 = .ok (.iand, 1) := by decide +kernel
theorem dJ2_getChar_3b067_53 : decode cJ2_getChar_3b067 53 = .ok (.getstatic 63, 3) := by decide +kernel
theorem dJ2_getChar_3b067_56 : decode cJ2_getChar_3b067 56 = .ok (.ishl, 1) := by decide +kernel
theorem dJ2_getChar_3b067_57 : decode cJ2_getChar_3b067 57 = .ok (.ior, 1) := by decide +kernel
theorem dJ2_getChar_3b067_58 : decode cJ2_getChar_3b067 58 = .ok (.i2c, 1) := by decide +kernel
theorem dJ2_getChar_3b067_59 : decode cJ2_getChar_3b067 59 = .ok (.ireturn, 1) := by decide +kernel
theorem dJ2_length_9d52b_0 : decode cJ2_length_9d52b 0 = .ok (.aload_n 0, 1) := by decide +kernel
theorem dJ2_length_9d52b_1 : decode cJ2_length_9d52b 1 = .ok (.arraylength, 1) := by decide +kernel
theorem dJ2_length_9d52b_2 : decode cJ2_length_9d52b 2 = .ok (.iconst 1, 1) := by decide +kernel
theorem dJ2_length_9d52b_3 : decode cJ2_length_9d52b 3 = .ok (.ishr, 1) := by decide +kernel
theorem dJ2_length_9d52b_4 : decode cJ2_length_9d52b 4 = .ok (.ireturn, 1) := by decide +kernel
theorem dJ2_charAt_3b067_0 : decode cJ2_charAt_3b067 0 = .ok (.iload_n 1, 1) := by decide +kernel
theorem dJ2_charAt_3b067_1 : decode cJ2_charAt_3b067 1 = .ok (.aload_n 0, 1) := by decide +kernel
theorem dJ2_charAt_3b067_2 : decode cJ2_charAt_3b067 2 = .ok (.invokestatic 67, 3) := by decide +kernel
theorem dJ2_charAt_3b067_5 : decode cJ2_charAt_3b067 5 = .ok (.aload_n 0, 1) := by decide +kernel
theorem dJ2_charAt_3b067_6 : decode cJ2_charAt_3b067 6 = .ok (.iload_n 1, 1) := by decide +kernel
theorem dJ2_charAt_3b067_7 : decode cJ2_charAt_3b067 7 = .ok (.invokestatic 71, 3) := by decide +kernel
theorem dJ2_charAt_3b067_10 : decode cJ2_charAt_3b067 10 = .ok (.ireturn, 1) := by decide +kernel
theorem dJ2_checkIndex_2214a_0 : decode cJ2_checkIndex_2214a 0 = .ok (.iload_n 0, 1) := by decide +kernel
theorem dJ2_checkIndex_2214a_1 : decode cJ2_checkIndex_2214a 1 = .ok (.aload_n 1, 1) := by decide +kernel
theorem dJ2_checkIndex_2214a_2 : decode cJ2_checkIndex_2214a 2 = .ok (.invokestatic 48, 3) := by decide +kernel
theorem dJ2_checkIndex_2214a_5 : decode cJ2_checkIndex_2214a 5 = .ok (.invokestatic 414, 3) := by decide +kernel
theorem dJ2_checkIndex_2214a_8 : decode cJ2_checkIndex_2214a 8 = .ok (.return_, 1) := by decide +kernel
theorem dJ3_checkIndex_8e157_0 : decode cJ3_checkIndex_8e157 0 = .ok (.iload_n 0, 1) := by decide +kernel
theorem dJ3_checkIndex_8e157_1 : decode cJ3_checkIndex_8e157 1 = .ok (.ifCond .lt 8, 3) := by decide +kernel
theorem dJ3_checkIndex_8e157_4 : decode cJ3_checkIndex_8e157 4 = .ok (.iload_n 0, 1) := by decide +kernel
theorem dJ3_checkIndex_8e157_5 : decode cJ3_checkIndex_8e157 5 = .ok (.iload_n 1, 1) := by decide +kernel
theorem dJ3_checkIndex_8e157_6 : decode cJ3_checkIndex_8e157 6 = .ok (.if_icmp .lt 10, 3) := by decide +kernel
theorem dJ3_checkIndex_8e157_9 : decode cJ3_checkIndex_8e157 9 = .ok (.aload_n 2, 1) := by decide +kernel
theorem dJ3_checkIndex_8e157_10 : decode cJ3_checkIndex_8e157 10 = .ok (.iload_n 0, 1) := by decide +kernel
theorem dJ3_checkIndex_8e157_11 : decode cJ3_checkIndex_8e157 11 = .ok (.iload_n 1, 1) := by decide +kernel
theorem dJ3_checkIndex_8e157_12 : decode cJ3_checkIndex_8e157 12 = .ok (.invokestatic 95, 3) := by decide +kernel
theorem dJ3_checkIndex_8e157_15 : decode cJ3_checkIndex_8e157 15 = .ok (.athrow, 1) := by decide +kernel
theorem dJ3_checkIndex_8e157_16 : decode cJ3_checkIndex_8e157 16 = .ok (.iload_n 0, 1) := by decide +kernel
theorem dJ3_checkIndex_8e157_17 : decode cJ3_checkIndex_8e157 17 = .ok (.ireturn, 1) := by decide +kernel
end
section
theorem dX4_init_0 : decode cX4_init 0 = .ok (.aload_n 0, 1) := by decide +kernel
theorem dX4_init_1 : decode cX4_init 1 = .ok (.invokespecial 1, 3) := by decide +kernel
theorem dX4_init_4 : decode cX4_init 4 = .ok (.aload_n 0, 1) := by decide +kernel
theorem dX4_init_5 : decode cX4_init 5 = .ok (.sipush 241, 3) := by decide +kernel
theorem dX4_init_8 : decode cX4_init 8 = .ok (.newarray .int, 2) := by decide +kernel
theorem dX4_init_10 : decode cX4_init 10 = .ok (.putfield 7, 3) := by decide +kernel
theorem dX4_init_13 : decode cX4_init 13 = .ok (.aload_n 0, 1) := by decide +kernel
theorem dX4_init_14 : decode cX4_init 14 = .ok (.sipush 241, 3) := by decide +kernel
theorem dX4_init_17 : decode cX4_init 17 = .ok (.newarray .int, 2) := by decide +kernel
theorem dX4_init_19 : decode cX4_init 19 = .ok (.putfield 13, 3) := by decide +kernel
theorem dX4_init_22 : decode cX4_init 22 = .ok (.aload_n 0, 1) := by decide +kernel
theorem dX4_init_23 : decode cX4_init 23 = .ok (.sipush 1205, 3) := by decide +kernel
theorem dX4_init_26 : decode cX4_init 26 = .ok (.newarray .int, 2) := by decide +kernel
theorem dX4_init_28 : decode cX4_init 28 = .ok (.putfield 16, 3) := by decide +kernel
theorem dX4_init_31 : decode cX4_init 31 = .ok (.aload_n 0, 1) := by decide +kernel
theorem dX4_init_32 : decode cX4_init 32 = .ok (.sipush 160, 3) := by decide +kernel
theorem dX4_init_35 : decode cX4_init 35 = .ok (.newarray .int, 2) := by decide +kernel
theorem dX4_init_37 : decode cX4_init 37 = .ok (.putfield 19, 3) := by decide +kernel
theorem dX4_init_40 : decode cX4_init 40 = .ok (.aload_n 0, 1) := by decide +kernel
theorem dX4_init_41 : decode cX4_init 41 = .ok (.bipush 12, 2) := by decide +kernel
theorem dX4_init_43 : decode cX4_init 43 = .ok (.newarray .boolean, 2) := by decide +kernel
theorem dX4_init_45 : decode cX4_init 45 = .ok (.putfield 22, 3) := by decide +kernel
theorem dX4_init_48 : decode cX4_init 48 = .ok (.aload_n 0, 1) := by decide +kernel
theorem dX4_init_49 : decode cX4_init 49 = .ok (.iconst 0, 1) := by decide +kernel
theorem dX4_init_50 : decode cX4_init 50 = .ok (.putfield 26, 3) := by decide +kernel
theorem dX4_init_53 : decode cX4_init 53 = .ok (.aload_n 0, 1) := by decide +kernel
theorem dX4_init_54 : decode cX4_init 54 = .ok (.getfield 7, 3) := by decide +kernel
theorem dX4_init_57 : decode cX4_init 57 = .ok (.iconst 2, 1) := by decide +kernel
theorem dX4_init_58 : decode cX4_init 58 = .ok (.bipush 100, 2) := by decide +kernel
theorem dX4_init_60 : decode cX4_init 60 = .ok (.iastore, 1) := by decide +kernel
theorem dX4_init_61 : decode cX4_init 61 = .ok (.return_, 1) := by decide +kernel
theorem dX4_in_0 : decode cX4_in 0 = .ok (.lload_n 0, 1) := by decide +kernel
theorem dX4_in_1 : decode cX4_in 1 = .ok (.lload_n 2, 1) := by decide +kernel
theorem dX4_in_2 : decode cX4_in 2 = .ok (.lcmp, 1) := by decide +kernel
theorem dX4_in_3 : decode cX4_in 3 = .ok (.ifCond .lt 14, 3) := by decide +kernel
theorem dX4_in_6 : decode cX4_in 6 = .ok (.lload_n 0, 1) := by decide +kernel
theorem dX4_in_7 : decode cX4_in 7 = .ok (.lload 4, 2) := by decide +kernel
theorem dX4_in_9 : decode cX4_in 9 = .ok (.lcmp, 1) := by decide +kernel
theorem dX4_in_10 : decode cX4_in 10 = .ok (.ifCond .gt 7, 3) := by decide +kernel
theorem dX4_in_13 : decode cX4_in 13 = .ok (.iconst 1, 1) := by decide +kernel
theorem dX4_in_14 : decode cX4_in 14 = .ok (.goto 4, 3) := by decide +kernel
theorem dX4_in_17 : decode cX4_in 17 = .ok (.iconst 0, 1) := by decide +kernel
theorem dX4_in_18 : decode cX4_in 18 = .ok (.ireturn, 1) := by decide +kernel
theorem dX4_less_0 : decode cX4_less 0 = .ok (.iload_n 0, 1) := by decide +kernel
theorem dX4_less_1 : decode cX4_less 1 = .ok (.iload_n 1, 1) := by decide +kernel
theorem dX4_less_2 : decode cX4_less 2 = .ok (.if_icmp .ge 7, 3) := by decide +kernel
theorem dX4_less_5 : decode cX4_less 5 = .ok (.iload_n 0, 1) := by decide +kernel
theorem dX4_less_6 : decode cX4_less 6 = .ok (.goto 4, 3) := by decide +kernel
theorem dX4_less_9 : decode cX4_less 9 = .ok (.iload_n 1, 1) := by decide +kernel
theorem dX4_less_10 : decode cX4_less 10 = .ok (.ireturn, 1) := by decide +kernel
theorem dX4_more_0 : decode cX4_more 0 = .ok (.iload_n 0, 1) := by decide +kernel
theorem dX4_more_1 : decode cX4_more 1 = .ok (.iload_n 1, 1) := by decide +kernel
theorem dX4_more_2 : decode cX4_more 2 = .ok (.if_icmp .le 7, 3) := by decide +kernel
theorem dX4_more_5 : decode cX4_more 5 = .ok (.iload_n 0, 1) := by decide +kernel
theorem dX4_more_6 : decode cX4_more 6 = .ok (.goto 4, 3) := by decide +kernel
theorem dX4_more_9 : decode cX4_more 9 = .ok (.iload_n 1, 1) := by decide +kernel
theorem dX4_more_10 : decode cX4_more 10 = .ok (.ireturn, 1) := by decide +kernel
theorem dX4_act_0 : decode cX4_act 0 = .ok (.aload_n 0, 1) := by decide +kernel
theorem dX4_act_1 : decode cX4_act 1 = .ok (.getfield 30, 3) := by decide +kernel
theorem dX4_act_4 : decode cX4_act 4 = .ok (.iconst 5, 1) := by decide +kernel
theorem dX4_act_5 : decode cX4_act 5 = .ok (.if_icmp .ne 44, 3) := by decide +kernel
theorem dX4_act_8 : decode cX4_act 8 = .ok (.iconst 0, 1) := by decide +kernel
theorem dX4_act_9 : decode cX4_act 9 = .ok (.istore_n 1, 1) := by decide +kernel
theorem dX4_act_10 : decode cX4_act 10 = .ok (.iload_n 1, 1) := by decide +kernel
theorem dX4_act_11 : decode cX4_act 11 = .ok (.sipush 964, 3) := by decide +kernel
theorem dX4_act_14 : decode cX4_act 14 = .ok (.if_icmp .ge 25, 3) := by decide +kernel
theorem dX4_act_17 : decode cX4_act 17 = .ok (.aload_n 0, 1) := by decide +kernel
theorem dX4_act_18 : decode cX4_act 18 = .ok (.getfield 16, 3) := by decide +kernel
theorem dX4_act_21 : decode cX4_act 21 = .ok (.iload_n 1, 1) := by decide +kernel
theorem dX4_act_22 : decode cX4_act 22 = .ok (.aload_n 0, 1) := by decide +kernel
theorem dX4_act_23 : decode cX4_act 23 = .ok (.getfield 16, 3) := by decide +kernel
theorem dX4_act_26 : decode cX4_act 26 = .ok (.iload_n 1, 1) := by decide +kernel
theorem dX4_act_27 : decode cX4_act 27 = .ok (.sipush 241, 3) := by decide +kernel
theorem dX4_act_30 : decode cX4_act 30 = .ok (.iadd, 1) := by decide +kernel
theorem dX4_act_31 : decode cX4_act 31 = .ok (.iaload, 1) := by decide +kernel
theorem dX4_act_32 : decode cX4_act 32 = .ok (.iastore, 1) := by decide +kernel
theorem dX4_act_33 : decode cX4_act 33 = .ok (.iinc 1 1, 3) := by decide +kernel
theorem dX4_act_36 : decode cX4_act 36 = .ok (.goto (-26), 3) := by decide +kernel
theorem dX4_act_39 : decode cX4_act 39 = .ok (.aload_n 0, 1) := by decide +kernel
theorem dX4_act_40 : decode cX4_act 40 = .ok (.dup, 1) := by decide +kernel
theorem dX4_act_41 : decode cX4_act 41 = .ok (.getfield 30, 3) := by decide +kernel
theorem dX4_act_44 : decode cX4_act 44 = .ok (.iconst 1, 1) := by decide +kernel
theorem dX4_act_45 : decode cX4_act 45 = .ok (.isub, 1) := by decide +kernel
theorem dX4_act_46 : decode cX4_act 46 = .ok (.putfield 30, 3) := by decide +kernel
theorem dX4_act_49 : decode cX4_act 49 = .ok (.iconst 0, 1) := by decide +kernel
theorem dX4_act_50 : decode cX4_act 50 = .ok (.istore_n 1, 1) := by decide +kernel
theorem dX4_act_51 : decode cX4_act 51 = .ok (.iload_n 1, 1) := by decide +kernel
theorem dX4_act_52 : decode cX4_act 52 = .ok (.sipush 241, 3) := by decide +kernel
theorem dX4_act_55 : decode cX4_act 55 = .ok (.if_icmp .ge 30, 3) := by decide +kernel
theorem dX4_act_58 : decode cX4_act 58 = .ok (.aload_n 0, 1) := by decide +kernel
theorem dX4_act_59 : decode cX4_act 59 = .ok (.getfield 16, 3) := by decide +kernel
theorem dX4_act_62 : decode cX4_act 62 = .ok (.sipush 241, 3) := by decide +kernel
theorem dX4_act_65 : decode cX4_act 65 = .ok (.aload_n 0, 1) := by decide +kernel
theorem dX4_act_66 : decode cX4_act 66 = .ok (.getfield 30, 3) := by decide +kernel
theorem dX4_act_69 : decode cX4_act 69 = .ok (.imul, 1) := by decide +kernel
theorem dX4_act_70 : decode cX4_act 70 = .ok (.iload_n 1, 1) := by decide +kernel
theorem dX4_act_71 : decode cX4_act 71 = .ok (.iadd, 1) := by decide +kernel
theorem dX4_act_72 : decode cX4_act 72 = .ok (.aload_n 0, 1) := by decide +kernel
theorem dX4_act_73 : decode cX4_act 73 = .ok (.getfield 7, 3) := by decide +kernel
theorem dX4_act_76 : decode cX4_act 76 = .ok (.iload_n 1, 1) := by decide +kernel
theorem dX4_act_77 : decode cX4_act 77 = .ok (.iaload, 1) := by decide +kernel
theorem dX4_act_78 : decode cX4_act 78 = .ok (.iastore, 1) := by decide +kernel
theorem dX4_act_79 : decode cX4_act 79 = .ok (.iinc 1 1, 3) := by decide +kernel
theorem dX4_act_82 : decode cX4_act 82 = .ok (.goto (-31), 3) := by decide +kernel
theorem dX4_act_85 : decode cX4_act 85 = .ok (.aload_n 0, 1) := by decide +kernel
theorem dX4_act_86 : decode cX4_act 86 = .ok (.dup, 1) := by decide +kernel
theorem dX4_act_87 : decode cX4_act 87 = .ok (.getfield 30, 3) := by decide +kernel
theorem dX4_act_90 : decode cX4_act 90 = .ok (.iconst 1, 1) := by decide +kernel
theorem dX4_act_91 : decode cX4_act 91 = .ok (.iadd, 1) := by decide +kernel
theorem dX4_act_92 : decode cX4_act 92 = .ok (.putfield 30, 3) := by decide +kernel
theorem dX4_act_95 : decode cX4_act 95 = .ok (.return_, 1) := by decide +kernel
theorem dX4_isWord_0 : decode cX4_isWord 0 = .ok (.iload_n 1, 1) := by decide +kernel
theorem dX4_isWord_1 : decode cX4_isWord 1 = .ok (.i2l, 1) := by decide +kernel
theorem dX4_isWord_2 : decode cX4_isWord 2 = .ok (.lconst 0, 1) := by decide +kernel
theorem dX4_isWord_3 : decode cX4_isWord 3 = .ok (.aload_n 0, 1) := by decide +kernel
theorem dX4_isWord_4 : decode cX4_isWord 4 = .ok (.getfield 7, 3) := by decide +kernel
theorem dX4_isWord_7 : decode cX4_isWord 7 = .ok (.iconst 0, 1) := by decide +kernel
theorem dX4_isWord_8 : decode cX4_isWord 8 = .ok (.iaload, 1) := by decide +kernel
theorem dX4_isWord_9 : decode cX4_isWord 9 = .ok (.iconst 1, 1) := by decide +kernel
theorem dX4_isWord_10 : decode cX4_isWord 10 = .ok (.isub, 1) := by decide +kernel
theorem dX4_isWord_11 : decode cX4_isWord 11 = .ok (.i2l, 1) := by decide +kernel
theorem dX4_isWord_12 : decode cX4_isWord 12 = .ok (.invokestatic 33, 3) := by decide +kernel
theorem dX4_isWord_15 : decode cX4_isWord 15 = .ok (.ireturn, 1) := by decide +kernel
theorem dX4_of_0 : decode cX4_of 0 = .ok (.aload_n 0, 1) := by decide +kernel
theorem dX4_of_1 : decode cX4_of 1 = .ok (.getfield 7, 3) := by decide +kernel
theorem dX4_of_4 : decode cX4_of 4 = .ok (.bipush 13, 2) := by decide +kernel
theorem dX4_of_6 : decode cX4_of 6 = .ok (.bipush 19, 2) := by decide +kernel
theorem dX4_of_8 : decode cX4_of 8 = .ok (.iload_n 1, 1) := by decide +kernel
theorem dX4_of_9 : decode cX4_of 9 = .ok (.imul, 1) := by decide +kernel
theorem dX4_of_10 : decode cX4_of 10 = .ok (.iadd, 1) := by decide +kernel
theorem dX4_of_11 : decode cX4_of 11 = .ok (.iload_n 2, 1) := by decide +kernel
theorem dX4_of_12 : decode cX4_of 12 = .ok (.iadd, 1) := by decide +kernel
theorem dX4_of_13 : decode cX4_of 13 = .ok (.iaload, 1) := by decide +kernel
theorem dX4_of_14 : decode cX4_of 14 = .ok (.ireturn, 1) := by decide +kernel
theorem dX4_set_0 : decode cX4_set 0 = .ok (.aload_n 0, 1) := by decide +kernel
theorem dX4_set_1 : decode cX4_set 1 = .ok (.getfield 7, 3) := by decide +kernel
theorem dX4_set_4 : decode cX4_set 4 = .ok (.bipush 13, 2) := by decide +kernel
theorem dX4_set_6 : decode cX4_set 6 = .ok (.bipush 19, 2) := by decide +kernel
theorem dX4_set_8 : decode cX4_set 8 = .ok (.iload_n 1, 1) := by decide +kernel
theorem dX4_set_9 : decode cX4_set 9 = .ok (.imul, 1) := by decide +kernel
theorem dX4_set_10 : decode cX4_set 10 = .ok (.iadd, 1) := by decide +kernel
theorem dX4_set_11 : decode cX4_set 11 = .ok (.iload_n 2, 1) := by decide +kernel
theorem dX4_set_12 : decode cX4_set 12 = .ok (.iadd, 1) := by decide +kernel
theorem dX4_set_13 : decode cX4_set 13 = .ok (.iload_n 3, 1) := by decide +kernel
theorem dX4_set_14 : decode cX4_set 14 = .ok (.iastore, 1) := by decide +kernel
theorem dX4_set_15 : decode cX4_set 15 = .ok (.return_, 1) := by decide +kernel
theorem dX4_isPut_0 : decode cX4_isPut 0 = .ok (.aload_n 0, 1) := by decide +kernel
theorem dX4_isPut_1 : decode cX4_isPut 1 = .ok (.iload_n 1, 1) := by decide +kernel
theorem dX4_isPut_2 : decode cX4_isPut 2 = .ok (.iconst 4, 1) := by decide +kernel
theorem dX4_isPut_3 : decode cX4_isPut 3 = .ok (.invokevirtual 37, 3) := by decide +kernel
theorem dX4_isPut_6 : decode cX4_isPut 6 = .ok (.iconst (-1), 1) := by decide +kernel
theorem dX4_isPut_7 : decode cX4_isPut 7 = .ok (.if_icmp .eq 7, 3) := by decide +kernel
theorem dX4_isPut_10 : decode cX4_isPut 10 = .ok (.iconst 1, 1) := by decide +kernel
theorem dX4_isPut_11 : decode cX4_isPut 11 = .ok (.goto 4, 3) := by decide +kernel
theorem dX4_isPut_14 : decode cX4_isPut 14 = .ok (.iconst 0, 1) := by decide +kernel
theorem dX4_isPut_15 : decode cX4_isPut 15 = .ok (.ireturn, 1) := by decide +kernel
theorem dX4_putMany_0 : decode cX4_putMany 0 = .ok (.iconst 0, 1) := by decide +kernel
theorem dX4_putMany_1 : decode cX4_putMany 1 = .ok (.istore_n 1, 1) := by decide +kernel
theorem dX4_putMany_2 : decode cX4_putMany 2 = .ok (.iconst 0, 1) := by decide +kernel
theorem dX4_putMany_3 : decode cX4_putMany 3 = .ok (.istore_n 2, 1) := by decide +kernel
theorem dX4_putMany_4 : decode cX4_putMany 4 = .ok (.iload_n 2, 1) := by decide +kernel
theorem dX4_putMany_5 : decode cX4_putMany 5 = .ok (.aload_n 0, 1) := by decide +kernel
theorem dX4_putMany_6 : decode cX4_putMany 6 = .ok (.getfield 7, 3) := by decide +kernel
theorem dX4_putMany_9 : decode cX4_putMany 9 = .ok (.iconst 0, 1) := by decide +kernel
theorem dX4_putMany_10 : decode cX4_putMany 10 = .ok (.iaload, 1) := by decide +kernel
theorem dX4_putMany_11 : decode cX4_putMany 11 = .ok (.if_icmp .ge 25, 3) := by decide +kernel
theorem dX4_putMany_14 : decode cX4_putMany 14 = .ok (.iload_n 1, 1) := by decide +kernel
theorem dX4_putMany_15 : decode cX4_putMany 15 = .ok (.aload_n 0, 1) := by decide +kernel
theorem dX4_putMany_16 : decode cX4_putMany 16 = .ok (.iload_n 2, 1) := by decide +kernel
theorem dX4_putMany_17 : decode cX4_putMany 17 = .ok (.invokevirtual 41, 3) := by decide +kernel
theorem dX4_putMany_20 : decode cX4_putMany 20 = .ok (.ifCond .eq 7, 3) := by decide +kernel
theorem dX4_putMany_23 : decode cX4_putMany 23 = .ok (.iconst 1, 1) := by decide +kernel
theorem dX4_putMany_24 : decode cX4_putMany 24 = .ok (.goto 4, 3) := by decide +kernel
theorem dX4_putMany_27 : decode cX4_putMany 27 = .ok (.iconst 0, 1) := by decide +kernel
theorem dX4_putMany_28 : decode cX4_putMany 28 = .ok (.iadd, 1) := by decide +kernel
theorem dX4_putMany_29 : decode cX4_putMany 29 = .ok (.istore_n 1, 1) := by decide +kernel
theorem dX4_putMany_30 : decode cX4_putMany 30 = .ok (.iinc 2 1, 3) := by decide +kernel
theorem dX4_putMany_33 : decode cX4_putMany 33 = .ok (.goto (-29), 3) := by decide +kernel
theorem dX4_putMany_36 : decode cX4_putMany 36 = .ok (.iload_n 1, 1) := by decide +kernel
theorem dX4_putMany_37 : decode cX4_putMany 37 = .ok (.ireturn, 1) := by decide +kernel
theorem dX4_behind_0 : decode cX4_behind 0 = .ok (.aload_n 0, 1) := by decide +kernel
theorem dX4_behind_1 : decode cX4_behind 1 = .ok (.iload_n 1, 1) := by decide +kernel
theorem dX4_behind_2 : decode cX4_behind 2 = .ok (.iconst 0, 1) := by decide +kernel
theorem dX4_behind_3 : decode cX4_behind 3 = .ok (.invokevirtual 37, 3) := by decide +kernel
theorem dX4_behind_6 : decode cX4_behind 6 = .ok (.aload_n 0, 1) := by decide +kernel
theorem dX4_behind_7 : decode cX4_behind 7 = .ok (.iload_n 1, 1) := by decide +kernel
theorem dX4_behind_8 : decode cX4_behind 8 = .ok (.iconst 1, 1) := by decide +kernel
theorem dX4_behind_9 : decode cX4_behind 9 = .ok (.invokevirtual 37, 3) := by decide +kernel
theorem dX4_behind_12 : decode cX4_behind 12 = .ok (.iadd, 1) := by decide +kernel
theorem dX4_behind_13 : decode cX4_behind 13 = .ok (.aload_n 0, 1) := by decide +kernel
theorem dX4_behind_14 : decode cX4_behind 14 = .ok (.iload_n 1, 1) := by decide +kernel
theorem dX4_behind_15 : decode cX4_behind 15 = .ok (.iconst 2, 1) := by decide +kernel
theorem dX4_behind_16 : decode cX4_behind 16 = .ok (.invokevirtual 37, 3) := by decide +kernel
theorem dX4_behind_19 : decode cX4_behind 19 = .ok (.iadd, 1) := by decide +kernel
theorem dX4_behind_20 : decode cX4_behind 20 = .ok (.ireturn, 1) := by decide +kernel
theorem dX4_cut_0 : decode cX4_cut 0 = .ok (.sipush 4001, 3) := by decide +kernel
theorem dX4_cut_3 : decode cX4_cut 3 = .ok (.istore_n 2, 1) := by decide +kernel
theorem dX4_cut_4 : decode cX4_cut 4 = .ok (.aload_n 0, 1) := by decide +kernel
theorem dX4_cut_5 : decode cX4_cut 5 = .ok (.getfield 7, 3) := by decide +kernel
theorem dX4_cut_8 : decode cX4_cut 8 = .ok (.iconst 1, 1) := by decide +kernel
theorem dX4_cut_9 : decode cX4_cut 9 = .ok (.iaload, 1) := by decide +kernel
theorem dX4_cut_10 : decode cX4_cut 10 = .ok (.iconst 1, 1) := by decide +kernel
theorem dX4_cut_11 : decode cX4_cut 11 = .ok (.isub, 1) := by decide +kernel
theorem dX4_cut_12 : decode cX4_cut 12 = .ok (.istore_n 3, 1) := by decide +kernel
theorem dX4_cut_13 : decode cX4_cut 13 = .ok (.iload_n 3, 1) := by decide +kernel
theorem dX4_cut_14 : decode cX4_cut 14 = .ok (.ifCond .lt 39, 3) := by decide +kernel
theorem dX4_cut_17 : decode cX4_cut 17 = .ok (.aload_n 0, 1) := by decide +kernel
theorem dX4_cut_18 : decode cX4_cut 18 = .ok (.getfield 7, 3) := by decide +kernel
theorem dX4_cut_21 : decode cX4_cut 21 = .ok (.iconst 3, 1) := by decide +kernel
theorem dX4_cut_22 : decode cX4_cut 22 = .ok (.iload_n 3, 1) := by decide +kernel
theorem dX4_cut_23 : decode cX4_cut 23 = .ok (.iadd, 1) := by decide +kernel
theorem dX4_cut_24 : decode cX4_cut 24 = .ok (.iaload, 1) := by decide +kernel
theorem dX4_cut_25 : decode cX4_cut 25 = .ok (.aload_n 0, 1) := by decide +kernel
theorem dX4_cut_26 : decode cX4_cut 26 = .ok (.iload_n 1, 1) := by decide +kernel
theorem dX4_cut_27 : decode cX4_cut 27 = .ok (.iconst 0, 1) := by decide +kernel
theorem dX4_cut_28 : decode cX4_cut 28 = .ok (.invokevirtual 37, 3) := by decide +kernel
theorem dX4_cut_31 : decode cX4_cut 31 = .ok (.if_icmp .le 14, 3) := by decide +kernel
theorem dX4_cut_34 : decode cX4_cut 34 = .ok (.aload_n 0, 1) := by decide +kernel
theorem dX4_cut_35 : decode cX4_cut 35 = .ok (.getfield 7, 3) := by decide +kernel
theorem dX4_cut_38 : decode cX4_cut 38 = .ok (.iconst 3, 1) := by decide +kernel
theorem dX4_cut_39 : decode cX4_cut 39 = .ok (.iload_n 3, 1) := by decide +kernel
theorem dX4_cut_40 : decode cX4_cut 40 = .ok (.iadd, 1) := by decide +kernel
theorem dX4_cut_41 : decode cX4_cut 41 = .ok (.iaload, 1) := by decide +kernel
theorem dX4_cut_42 : decode cX4_cut 42 = .ok (.goto 4, 3) := by decide +kernel
theorem dX4_cut_45 : decode cX4_cut 45 = .ok (.iload_n 2, 1) := by decide +kernel
theorem dX4_cut_46 : decode cX4_cut 46 = .ok (.istore_n 2, 1) := by decide +kernel
theorem dX4_cut_47 : decode cX4_cut 47 = .ok (.iinc 3 (-1), 3) := by decide +kernel
theorem dX4_cut_50 : decode cX4_cut 50 = .ok (.goto (-37), 3) := by decide +kernel
theorem dX4_cut_53 : decode cX4_cut 53 = .ok (.iload_n 2, 1) := by decide +kernel
theorem dX4_cut_54 : decode cX4_cut 54 = .ok (.ireturn, 1) := by decide +kernel
theorem dX4_moved_0 : decode cX4_moved 0 = .ok (.iload_n 2, 1) := by decide +kernel
theorem dX4_moved_1 : decode cX4_moved 1 = .ok (.aload_n 0, 1) := by decide +kernel
theorem dX4_moved_2 : decode cX4_moved 2 = .ok (.iload_n 1, 1) := by decide +kernel
theorem dX4_moved_3 : decode cX4_moved 3 = .ok (.invokevirtual 45, 3) := by decide +kernel
theorem dX4_moved_6 : decode cX4_moved 6 = .ok (.isub, 1) := by decide +kernel
theorem dX4_moved_7 : decode cX4_moved 7 = .ok (.iconst 1, 1) := by decide +kernel
theorem dX4_moved_8 : decode cX4_moved 8 = .ok (.iadd, 1) := by decide +kernel
theorem dX4_moved_9 : decode cX4_moved 9 = .ok (.istore_n 3, 1) := by decide +kernel
theorem dX4_moved_10 : decode cX4_moved 10 = .ok (.aload_n 0, 1) := by decide +kernel
theorem dX4_moved_11 : decode cX4_moved 11 = .ok (.getfield 7, 3) := by decide +kernel
theorem dX4_moved_14 : decode cX4_moved 14 = .ok (.iconst 2, 1) := by decide +kernel
theorem dX4_moved_15 : decode cX4_moved 15 = .ok (.iaload, 1) := by decide +kernel
theorem dX4_moved_16 : decode cX4_moved 16 = .ok (.i2f, 1) := by decide +kernel
theorem dX4_moved_17 : decode cX4_moved 17 = .ok (.ldc 49, 2) := by decide +kernel
theorem dX4_moved_19 : decode cX4_moved 19 = .ok (.fdiv, 1) := by decide +kernel
theorem dX4_moved_20 : decode cX4_moved 20 = .ok (.fstore 4, 2) := by decide +kernel
theorem dX4_moved_22 : decode cX4_moved 22 = .ok (.iload_n 3, 1) := by decide +kernel
theorem dX4_moved_23 : decode cX4_moved 23 = .ok (.iconst 1, 1) := by decide +kernel
theorem dX4_moved_24 : decode cX4_moved 24 = .ok (.if_icmp .ge 7, 3) := by decide +kernel
theorem dX4_moved_27 : decode cX4_moved 27 = .ok (.iconst 0, 1) := by decide +kernel
theorem dX4_moved_28 : decode cX4_moved 28 = .ok (.goto 9, 3) := by decide +kernel
theorem dX4_moved_31 : decode cX4_moved 31 = .ok (.iload_n 3, 1) := by decide +kernel
theorem dX4_moved_32 : decode cX4_moved 32 = .ok (.i2f, 1) := by decide +kernel
theorem dX4_moved_33 : decode cX4_moved 33 = .ok (.fload 4, 2) := by decide +kernel
theorem dX4_moved_35 : decode cX4_moved 35 = .ok (.fmul, 1) := by decide +kernel
theorem dX4_moved_36 : decode cX4_moved 36 = .ok (.f2i, 1) := by decide +kernel
theorem dX4_moved_37 : decode cX4_moved 37 = .ok (.ireturn, 1) := by decide +kernel
theorem dX4_rowAt_0 : decode cX4_rowAt 0 = .ok (.aload_n 0, 1) := by decide +kernel
theorem dX4_rowAt_1 : decode cX4_rowAt 1 = .ok (.iload_n 1, 1) := by decide +kernel
theorem dX4_rowAt_2 : decode cX4_rowAt 2 = .ok (.iconst 3, 1) := by decide +kernel
theorem dX4_rowAt_3 : decode cX4_rowAt 3 = .ok (.invokevirtual 37, 3) := by decide +kernel
theorem dX4_rowAt_6 : decode cX4_rowAt 6 = .ok (.istore_n 3, 1) := by decide +kernel
theorem dX4_rowAt_7 : decode cX4_rowAt 7 = .ok (.aload_n 0, 1) := by decide +kernel
theorem dX4_rowAt_8 : decode cX4_rowAt 8 = .ok (.iload_n 1, 1) := by decide +kernel
theorem dX4_rowAt_9 : decode cX4_rowAt 9 = .ok (.iconst 4, 1) := by decide +kernel
theorem dX4_rowAt_10 : decode cX4_rowAt 10 = .ok (.invokevirtual 37, 3) := by decide +kernel
theorem dX4_rowAt_13 : decode cX4_rowAt 13 = .ok (.iload_n 3, 1) := by decide +kernel
theorem dX4_rowAt_14 : decode cX4_rowAt 14 = .ok (.iconst 3, 1) := by decide +kernel
theorem dX4_rowAt_15 : decode cX4_rowAt 15 = .ok (.if_icmp .ne 13, 3) := by decide +kernel
theorem dX4_rowAt_18 : decode cX4_rowAt 18 = .ok (.aload_n 0, 1) := by decide +kernel
theorem dX4_rowAt_19 : decode cX4_rowAt 19 = .ok (.iload_n 1, 1) := by decide +kernel
theorem dX4_rowAt_20 : decode cX4_rowAt 20 = .ok (.iload_n 2, 1) := by decide +kernel
theorem dX4_rowAt_21 : decode cX4_rowAt 21 = .ok (.invokevirtual 50, 3) := by decide +kernel
theorem dX4_rowAt_24 : decode cX4_rowAt 24 = .ok (.ineg, 1) := by decide +kernel
theorem dX4_rowAt_25 : decode cX4_rowAt 25 = .ok (.goto 18, 3) := by decide +kernel
theorem dX4_rowAt_28 : decode cX4_rowAt 28 = .ok (.iload_n 3, 1) := by decide +kernel
theorem dX4_rowAt_29 : decode cX4_rowAt 29 = .ok (.iconst 4, 1) := by decide +kernel
theorem dX4_rowAt_30 : decode cX4_rowAt 30 = .ok (.if_icmp .ne 12, 3) := by decide +kernel
theorem dX4_rowAt_33 : decode cX4_rowAt 33 = .ok (.aload_n 0, 1) := by decide +kernel
theorem dX4_rowAt_34 : decode cX4_rowAt 34 = .ok (.iload_n 1, 1) := by decide +kernel
theorem dX4_rowAt_35 : decode cX4_rowAt 35 = .ok (.iload_n 2, 1) := by decide +kernel
theorem dX4_rowAt_36 : decode cX4_rowAt 36 = .ok (.invokevirtual 50, 3) := by decide +kernel
theorem dX4_rowAt_39 : decode cX4_rowAt 39 = .ok (.goto 4, 3) := by decide +kernel
theorem dX4_rowAt_42 : decode cX4_rowAt 42 = .ok (.iconst 0, 1) := by decide +kernel
theorem dX4_rowAt_43 : decode cX4_rowAt 43 = .ok (.iadd, 1) := by decide +kernel
theorem dX4_rowAt_44 : decode cX4_rowAt 44 = .ok (.ireturn, 1) := by decide +kernel
theorem dX4_columnAt_0 : decode cX4_columnAt 0 = .ok (.aload_n 0, 1) := by decide +kernel
theorem dX4_columnAt_1 : decode cX4_columnAt 1 = .ok (.iload_n 1, 1) := by decide +kernel
theorem dX4_columnAt_2 : decode cX4_columnAt 2 = .ok (.iconst 3, 1) := by decide +kernel
theorem dX4_columnAt_3 : decode cX4_columnAt 3 = .ok (.invokevirtual 37, 3) := by decide +kernel
theorem dX4_columnAt_6 : decode cX4_columnAt 6 = .ok (.istore_n 3, 1) := by decide +kernel
theorem dX4_columnAt_7 : decode cX4_columnAt 7 = .ok (.aload_n 0, 1) := by decide +kernel
theorem dX4_columnAt_8 : decode cX4_columnAt 8 = .ok (.iload_n 1, 1) := by decide +kernel
theorem dX4_columnAt_9 : decode cX4_columnAt 9 = .ok (.iconst 5, 1) := by decide +kernel
theorem dX4_columnAt_10 : decode cX4_columnAt 10 = .ok (.invokevirtual 37, 3) := by decide +kernel
theorem dX4_columnAt_13 : decode cX4_columnAt 13 = .ok (.iload_n 3, 1) := by decide +kernel
theorem dX4_columnAt_14 : decode cX4_columnAt 14 = .ok (.iconst 1, 1) := by decide +kernel
theorem dX4_columnAt_15 : decode cX4_columnAt 15 = .ok (.if_icmp .ne 13, 3) := by decide +kernel
theorem dX4_columnAt_18 : decode cX4_columnAt 18 = .ok (.aload_n 0, 1) := by decide +kernel
theorem dX4_columnAt_19 : decode cX4_columnAt 19 = .ok (.iload_n 1, 1) := by decide +kernel
theorem dX4_columnAt_20 : decode cX4_columnAt 20 = .ok (.iload_n 2, 1) := by decide +kernel
theorem dX4_columnAt_21 : decode cX4_columnAt 21 = .ok (.invokevirtual 50, 3) := by decide +kernel
theorem dX4_columnAt_24 : decode cX4_columnAt 24 = .ok (.ineg, 1) := by decide +kernel
theorem dX4_columnAt_25 : decode cX4_columnAt 25 = .ok (.goto 18, 3) := by decide +kernel
theorem dX4_columnAt_28 : decode cX4_columnAt 28 = .ok (.iload_n 3, 1) := by decide +kernel
theorem dX4_columnAt_29 : decode cX4_columnAt 29 = .ok (.iconst 2, 1) := by decide +kernel
theorem dX4_columnAt_30 : decode cX4_columnAt 30 = .ok (.if_icmp .ne 12, 3) := by decide +kernel
theorem dX4_columnAt_33 : decode cX4_columnAt 33 = .ok (.aload_n 0, 1) := by decide +kernel
theorem dX4_columnAt_34 : decode cX4_columnAt 34 = .ok (.iload_n 1, 1) := by decide +kernel
theorem dX4_columnAt_35 : decode cX4_columnAt 35 = .ok (.iload_n 2, 1) := by decide +kernel
theorem dX4_columnAt_36 : decode cX4_columnAt 36 = .ok (.invokevirtual 50, 3) := by decide +kernel
theorem dX4_columnAt_39 : decode cX4_columnAt 39 = .ok (.goto 4, 3) := by decide +kernel
theorem dX4_columnAt_42 : decode cX4_columnAt 42 = .ok (.iconst 0, 1) := by decide +kernel
theorem dX4_columnAt_43 : decode cX4_columnAt 43 = .ok (.iadd, 1) := by decide +kernel
theorem dX4_columnAt_44 : decode cX4_columnAt 44 = .ok (.ireturn, 1) := by decide +kernel
theorem dX4_isOn_0 : decode cX4_isOn 0 = .ok (.aload_n 0, 1) := by decide +kernel
theorem dX4_isOn_1 : decode cX4_isOn 1 = .ok (.iload_n 1, 1) := by decide +kernel
theorem dX4_isOn_2 : decode cX4_isOn 2 = .ok (.invokevirtual 41, 3) := by decide +kernel
theorem dX4_isOn_5 : decode cX4_isOn 5 = .ok (.ifCond .eq 40, 3) := by decide +kernel
theorem dX4_isOn_8 : decode cX4_isOn 8 = .ok (.iload_n 2, 1) := by decide +kernel
theorem dX4_isOn_9 : decode cX4_isOn 9 = .ok (.aload_n 0, 1) := by decide +kernel
theorem dX4_isOn_10 : decode cX4_isOn 10 = .ok (.iload_n 1, 1) := by decide +kernel
theorem dX4_isOn_11 : decode cX4_isOn 11 = .ok (.iconst 0, 1) := by decide +kernel
theorem dX4_isOn_12 : decode cX4_isOn 12 = .ok (.invokevirtual 37, 3) := by decide +kernel
theorem dX4_isOn_15 : decode cX4_isOn 15 = .ok (.if_icmp .lt 30, 3) := by decide +kernel
theorem dX4_isOn_18 : decode cX4_isOn 18 = .ok (.iload_n 2, 1) := by decide +kernel
theorem dX4_isOn_19 : decode cX4_isOn 19 = .ok (.aload_n 0, 1) := by decide +kernel
theorem dX4_isOn_20 : decode cX4_isOn 20 = .ok (.iload_n 1, 1) := by decide +kernel
theorem dX4_isOn_21 : decode cX4_isOn 21 = .ok (.invokevirtual 53, 3) := by decide +kernel
theorem dX4_isOn_24 : decode cX4_isOn 24 = .ok (.if_icmp .ge 21, 3) := by decide +kernel
theorem dX4_isOn_27 : decode cX4_isOn 27 = .ok (.aload_n 0, 1) := by decide +kernel
theorem dX4_isOn_28 : decode cX4_isOn 28 = .ok (.iload_n 1, 1) := by decide +kernel
theorem dX4_isOn_29 : decode cX4_isOn 29 = .ok (.iconst 3, 1) := by decide +kernel
theorem dX4_isOn_30 : decode cX4_isOn 30 = .ok (.invokevirtual 37, 3) := by decide +kernel
theorem dX4_isOn_33 : decode cX4_isOn 33 = .ok (.ifCond .ne 14, 3) := by decide +kernel
theorem dX4_isOn_36 : decode cX4_isOn 36 = .ok (.iload_n 2, 1) := by decide +kernel
theorem dX4_isOn_37 : decode cX4_isOn 37 = .ok (.aload_n 0, 1) := by decide +kernel
theorem dX4_isOn_38 : decode cX4_isOn 38 = .ok (.iload_n 1, 1) := by decide +kernel
theorem dX4_isOn_39 : decode cX4_isOn 39 = .ok (.invokevirtual 45, 3) := by decide +kernel
theorem dX4_isOn_42 : decode cX4_isOn 42 = .ok (.if_icmp .lt 5, 3) := by decide +kernel
theorem dX4_isOn_45 : decode cX4_isOn 45 = .ok (.iconst 0, 1) := by decide +kernel
theorem dX4_isOn_46 : decode cX4_isOn 46 = .ok (.ireturn, 1) := by decide +kernel
theorem dX4_isOn_47 : decode cX4_isOn 47 = .ok (.aload_n 0, 1) := by decide +kernel
theorem dX4_isOn_48 : decode cX4_isOn 48 = .ok (.iload_n 1, 1) := by decide +kernel
theorem dX4_isOn_49 : decode cX4_isOn 49 = .ok (.iload_n 2, 1) := by decide +kernel
theorem dX4_isOn_50 : decode cX4_isOn 50 = .ok (.invokevirtual 56, 3) := by decide +kernel
theorem dX4_isOn_53 : decode cX4_isOn 53 = .ok (.istore_n 3, 1) := by decide +kernel
theorem dX4_isOn_54 : decode cX4_isOn 54 = .ok (.aload_n 0, 1) := by decide +kernel
theorem dX4_isOn_55 : decode cX4_isOn 55 = .ok (.iload_n 1, 1) := by decide +kernel
theorem dX4_isOn_56 : decode cX4_isOn 56 = .ok (.iload_n 2, 1) := by decide +kernel
theorem dX4_isOn_57 : decode cX4_isOn 57 = .ok (.invokevirtual 59, 3) := by decide +kernel
theorem dX4_isOn_60 : decode cX4_isOn 60 = .ok (.i2l, 1) := by decide +kernel
theorem dX4_isOn_61 : decode cX4_isOn 61 = .ok (.lconst 0, 1) := by decide +kernel
theorem dX4_isOn_62 : decode cX4_isOn 62 = .ok (.ldc2_w 62, 3) := by decide +kernel
theorem dX4_isOn_65 : decode cX4_isOn 65 = .ok (.invokestatic 33, 3) := by decide +kernel
theorem dX4_isOn_68 : decode cX4_isOn 68 = .ok (.ifCond .eq 25, 3) := by decide +kernel
theorem dX4_isOn_71 : decode cX4_isOn 71 = .ok (.iload_n 3, 1) := by decide +kernel
theorem dX4_isOn_72 : decode cX4_isOn 72 = .ok (.bipush 40, 2) := by decide +kernel
theorem dX4_isOn_74 : decode cX4_isOn 74 = .ok (.if_icmp .ge 19, 3) := by decide +kernel
theorem dX4_isOn_77 : decode cX4_isOn 77 = .ok (.iload_n 3, 1) := by decide +kernel
theorem dX4_isOn_78 : decode cX4_isOn 78 = .ok (.aload_n 0, 1) := by decide +kernel
theorem dX4_isOn_79 : decode cX4_isOn 79 = .ok (.iload_n 1, 1) := by decide +kernel
theorem dX4_isOn_80 : decode cX4_isOn 80 = .ok (.bipush 6, 2) := by decide +kernel
theorem dX4_isOn_82 : decode cX4_isOn 82 = .ok (.invokevirtual 37, 3) := by decide +kernel
theorem dX4_isOn_85 : decode cX4_isOn 85 = .ok (.iadd, 1) := by decide +kernel
theorem dX4_isOn_86 : decode cX4_isOn 86 = .ok (.ifCond .le 7, 3) := by decide +kernel
theorem dX4_isOn_89 : decode cX4_isOn 89 = .ok (.iconst 1, 1) := by decide +kernel
theorem dX4_isOn_90 : decode cX4_isOn 90 = .ok (.goto 4, 3) := by decide +kernel
theorem dX4_isOn_93 : decode cX4_isOn 93 = .ok (.iconst 0, 1) := by decide +kernel
theorem dX4_isOn_94 : decode cX4_isOn 94 = .ok (.ireturn, 1) := by decide +kernel
theorem dX4_meetsAt_0 : decode cX4_meetsAt 0 = .ok (.aload_n 0, 1) := by decide +kernel
theorem dX4_meetsAt_1 : decode cX4_meetsAt 1 = .ok (.iload_n 1, 1) := by decide +kernel
theorem dX4_meetsAt_2 : decode cX4_meetsAt 2 = .ok (.iload_n 3, 1) := by decide +kernel
theorem dX4_meetsAt_3 : decode cX4_meetsAt 3 = .ok (.invokevirtual 64, 3) := by decide +kernel
theorem dX4_meetsAt_6 : decode cX4_meetsAt 6 = .ok (.ifCond .eq 27, 3) := by decide +kernel
theorem dX4_meetsAt_9 : decode cX4_meetsAt 9 = .ok (.aload_n 0, 1) := by decide +kernel
theorem dX4_meetsAt_10 : decode cX4_meetsAt 10 = .ok (.iload_n 2, 1) := by decide +kernel
theorem dX4_meetsAt_11 : decode cX4_meetsAt 11 = .ok (.iload_n 3, 1) := by decide +kernel
theorem dX4_meetsAt_12 : decode cX4_meetsAt 12 = .ok (.invokevirtual 64, 3) := by decide +kernel
theorem dX4_meetsAt_15 : decode cX4_meetsAt 15 = .ok (.ifCond .eq 18, 3) := by decide +kernel
theorem dX4_meetsAt_18 : decode cX4_meetsAt 18 = .ok (.aload_n 0, 1) := by decide +kernel
theorem dX4_meetsAt_19 : decode cX4_meetsAt 19 = .ok (.iload_n 1, 1) := by decide +kernel
theorem dX4_meetsAt_20 : decode cX4_meetsAt 20 = .ok (.iload_n 3, 1) := by decide +kernel
theorem dX4_meetsAt_21 : decode cX4_meetsAt 21 = .ok (.invokevirtual 59, 3) := by decide +kernel
theorem dX4_meetsAt_24 : decode cX4_meetsAt 24 = .ok (.aload_n 0, 1) := by decide +kernel
theorem dX4_meetsAt_25 : decode cX4_meetsAt 25 = .ok (.iload_n 2, 1) := by decide +kernel
theorem dX4_meetsAt_26 : decode cX4_meetsAt 26 = .ok (.iload_n 3, 1) := by decide +kernel
theorem dX4_meetsAt_27 : decode cX4_meetsAt 27 = .ok (.invokevirtual 59, 3) := by decide +kernel
theorem dX4_meetsAt_30 : decode cX4_meetsAt 30 = .ok (.if_icmp .eq 5, 3) := by decide +kernel
theorem dX4_meetsAt_33 : decode cX4_meetsAt 33 = .ok (.iconst 0, 1) := by decide +kernel
theorem dX4_meetsAt_34 : decode cX4_meetsAt 34 = .ok (.ireturn, 1) := by decide +kernel
theorem dX4_meetsAt_35 : decode cX4_meetsAt 35 = .ok (.aload_n 0, 1) := by decide +kernel
theorem dX4_meetsAt_36 : decode cX4_meetsAt 36 = .ok (.iload_n 1, 1) := by decide +kernel
theorem dX4_meetsAt_37 : decode cX4_meetsAt 37 = .ok (.iload_n 3, 1) := by decide +kernel
theorem dX4_meetsAt_38 : decode cX4_meetsAt 38 = .ok (.invokevirtual 56, 3) := by decide +kernel
theorem dX4_meetsAt_41 : decode cX4_meetsAt 41 = .ok (.aload_n 0, 1) := by decide +kernel
theorem dX4_meetsAt_42 : decode cX4_meetsAt 42 = .ok (.iload_n 2, 1) := by decide +kernel
theorem dX4_meetsAt_43 : decode cX4_meetsAt 43 = .ok (.iload_n 3, 1) := by decide +kernel
theorem dX4_meetsAt_44 : decode cX4_meetsAt 44 = .ok (.invokevirtual 56, 3) := by decide +kernel
theorem dX4_meetsAt_47 : decode cX4_meetsAt 47 = .ok (.invokestatic 68, 3) := by decide +kernel
theorem dX4_meetsAt_50 : decode cX4_meetsAt 50 = .ok (.iconst 0, 1) := by decide +kernel
theorem dX4_meetsAt_51 : decode cX4_meetsAt 51 = .ok (.invokestatic 68, 3) := by decide +kernel
theorem dX4_meetsAt_54 : decode cX4_meetsAt 54 = .ok (.istore 4, 2) := by decide +kernel
theorem dX4_meetsAt_56 : decode cX4_meetsAt 56 = .ok (.aload_n 0, 1) := by decide +kernel
theorem dX4_meetsAt_57 : decode cX4_meetsAt 57 = .ok (.iload_n 1, 1) := by decide +kernel
theorem dX4_meetsAt_58 : decode cX4_meetsAt 58 = .ok (.iload_n 3, 1) := by decide +kernel
theorem dX4_meetsAt_59 : decode cX4_meetsAt 59 = .ok (.invokevirtual 56, 3) := by decide +kernel
theorem dX4_meetsAt_62 : decode cX4_meetsAt 62 = .ok (.aload_n 0, 1) := by decide +kernel
theorem dX4_meetsAt_63 : decode cX4_meetsAt 63 = .ok (.iload_n 1, 1) := by decide +kernel
theorem dX4_meetsAt_64 : decode cX4_meetsAt 64 = .ok (.bipush 6, 2) := by decide +kernel
theorem dX4_meetsAt_66 : decode cX4_meetsAt 66 = .ok (.invokevirtual 37, 3) := by decide +kernel
theorem dX4_meetsAt_69 : decode cX4_meetsAt 69 = .ok (.iadd, 1) := by decide +kernel
theorem dX4_meetsAt_70 : decode cX4_meetsAt 70 = .ok (.aload_n 0, 1) := by decide +kernel
theorem dX4_meetsAt_71 : decode cX4_meetsAt 71 = .ok (.iload_n 2, 1) := by decide +kernel
theorem dX4_meetsAt_72 : decode cX4_meetsAt 72 = .ok (.iload_n 3, 1) := by decide +kernel
theorem dX4_meetsAt_73 : decode cX4_meetsAt 73 = .ok (.invokevirtual 56, 3) := by decide +kernel
theorem dX4_meetsAt_76 : decode cX4_meetsAt 76 = .ok (.aload_n 0, 1) := by decide +kernel
theorem dX4_meetsAt_77 : decode cX4_meetsAt 77 = .ok (.iload_n 2, 1) := by decide +kernel
theorem dX4_meetsAt_78 : decode cX4_meetsAt 78 = .ok (.bipush 6, 2) := by decide +kernel
theorem dX4_meetsAt_80 : decode cX4_meetsAt 80 = .ok (.invokevirtual 37, 3) := by decide +kernel
theorem dX4_meetsAt_83 : decode cX4_meetsAt 83 = .ok (.iadd, 1) := by decide +kernel
theorem dX4_meetsAt_84 : decode cX4_meetsAt 84 = .ok (.invokestatic 71, 3) := by decide +kernel
theorem dX4_meetsAt_87 : decode cX4_meetsAt 87 = .ok (.bipush 40, 2) := by decide +kernel
theorem dX4_meetsAt_89 : decode cX4_meetsAt 89 = .ok (.invokestatic 71, 3) := by decide +kernel
theorem dX4_meetsAt_92 : decode cX4_meetsAt 92 = .ok (.istore 5, 2) := by decide +kernel
theorem dX4_meetsAt_94 : decode cX4_meetsAt 94 = .ok (.iload 4, 2) := by decide +kernel
theorem dX4_meetsAt_96 : decode cX4_meetsAt 96 = .ok (.iload 5, 2) := by decide +kernel
theorem dX4_meetsAt_98 : decode cX4_meetsAt 98 = .ok (.if_icmp .ge 7, 3) := by decide +kernel
theorem dX4_meetsAt_101 : decode cX4_meetsAt 101 = .ok (.iconst 1, 1) := by decide +kernel
theorem dX4_meetsAt_102 : decode cX4_meetsAt 102 = .ok (.goto 4, 3) := by decide +kernel
theorem dX4_meetsAt_105 : decode cX4_meetsAt 105 = .ok (.iconst 0, 1) := by decide +kernel
theorem dX4_meetsAt_106 : decode cX4_meetsAt 106 = .ok (.ireturn, 1) := by decide +kernel
theorem dX4_meetingOf_0 : decode cX4_meetingOf 0 = .ok (.aload_n 0, 1) := by decide +kernel
theorem dX4_meetingOf_1 : decode cX4_meetingOf 1 = .ok (.iload_n 1, 1) := by decide +kernel
theorem dX4_meetingOf_2 : decode cX4_meetingOf 2 = .ok (.iconst 0, 1) := by decide +kernel
theorem dX4_meetingOf_3 : decode cX4_meetingOf 3 = .ok (.invokevirtual 37, 3) := by decide +kernel
theorem dX4_meetingOf_6 : decode cX4_meetingOf 6 = .ok (.aload_n 0, 1) := by decide +kernel
theorem dX4_meetingOf_7 : decode cX4_meetingOf 7 = .ok (.iload_n 2, 1) := by decide +kernel
theorem dX4_meetingOf_8 : decode cX4_meetingOf 8 = .ok (.iconst 0, 1) := by decide +kernel
theorem dX4_meetingOf_9 : decode cX4_meetingOf 9 = .ok (.invokevirtual 37, 3) := by decide +kernel
theorem dX4_meetingOf_12 : decode cX4_meetingOf 12 = .ok (.invokestatic 68, 3) := by decide +kernel
theorem dX4_meetingOf_15 : decode cX4_meetingOf 15 = .ok (.istore_n 3, 1) := by decide +kernel
theorem dX4_meetingOf_16 : decode cX4_meetingOf 16 = .ok (.aload_n 0, 1) := by decide +kernel
theorem dX4_meetingOf_17 : decode cX4_meetingOf 17 = .ok (.iload_n 1, 1) := by decide +kernel
theorem dX4_meetingOf_18 : decode cX4_meetingOf 18 = .ok (.iload_n 3, 1) := by decide +kernel
theorem dX4_meetingOf_19 : decode cX4_meetingOf 19 = .ok (.invokevirtual 64, 3) := by decide +kernel
theorem dX4_meetingOf_22 : decode cX4_meetingOf 22 = .ok (.ifCond .eq 30, 3) := by decide +kernel
theorem dX4_meetingOf_25 : decode cX4_meetingOf 25 = .ok (.aload_n 0, 1) := by decide +kernel
theorem dX4_meetingOf_26 : decode cX4_meetingOf 26 = .ok (.iload_n 2, 1) := by decide +kernel
theorem dX4_meetingOf_27 : decode cX4_meetingOf 27 = .ok (.iload_n 3, 1) := by decide +kernel
theorem dX4_meetingOf_28 : decode cX4_meetingOf 28 = .ok (.invokevirtual 64, 3) := by decide +kernel
theorem dX4_meetingOf_31 : decode cX4_meetingOf 31 = .ok (.ifCond .eq 21, 3) := by decide +kernel
theorem dX4_meetingOf_34 : decode cX4_meetingOf 34 = .ok (.aload_n 0, 1) := by decide +kernel
theorem dX4_meetingOf_35 : decode cX4_meetingOf 35 = .ok (.iload_n 1, 1) := by decide +kernel
theorem dX4_meetingOf_36 : decode cX4_meetingOf 36 = .ok (.iload_n 2, 1) := by decide +kernel
theorem dX4_meetingOf_37 : decode cX4_meetingOf 37 = .ok (.iload_n 3, 1) := by decide +kernel
theorem dX4_meetingOf_38 : decode cX4_meetingOf 38 = .ok (.invokevirtual 74, 3) := by decide +kernel
theorem dX4_meetingOf_41 : decode cX4_meetingOf 41 = .ok (.ifCond .eq 5, 3) := by decide +kernel
theorem dX4_meetingOf_44 : decode cX4_meetingOf 44 = .ok (.iload_n 3, 1) := by decide +kernel
theorem dX4_meetingOf_45 : decode cX4_meetingOf 45 = .ok (.ireturn, 1) := by decide +kernel
theorem dX4_meetingOf_46 : decode cX4_meetingOf 46 = .ok (.iinc 3 1, 3) := by decide +kernel
theorem dX4_meetingOf_49 : decode cX4_meetingOf 49 = .ok (.goto (-33), 3) := by decide +kernel
theorem dX4_meetingOf_52 : decode cX4_meetingOf 52 = .ok (.bipush (-19), 2) := by decide +kernel
theorem dX4_meetingOf_54 : decode cX4_meetingOf 54 = .ok (.ireturn, 1) := by decide +kernel
theorem dX4_meetsAny_0 : decode cX4_meetsAny 0 = .ok (.iconst 0, 1) := by decide +kernel
theorem dX4_meetsAny_1 : decode cX4_meetsAny 1 = .ok (.istore_n 2, 1) := by decide +kernel
theorem dX4_meetsAny_2 : decode cX4_meetsAny 2 = .ok (.iconst 0, 1) := by decide +kernel
theorem dX4_meetsAny_3 : decode cX4_meetsAny 3 = .ok (.istore_n 3, 1) := by decide +kernel
theorem dX4_meetsAny_4 : decode cX4_meetsAny 4 = .ok (.iload_n 3, 1) := by decide +kernel
theorem dX4_meetsAny_5 : decode cX4_meetsAny 5 = .ok (.aload_n 0, 1) := by decide +kernel
theorem dX4_meetsAny_6 : decode cX4_meetsAny 6 = .ok (.getfield 7, 3) := by decide +kernel
theorem dX4_meetsAny_9 : decode cX4_meetsAny 9 = .ok (.iconst 0, 1) := by decide +kernel
theorem dX4_meetsAny_10 : decode cX4_meetsAny 10 = .ok (.iaload, 1) := by decide +kernel
theorem dX4_meetsAny_11 : decode cX4_meetsAny 11 = .ok (.if_icmp .ge 43, 3) := by decide +kernel
theorem dX4_meetsAny_14 : decode cX4_meetsAny 14 = .ok (.iload_n 2, 1) := by decide +kernel
theorem dX4_meetsAny_15 : decode cX4_meetsAny 15 = .ok (.ifCond .ne 39, 3) := by decide +kernel
theorem dX4_meetsAny_18 : decode cX4_meetsAny 18 = .ok (.iload_n 3, 1) := by decide +kernel
theorem dX4_meetsAny_19 : decode cX4_meetsAny 19 = .ok (.iload_n 1, 1) := by decide +kernel
theorem dX4_meetsAny_20 : decode cX4_meetsAny 20 = .ok (.if_icmp .eq 26, 3) := by decide +kernel
theorem dX4_meetsAny_23 : decode cX4_meetsAny 23 = .ok (.aload_n 0, 1) := by decide +kernel
theorem dX4_meetsAny_24 : decode cX4_meetsAny 24 = .ok (.iload_n 3, 1) := by decide +kernel
theorem dX4_meetsAny_25 : decode cX4_meetsAny 25 = .ok (.invokevirtual 41, 3) := by decide +kernel
theorem dX4_meetsAny_28 : decode cX4_meetsAny 28 = .ok (.ifCond .eq 18, 3) := by decide +kernel
theorem dX4_meetsAny_31 : decode cX4_meetsAny 31 = .ok (.aload_n 0, 1) := by decide +kernel
theorem dX4_meetsAny_32 : decode cX4_meetsAny 32 = .ok (.iload_n 1, 1) := by decide +kernel
theorem dX4_meetsAny_33 : decode cX4_meetsAny 33 = .ok (.iload_n 3, 1) := by decide +kernel
theorem dX4_meetsAny_34 : decode cX4_meetsAny 34 = .ok (.invokevirtual 78, 3) := by decide +kernel
theorem dX4_meetsAny_37 : decode cX4_meetsAny 37 = .ok (.bipush (-19), 2) := by decide +kernel
theorem dX4_meetsAny_39 : decode cX4_meetsAny 39 = .ok (.if_icmp .eq 7, 3) := by decide +kernel
theorem dX4_meetsAny_42 : decode cX4_meetsAny 42 = .ok (.iconst 1, 1) := by decide +kernel
theorem dX4_meetsAny_43 : decode cX4_meetsAny 43 = .ok (.goto 4, 3) := by decide +kernel
theorem dX4_meetsAny_46 : decode cX4_meetsAny 46 = .ok (.iconst 0, 1) := by decide +kernel
theorem dX4_meetsAny_47 : decode cX4_meetsAny 47 = .ok (.istore_n 2, 1) := by decide +kernel
theorem dX4_meetsAny_48 : decode cX4_meetsAny 48 = .ok (.iinc 3 1, 3) := by decide +kernel
theorem dX4_meetsAny_51 : decode cX4_meetsAny 51 = .ok (.goto (-47), 3) := by decide +kernel
theorem dX4_meetsAny_54 : decode cX4_meetsAny 54 = .ok (.iload_n 2, 1) := by decide +kernel
theorem dX4_meetsAny_55 : decode cX4_meetsAny 55 = .ok (.ireturn, 1) := by decide +kernel
theorem dX4_makeWord_0 : decode cX4_makeWord 0 = .ok (.aload_n 0, 1) := by decide +kernel
theorem dX4_makeWord_1 : decode cX4_makeWord 1 = .ok (.getfield 7, 3) := by decide +kernel
theorem dX4_makeWord_4 : decode cX4_makeWord 4 = .ok (.iconst 0, 1) := by decide +kernel
theorem dX4_makeWord_5 : decode cX4_makeWord 5 = .ok (.iaload, 1) := by decide +kernel
theorem dX4_makeWord_6 : decode cX4_makeWord 6 = .ok (.istore 6, 2) := by decide +kernel
theorem dX4_makeWord_8 : decode cX4_makeWord 8 = .ok (.aload_n 0, 1) := by decide +kernel
theorem dX4_makeWord_9 : decode cX4_makeWord 9 = .ok (.iload 6, 2) := by decide +kernel
theorem dX4_makeWord_11 : decode cX4_makeWord 11 = .ok (.bipush 6, 2) := by decide +kernel
theorem dX4_makeWord_13 : decode cX4_makeWord 13 = .ok (.iload_n 1, 1) := by decide +kernel
theorem dX4_makeWord_14 : decode cX4_makeWord 14 = .ok (.invokevirtual 81, 3) := by decide +kernel
theorem dX4_makeWord_17 : decode cX4_makeWord 17 = .ok (.aload_n 0, 1) := by decide +kernel
theorem dX4_makeWord_18 : decode cX4_makeWord 18 = .ok (.iload 6, 2) := by decide +kernel
theorem dX4_makeWord_20 : decode cX4_makeWord 20 = .ok (.iconst 0, 1) := by decide +kernel
theorem dX4_makeWord_21 : decode cX4_makeWord 21 = .ok (.iload_n 2, 1) := by decide +kernel
theorem dX4_makeWord_22 : decode cX4_makeWord 22 = .ok (.invokevirtual 81, 3) := by decide +kernel
theorem dX4_makeWord_25 : decode cX4_makeWord 25 = .ok (.aload_n 0, 1) := by decide +kernel
theorem dX4_makeWord_26 : decode cX4_makeWord 26 = .ok (.iload 6, 2) := by decide +kernel
theorem dX4_makeWord_28 : decode cX4_makeWord 28 = .ok (.iconst 1, 1) := by decide +kernel
theorem dX4_makeWord_29 : decode cX4_makeWord 29 = .ok (.iload_n 3, 1) := by decide +kernel
theorem dX4_makeWord_30 : decode cX4_makeWord 30 = .ok (.invokevirtual 81, 3) := by decide +kernel
theorem dX4_makeWord_33 : decode cX4_makeWord 33 = .ok (.aload_n 0, 1) := by decide +kernel
theorem dX4_makeWord_34 : decode cX4_makeWord 34 = .ok (.iload 6, 2) := by decide +kernel
theorem dX4_makeWord_36 : decode cX4_makeWord 36 = .ok (.iconst 2, 1) := by decide +kernel
theorem dX4_makeWord_37 : decode cX4_makeWord 37 = .ok (.iload 4, 2) := by decide +kernel
theorem dX4_makeWord_39 : decode cX4_makeWord 39 = .ok (.invokevirtual 81, 3) := by decide +kernel
theorem dX4_makeWord_42 : decode cX4_makeWord 42 = .ok (.aload_n 0, 1) := by decide +kernel
theorem dX4_makeWord_43 : decode cX4_makeWord 43 = .ok (.iload 6, 2) := by decide +kernel
theorem dX4_makeWord_45 : decode cX4_makeWord 45 = .ok (.iconst 3, 1) := by decide +kernel
theorem dX4_makeWord_46 : decode cX4_makeWord 46 = .ok (.iload 5, 2) := by decide +kernel
theorem dX4_makeWord_48 : decode cX4_makeWord 48 = .ok (.invokevirtual 81, 3) := by decide +kernel
theorem dX4_makeWord_51 : decode cX4_makeWord 51 = .ok (.aload_n 0, 1) := by decide +kernel
theorem dX4_makeWord_52 : decode cX4_makeWord 52 = .ok (.iload 6, 2) := by decide +kernel
theorem dX4_makeWord_54 : decode cX4_makeWord 54 = .ok (.iconst 4, 1) := by decide +kernel
theorem dX4_makeWord_55 : decode cX4_makeWord 55 = .ok (.iconst (-1), 1) := by decide +kernel
theorem dX4_makeWord_56 : decode cX4_makeWord 56 = .ok (.invokevirtual 81, 3) := by decide +kernel
theorem dX4_makeWord_59 : decode cX4_makeWord 59 = .ok (.aload_n 0, 1) := by decide +kernel
theorem dX4_makeWord_60 : decode cX4_makeWord 60 = .ok (.iload 6, 2) := by decide +kernel
theorem dX4_makeWord_62 : decode cX4_makeWord 62 = .ok (.iconst 5, 1) := by decide +kernel
theorem dX4_makeWord_63 : decode cX4_makeWord 63 = .ok (.iconst (-1), 1) := by decide +kernel
theorem dX4_makeWord_64 : decode cX4_makeWord 64 = .ok (.invokevirtual 81, 3) := by decide +kernel
theorem dX4_makeWord_67 : decode cX4_makeWord 67 = .ok (.aload_n 0, 1) := by decide +kernel
theorem dX4_makeWord_68 : decode cX4_makeWord 68 = .ok (.getfield 7, 3) := by decide +kernel
theorem dX4_makeWord_71 : decode cX4_makeWord 71 = .ok (.iconst 0, 1) := by decide +kernel
theorem dX4_makeWord_72 : decode cX4_makeWord 72 = .ok (.dup2, 1) := by decide +kernel
theorem dX4_makeWord_73 : decode cX4_makeWord 73 = .ok (.iaload, 1) := by decide +kernel
theorem dX4_makeWord_74 : decode cX4_makeWord 74 = .ok (.iconst 1, 1) := by decide +kernel
theorem dX4_makeWord_75 : decode cX4_makeWord 75 = .ok (.iadd, 1) := by decide +kernel
theorem dX4_makeWord_76 : decode cX4_makeWord 76 = .ok (.iastore, 1) := by decide +kernel
theorem dX4_makeWord_77 : decode cX4_makeWord 77 = .ok (.iload 6, 2) := by decide +kernel
theorem dX4_makeWord_79 : decode cX4_makeWord 79 = .ok (.ireturn, 1) := by decide +kernel
theorem dX4_isPart_0 : decode cX4_isPart 0 = .ok (.iload_n 0, 1) := by decide +kernel
theorem dX4_isPart_1 : decode cX4_isPart 1 = .ok (.tableswitch 71 0 3 #[31, 41, 51, 61], 31) := by decide +kernel
theorem dX4_isPart_32 : decode cX4_isPart 32 = .ok (.iload_n 1, 1) := by decide +kernel
theorem dX4_isPart_33 : decode cX4_isPart 33 = .ok (.i2l, 1) := by decide +kernel
theorem dX4_isPart_34 : decode cX4_isPart 34 = .ok (.lconst 0, 1) := by decide +kernel
theorem dX4_isPart_35 : decode cX4_isPart 35 = .ok (.ldc2_w 85, 3) := by decide +kernel
theorem dX4_isPart_38 : decode cX4_isPart 38 = .ok (.invokestatic 33, 3) := by decide +kernel
theorem dX4_isPart_41 : decode cX4_isPart 41 = .ok (.ireturn, 1) := by decide +kernel
theorem dX4_isPart_42 : decode cX4_isPart 42 = .ok (.iload_n 1, 1) := by decide +kernel
theorem dX4_isPart_43 : decode cX4_isPart 43 = .ok (.i2l, 1) := by decide +kernel
theorem dX4_isPart_44 : decode cX4_isPart 44 = .ok (.lconst 1, 1) := by decide +kernel
theorem dX4_isPart_45 : decode cX4_isPart 45 = .ok (.ldc2_w 87, 3) := by decide +kernel
theorem dX4_isPart_48 : decode cX4_isPart 48 = .ok (.invokestatic 33, 3) := by decide +kernel
theorem dX4_isPart_51 : decode cX4_isPart 51 = .ok (.ireturn, 1) := by decide +kernel
theorem dX4_isPart_52 : decode cX4_isPart 52 = .ok (.iload_n 1, 1) := by decide +kernel
theorem dX4_isPart_53 : decode cX4_isPart 53 = .ok (.i2l, 1) := by decide +kernel
theorem dX4_isPart_54 : decode cX4_isPart 54 = .ok (.lconst 0, 1) := by decide +kernel
theorem dX4_isPart_55 : decode cX4_isPart 55 = .ok (.ldc2_w 87, 3) := by decide +kernel
theorem dX4_isPart_58 : decode cX4_isPart 58 = .ok (.invokestatic 33, 3) := by decide +kernel
theorem dX4_isPart_61 : decode cX4_isPart 61 = .ok (.ireturn, 1) := by decide +kernel
theorem dX4_isPart_62 : decode cX4_isPart 62 = .ok (.iload_n 1, 1) := by decide +kernel
theorem dX4_isPart_63 : decode cX4_isPart 63 = .ok (.i2l, 1) := by decide +kernel
theorem dX4_isPart_64 : decode cX4_isPart 64 = .ok (.lconst 0, 1) := by decide +kernel
theorem dX4_isPart_65 : decode cX4_isPart 65 = .ok (.ldc2_w 89, 3) := by decide +kernel
theorem dX4_isPart_68 : decode cX4_isPart 68 = .ok (.invokestatic 33, 3) := by decide +kernel
theorem dX4_isPart_71 : decode cX4_isPart 71 = .ok (.ireturn, 1) := by decide +kernel
theorem dX4_isPart_72 : decode cX4_isPart 72 = .ok (.iconst 0, 1) := by decide +kernel
theorem dX4_isPart_73 : decode cX4_isPart 73 = .ok (.ireturn, 1) := by decide +kernel
theorem dX4_addWord_0 : decode cX4_addWord 0 = .ok (.aload_n 0, 1) := by decide +kernel
theorem dX4_addWord_1 : decode cX4_addWord 1 = .ok (.iconst 0, 1) := by decide +kernel
theorem dX4_addWord_2 : decode cX4_addWord 2 = .ok (.putfield 26, 3) := by decide +kernel
theorem dX4_addWord_5 : decode cX4_addWord 5 = .ok (.iload_n 1, 1) := by decide +kernel
theorem dX4_addWord_6 : decode cX4_addWord 6 = .ok (.i2l, 1) := by decide +kernel
theorem dX4_addWord_7 : decode cX4_addWord 7 = .ok (.lconst 1, 1) := by decide +kernel
theorem dX4_addWord_8 : decode cX4_addWord 8 = .ok (.ldc2_w 91, 3) := by decide +kernel
theorem dX4_addWord_11 : decode cX4_addWord 11 = .ok (.invokestatic 33, 3) := by decide +kernel
theorem dX4_addWord_14 : decode cX4_addWord 14 = .ok (.ifCond .eq 37, 3) := by decide +kernel
theorem dX4_addWord_17 : decode cX4_addWord 17 = .ok (.iconst 0, 1) := by decide +kernel
theorem dX4_addWord_18 : decode cX4_addWord 18 = .ok (.iload_n 2, 1) := by decide +kernel
theorem dX4_addWord_19 : decode cX4_addWord 19 = .ok (.invokestatic 93, 3) := by decide +kernel
theorem dX4_addWord_22 : decode cX4_addWord 22 = .ok (.ifCond .eq 29, 3) := by decide +kernel
theorem dX4_addWord_25 : decode cX4_addWord 25 = .ok (.iconst 1, 1) := by decide +kernel
theorem dX4_addWord_26 : decode cX4_addWord 26 = .ok (.iload_n 3, 1) := by decide +kernel
theorem dX4_addWord_27 : decode cX4_addWord 27 = .ok (.invokestatic 93, 3) := by decide +kernel
theorem dX4_addWord_30 : decode cX4_addWord 30 = .ok (.ifCond .eq 21, 3) := by decide +kernel
theorem dX4_addWord_33 : decode cX4_addWord 33 = .ok (.iconst 2, 1) := by decide +kernel
theorem dX4_addWord_34 : decode cX4_addWord 34 = .ok (.iload 4, 2) := by decide +kernel
theorem dX4_addWord_36 : decode cX4_addWord 36 = .ok (.invokestatic 93, 3) := by decide +kernel
theorem dX4_addWord_39 : decode cX4_addWord 39 = .ok (.ifCond .eq 12, 3) := by decide +kernel
theorem dX4_addWord_42 : decode cX4_addWord 42 = .ok (.iconst 3, 1) := by decide +kernel
theorem dX4_addWord_43 : decode cX4_addWord 43 = .ok (.iload 5, 2) := by decide +kernel
theorem dX4_addWord_45 : decode cX4_addWord 45 = .ok (.invokestatic 93, 3) := by decide +kernel
theorem dX4_addWord_48 : decode cX4_addWord 48 = .ok (.ifCond .ne 6, 3) := by decide +kernel
theorem dX4_addWord_51 : decode cX4_addWord 51 = .ok (.bipush (-11), 2) := by decide +kernel
theorem dX4_addWord_53 : decode cX4_addWord 53 = .ok (.ireturn, 1) := by decide +kernel
theorem dX4_addWord_54 : decode cX4_addWord 54 = .ok (.aload_n 0, 1) := by decide +kernel
theorem dX4_addWord_55 : decode cX4_addWord 55 = .ok (.getfield 7, 3) := by decide +kernel
theorem dX4_addWord_58 : decode cX4_addWord 58 = .ok (.iconst 0, 1) := by decide +kernel
theorem dX4_addWord_59 : decode cX4_addWord 59 = .ok (.iaload, 1) := by decide +kernel
theorem dX4_addWord_60 : decode cX4_addWord 60 = .ok (.bipush 12, 2) := by decide +kernel
theorem dX4_addWord_62 : decode cX4_addWord 62 = .ok (.if_icmp .ne 6, 3) := by decide +kernel
theorem dX4_addWord_65 : decode cX4_addWord 65 = .ok (.bipush (-13), 2) := by decide +kernel
theorem dX4_addWord_67 : decode cX4_addWord 67 = .ok (.ireturn, 1) := by decide +kernel
theorem dX4_addWord_68 : decode cX4_addWord 68 = .ok (.aload_n 0, 1) := by decide +kernel
theorem dX4_addWord_69 : decode cX4_addWord 69 = .ok (.invokevirtual 96, 3) := by decide +kernel
theorem dX4_addWord_72 : decode cX4_addWord 72 = .ok (.aload_n 0, 1) := by decide +kernel
theorem dX4_addWord_73 : decode cX4_addWord 73 = .ok (.iload_n 1, 1) := by decide +kernel
theorem dX4_addWord_74 : decode cX4_addWord 74 = .ok (.iload_n 2, 1) := by decide +kernel
theorem dX4_addWord_75 : decode cX4_addWord 75 = .ok (.iload_n 3, 1) := by decide +kernel
theorem dX4_addWord_76 : decode cX4_addWord 76 = .ok (.iload 4, 2) := by decide +kernel
theorem dX4_addWord_78 : decode cX4_addWord 78 = .ok (.iload 5, 2) := by decide +kernel
theorem dX4_addWord_80 : decode cX4_addWord 80 = .ok (.invokevirtual 99, 3) := by decide +kernel
theorem dX4_addWord_83 : decode cX4_addWord 83 = .ok (.istore 6, 2) := by decide +kernel
theorem dX4_addWord_85 : decode cX4_addWord 85 = .ok (.iconst 0, 1) := by decide +kernel
theorem dX4_addWord_86 : decode cX4_addWord 86 = .ok (.istore 7, 2) := by decide +kernel
theorem dX4_addWord_88 : decode cX4_addWord 88 = .ok (.iload 7, 2) := by decide +kernel
theorem dX4_addWord_90 : decode cX4_addWord 90 = .ok (.iload_n 1, 1) := by decide +kernel
theorem dX4_addWord_91 : decode cX4_addWord 91 = .ok (.if_icmp .ge 25, 3) := by decide +kernel
theorem dX4_addWord_94 : decode cX4_addWord 94 = .ok (.aload_n 0, 1) := by decide +kernel
theorem dX4_addWord_95 : decode cX4_addWord 95 = .ok (.iload 6, 2) := by decide +kernel
theorem dX4_addWord_97 : decode cX4_addWord 97 = .ok (.bipush 7, 2) := by decide +kernel
theorem dX4_addWord_99 : decode cX4_addWord 99 = .ok (.iload 7, 2) := by decide +kernel
theorem dX4_addWord_101 : decode cX4_addWord 101 = .ok (.iadd, 1) := by decide +kernel
theorem dX4_addWord_102 : decode cX4_addWord 102 = .ok (.bipush 97, 2) := by decide +kernel
theorem dX4_addWord_104 : decode cX4_addWord 104 = .ok (.iload 7, 2) := by decide +kernel
theorem dX4_addWord_106 : decode cX4_addWord 106 = .ok (.iadd, 1) := by decide +kernel
theorem dX4_addWord_107 : decode cX4_addWord 107 = .ok (.invokevirtual 81, 3) := by decide +kernel
theorem dX4_addWord_110 : decode cX4_addWord 110 = .ok (.iinc 7 1, 3) := by decide +kernel
theorem dX4_addWord_113 : decode cX4_addWord 113 = .ok (.goto (-25), 3) := by decide +kernel
theorem dX4_addWord_116 : decode cX4_addWord 116 = .ok (.iload 6, 2) := by decide +kernel
theorem dX4_addWord_118 : decode cX4_addWord 118 = .ok (.ireturn, 1) := by decide +kernel
theorem dX4_removeWord_0 : decode cX4_removeWord 0 = .ok (.aload_n 0, 1) := by decide +kernel
theorem dX4_removeWord_1 : decode cX4_removeWord 1 = .ok (.iconst 0, 1) := by decide +kernel
theorem dX4_removeWord_2 : decode cX4_removeWord 2 = .ok (.putfield 26, 3) := by decide +kernel
theorem dX4_removeWord_5 : decode cX4_removeWord 5 = .ok (.aload_n 0, 1) := by decide +kernel
theorem dX4_removeWord_6 : decode cX4_removeWord 6 = .ok (.iload_n 1, 1) := by decide +kernel
theorem dX4_removeWord_7 : decode cX4_removeWord 7 = .ok (.invokevirtual 103, 3) := by decide +kernel
theorem dX4_removeWord_10 : decode cX4_removeWord 10 = .ok (.ifCond .ne 6, 3) := by decide +kernel
theorem dX4_removeWord_13 : decode cX4_removeWord 13 = .ok (.bipush (-11), 2) := by decide +kernel
theorem dX4_removeWord_15 : decode cX4_removeWord 15 = .ok (.ireturn, 1) := by decide +kernel
theorem dX4_removeWord_16 : decode cX4_removeWord 16 = .ok (.aload_n 0, 1) := by decide +kernel
theorem dX4_removeWord_17 : decode cX4_removeWord 17 = .ok (.invokevirtual 96, 3) := by decide +kernel
theorem dX4_removeWord_20 : decode cX4_removeWord 20 = .ok (.aload_n 0, 1) := by decide +kernel
theorem dX4_removeWord_21 : decode cX4_removeWord 21 = .ok (.getfield 7, 3) := by decide +kernel
theorem dX4_removeWord_24 : decode cX4_removeWord 24 = .ok (.iconst 0, 1) := by decide +kernel
theorem dX4_removeWord_25 : decode cX4_removeWord 25 = .ok (.dup2, 1) := by decide +kernel
theorem dX4_removeWord_26 : decode cX4_removeWord 26 = .ok (.iaload, 1) := by decide +kernel
theorem dX4_removeWord_27 : decode cX4_removeWord 27 = .ok (.iconst 1, 1) := by decide +kernel
theorem dX4_removeWord_28 : decode cX4_removeWord 28 = .ok (.isub, 1) := by decide +kernel
theorem dX4_removeWord_29 : decode cX4_removeWord 29 = .ok (.iastore, 1) := by decide +kernel
theorem dX4_removeWord_30 : decode cX4_removeWord 30 = .ok (.bipush 13, 2) := by decide +kernel
theorem dX4_removeWord_32 : decode cX4_removeWord 32 = .ok (.bipush 19, 2) := by decide +kernel
theorem dX4_removeWord_34 : decode cX4_removeWord 34 = .ok (.iload_n 1, 1) := by decide +kernel
theorem dX4_removeWord_35 : decode cX4_removeWord 35 = .ok (.imul, 1) := by decide +kernel
theorem dX4_removeWord_36 : decode cX4_removeWord 36 = .ok (.iadd, 1) := by decide +kernel
theorem dX4_removeWord_37 : decode cX4_removeWord 37 = .ok (.istore_n 2, 1) := by decide +kernel
theorem dX4_removeWord_38 : decode cX4_removeWord 38 = .ok (.iload_n 2, 1) := by decide +kernel
theorem dX4_removeWord_39 : decode cX4_removeWord 39 = .ok (.bipush 13, 2) := by decide +kernel
theorem dX4_removeWord_41 : decode cX4_removeWord 41 = .ok (.bipush 19, 2) := by decide +kernel
theorem dX4_removeWord_43 : decode cX4_removeWord 43 = .ok (.aload_n 0, 1) := by decide +kernel
theorem dX4_removeWord_44 : decode cX4_removeWord 44 = .ok (.getfield 7, 3) := by decide +kernel
theorem dX4_removeWord_47 : decode cX4_removeWord 47 = .ok (.iconst 0, 1) := by decide +kernel
theorem dX4_removeWord_48 : decode cX4_removeWord 48 = .ok (.iaload, 1) := by decide +kernel
theorem dX4_removeWord_49 : decode cX4_removeWord 49 = .ok (.imul, 1) := by decide +kernel
theorem dX4_removeWord_50 : decode cX4_removeWord 50 = .ok (.iadd, 1) := by decide +kernel
theorem dX4_removeWord_51 : decode cX4_removeWord 51 = .ok (.if_icmp .ge 24, 3) := by decide +kernel
theorem dX4_removeWord_54 : decode cX4_removeWord 54 = .ok (.aload_n 0, 1) := by decide +kernel
theorem dX4_removeWord_55 : decode cX4_removeWord 55 = .ok (.getfield 7, 3) := by decide +kernel
theorem dX4_removeWord_58 : decode cX4_removeWord 58 = .ok (.iload_n 2, 1) := by decide +kernel
theorem dX4_removeWord_59 : decode cX4_removeWord 59 = .ok (.aload_n 0, 1) := by decide +kernel
theorem dX4_removeWord_60 : decode cX4_removeWord 60 = .ok (.getfield 7, 3) := by decide +kernel
theorem dX4_removeWord_63 : decode cX4_removeWord 63 = .ok (.iload_n 2, 1) := by decide +kernel
theorem dX4_removeWord_64 : decode cX4_removeWord 64 = .ok (.bipush 19, 2) := by decide +kernel
theorem dX4_removeWord_66 : decode cX4_removeWord 66 = .ok (.iadd, 1) := by decide +kernel
theorem dX4_removeWord_67 : decode cX4_removeWord 67 = .ok (.iaload, 1) := by decide +kernel
theorem dX4_removeWord_68 : decode cX4_removeWord 68 = .ok (.iastore, 1) := by decide +kernel
theorem dX4_removeWord_69 : decode cX4_removeWord 69 = .ok (.iinc 2 1, 3) := by decide +kernel
theorem dX4_removeWord_72 : decode cX4_removeWord 72 = .ok (.goto (-34), 3) := by decide +kernel
theorem dX4_removeWord_75 : decode cX4_removeWord 75 = .ok (.aload_n 0, 1) := by decide +kernel
theorem dX4_removeWord_76 : decode cX4_removeWord 76 = .ok (.getfield 7, 3) := by decide +kernel
theorem dX4_removeWord_79 : decode cX4_removeWord 79 = .ok (.iconst 0, 1) := by decide +kernel
theorem dX4_removeWord_80 : decode cX4_removeWord 80 = .ok (.iaload, 1) := by decide +kernel
theorem dX4_removeWord_81 : decode cX4_removeWord 81 = .ok (.ireturn, 1) := by decide +kernel
theorem dX4_takeOff_0 : decode cX4_takeOff 0 = .ok (.aload_n 0, 1) := by decide +kernel
theorem dX4_takeOff_1 : decode cX4_takeOff 1 = .ok (.iload_n 1, 1) := by decide +kernel
theorem dX4_takeOff_2 : decode cX4_takeOff 2 = .ok (.iconst 4, 1) := by decide +kernel
theorem dX4_takeOff_3 : decode cX4_takeOff 3 = .ok (.iconst (-1), 1) := by decide +kernel
theorem dX4_takeOff_4 : decode cX4_takeOff 4 = .ok (.invokevirtual 81, 3) := by decide +kernel
theorem dX4_takeOff_7 : decode cX4_takeOff 7 = .ok (.aload_n 0, 1) := by decide +kernel
theorem dX4_takeOff_8 : decode cX4_takeOff 8 = .ok (.iload_n 1, 1) := by decide +kernel
theorem dX4_takeOff_9 : decode cX4_takeOff 9 = .ok (.iconst 5, 1) := by decide +kernel
theorem dX4_takeOff_10 : decode cX4_takeOff 10 = .ok (.iconst (-1), 1) := by decide +kernel
theorem dX4_takeOff_11 : decode cX4_takeOff 11 = .ok (.invokevirtual 81, 3) := by decide +kernel
theorem dX4_takeOff_14 : decode cX4_takeOff 14 = .ok (.return_, 1) := by decide +kernel
theorem dX4_setWord_0 : decode cX4_setWord 0 = .ok (.aload_n 0, 1) := by decide +kernel
theorem dX4_setWord_1 : decode cX4_setWord 1 = .ok (.iconst 0, 1) := by decide +kernel
theorem dX4_setWord_2 : decode cX4_setWord 2 = .ok (.putfield 26, 3) := by decide +kernel
theorem dX4_setWord_5 : decode cX4_setWord 5 = .ok (.aload_n 0, 1) := by decide +kernel
theorem dX4_setWord_6 : decode cX4_setWord 6 = .ok (.iload_n 1, 1) := by decide +kernel
theorem dX4_setWord_7 : decode cX4_setWord 7 = .ok (.invokevirtual 103, 3) := by decide +kernel
theorem dX4_setWord_10 : decode cX4_setWord 10 = .ok (.ifCond .eq 11, 3) := by decide +kernel
theorem dX4_setWord_13 : decode cX4_setWord 13 = .ok (.iload_n 2, 1) := by decide +kernel
theorem dX4_setWord_14 : decode cX4_setWord 14 = .ok (.iload_n 3, 1) := by decide +kernel
theorem dX4_setWord_15 : decode cX4_setWord 15 = .ok (.invokestatic 93, 3) := by decide +kernel
theorem dX4_setWord_18 : decode cX4_setWord 18 = .ok (.ifCond .ne 6, 3) := by decide +kernel
theorem dX4_setWord_21 : decode cX4_setWord 21 = .ok (.bipush (-11), 2) := by decide +kernel
theorem dX4_setWord_23 : decode cX4_setWord 23 = .ok (.ireturn, 1) := by decide +kernel
theorem dX4_setWord_24 : decode cX4_setWord 24 = .ok (.aload_n 0, 1) := by decide +kernel
theorem dX4_setWord_25 : decode cX4_setWord 25 = .ok (.invokevirtual 96, 3) := by decide +kernel
theorem dX4_setWord_28 : decode cX4_setWord 28 = .ok (.aload_n 0, 1) := by decide +kernel
theorem dX4_setWord_29 : decode cX4_setWord 29 = .ok (.iload_n 1, 1) := by decide +kernel
theorem dX4_setWord_30 : decode cX4_setWord 30 = .ok (.iload_n 2, 1) := by decide +kernel
theorem dX4_setWord_31 : decode cX4_setWord 31 = .ok (.invokevirtual 37, 3) := by decide +kernel
theorem dX4_setWord_34 : decode cX4_setWord 34 = .ok (.istore 4, 2) := by decide +kernel
theorem dX4_setWord_36 : decode cX4_setWord 36 = .ok (.aload_n 0, 1) := by decide +kernel
theorem dX4_setWord_37 : decode cX4_setWord 37 = .ok (.iload_n 1, 1) := by decide +kernel
theorem dX4_setWord_38 : decode cX4_setWord 38 = .ok (.iload_n 2, 1) := by decide +kernel
theorem dX4_setWord_39 : decode cX4_setWord 39 = .ok (.iload_n 3, 1) := by decide +kernel
theorem dX4_setWord_40 : decode cX4_setWord 40 = .ok (.invokevirtual 81, 3) := by decide +kernel
theorem dX4_setWord_43 : decode cX4_setWord 43 = .ok (.aload_n 0, 1) := by decide +kernel
theorem dX4_setWord_44 : decode cX4_setWord 44 = .ok (.iload_n 1, 1) := by decide +kernel
theorem dX4_setWord_45 : decode cX4_setWord 45 = .ok (.invokevirtual 106, 3) := by decide +kernel
theorem dX4_setWord_48 : decode cX4_setWord 48 = .ok (.iload 4, 2) := by decide +kernel
theorem dX4_setWord_50 : decode cX4_setWord 50 = .ok (.ireturn, 1) := by decide +kernel
theorem dX4_shotOf_0 : decode cX4_shotOf 0 = .ok (.iconst 0, 1) := by decide +kernel
theorem dX4_shotOf_1 : decode cX4_shotOf 1 = .ok (.istore_n 2, 1) := by decide +kernel
theorem dX4_shotOf_2 : decode cX4_shotOf 2 = .ok (.iload_n 2, 1) := by decide +kernel
theorem dX4_shotOf_3 : decode cX4_shotOf 3 = .ok (.aload_n 0, 1) := by decide +kernel
theorem dX4_shotOf_4 : decode cX4_shotOf 4 = .ok (.getfield 7, 3) := by decide +kernel
theorem dX4_shotOf_7 : decode cX4_shotOf 7 = .ok (.iconst 1, 1) := by decide +kernel
theorem dX4_shotOf_8 : decode cX4_shotOf 8 = .ok (.iaload, 1) := by decide +kernel
theorem dX4_shotOf_9 : decode cX4_shotOf 9 = .ok (.if_icmp .ge 23, 3) := by decide +kernel
theorem dX4_shotOf_12 : decode cX4_shotOf 12 = .ok (.aload_n 0, 1) := by decide +kernel
theorem dX4_shotOf_13 : decode cX4_shotOf 13 = .ok (.getfield 7, 3) := by decide +kernel
theorem dX4_shotOf_16 : decode cX4_shotOf 16 = .ok (.iconst 3, 1) := by decide +kernel
theorem dX4_shotOf_17 : decode cX4_shotOf 17 = .ok (.iload_n 2, 1) := by decide +kernel
theorem dX4_shotOf_18 : decode cX4_shotOf 18 = .ok (.iadd, 1) := by decide +kernel
theorem dX4_shotOf_19 : decode cX4_shotOf 19 = .ok (.iaload, 1) := by decide +kernel
theorem dX4_shotOf_20 : decode cX4_shotOf 20 = .ok (.iload_n 1, 1) := by decide +kernel
theorem dX4_shotOf_21 : decode cX4_shotOf 21 = .ok (.if_icmp .ne 5, 3) := by decide +kernel
theorem dX4_shotOf_24 : decode cX4_shotOf 24 = .ok (.iload_n 2, 1) := by decide +kernel
theorem dX4_shotOf_25 : decode cX4_shotOf 25 = .ok (.ireturn, 1) := by decide +kernel
theorem dX4_shotOf_26 : decode cX4_shotOf 26 = .ok (.iinc 2 1, 3) := by decide +kernel
theorem dX4_shotOf_29 : decode cX4_shotOf 29 = .ok (.goto (-27), 3) := by decide +kernel
theorem dX4_shotOf_32 : decode cX4_shotOf 32 = .ok (.bipush (-19), 2) := by decide +kernel
theorem dX4_shotOf_34 : decode cX4_shotOf 34 = .ok (.ireturn, 1) := by decide +kernel
theorem dX4_makeShot_0 : decode cX4_makeShot 0 = .ok (.aload_n 0, 1) := by decide +kernel
theorem dX4_makeShot_1 : decode cX4_makeShot 1 = .ok (.getfield 7, 3) := by decide +kernel
theorem dX4_makeShot_4 : decode cX4_makeShot 4 = .ok (.iconst 1, 1) := by decide +kernel
theorem dX4_makeShot_5 : decode cX4_makeShot 5 = .ok (.iaload, 1) := by decide +kernel
theorem dX4_makeShot_6 : decode cX4_makeShot 6 = .ok (.istore_n 2, 1) := by decide +kernel
theorem dX4_makeShot_7 : decode cX4_makeShot 7 = .ok (.iload_n 2, 1) := by decide +kernel
theorem dX4_makeShot_8 : decode cX4_makeShot 8 = .ok (.ifCond .le 41, 3) := by decide +kernel
theorem dX4_makeShot_11 : decode cX4_makeShot 11 = .ok (.aload_n 0, 1) := by decide +kernel
theorem dX4_makeShot_12 : decode cX4_makeShot 12 = .ok (.getfield 7, 3) := by decide +kernel
theorem dX4_makeShot_15 : decode cX4_makeShot 15 = .ok (.iconst 3, 1) := by decide +kernel
theorem dX4_makeShot_16 : decode cX4_makeShot 16 = .ok (.iload_n 2, 1) := by decide +kernel
theorem dX4_makeShot_17 : decode cX4_makeShot 17 = .ok (.iadd, 1) := by decide +kernel
theorem dX4_makeShot_18 : decode cX4_makeShot 18 = .ok (.iconst 1, 1) := by decide +kernel
theorem dX4_makeShot_19 : decode cX4_makeShot 19 = .ok (.isub, 1) := by decide +kernel
theorem dX4_makeShot_20 : decode cX4_makeShot 20 = .ok (.iaload, 1) := by decide +kernel
theorem dX4_makeShot_21 : decode cX4_makeShot 21 = .ok (.iload_n 1, 1) := by decide +kernel
theorem dX4_makeShot_22 : decode cX4_makeShot 22 = .ok (.if_icmp .le 27, 3) := by decide +kernel
theorem dX4_makeShot_25 : decode cX4_makeShot 25 = .ok (.aload_n 0, 1) := by decide +kernel
theorem dX4_makeShot_26 : decode cX4_makeShot 26 = .ok (.getfield 7, 3) := by decide +kernel
theorem dX4_makeShot_29 : decode cX4_makeShot 29 = .ok (.iconst 3, 1) := by decide +kernel
theorem dX4_makeShot_30 : decode cX4_makeShot 30 = .ok (.iload_n 2, 1) := by decide +kernel
theorem dX4_makeShot_31 : decode cX4_makeShot 31 = .ok (.iadd, 1) := by decide +kernel
theorem dX4_makeShot_32 : decode cX4_makeShot 32 = .ok (.aload_n 0, 1) := by decide +kernel
theorem dX4_makeShot_33 : decode cX4_makeShot 33 = .ok (.getfield 7, 3) := by decide +kernel
theorem dX4_makeShot_36 : decode cX4_makeShot 36 = .ok (.iconst 3, 1) := by decide +kernel
theorem dX4_makeShot_37 : decode cX4_makeShot 37 = .ok (.iload_n 2, 1) := by decide +kernel
theorem dX4_makeShot_38 : decode cX4_makeShot 38 = .ok (.iadd, 1) := by decide +kernel
theorem dX4_makeShot_39 : decode cX4_makeShot 39 = .ok (.iconst 1, 1) := by decide +kernel
theorem dX4_makeShot_40 : decode cX4_makeShot 40 = .ok (.isub, 1) := by decide +kernel
theorem dX4_makeShot_41 : decode cX4_makeShot 41 = .ok (.iaload, 1) := by decide +kernel
theorem dX4_makeShot_42 : decode cX4_makeShot 42 = .ok (.iastore, 1) := by decide +kernel
theorem dX4_makeShot_43 : decode cX4_makeShot 43 = .ok (.iinc 2 (-1), 3) := by decide +kernel
theorem dX4_makeShot_46 : decode cX4_makeShot 46 = .ok (.goto (-39), 3) := by decide +kernel
theorem dX4_makeShot_49 : decode cX4_makeShot 49 = .ok (.aload_n 0, 1) := by decide +kernel
theorem dX4_makeShot_50 : decode cX4_makeShot 50 = .ok (.getfield 7, 3) := by decide +kernel
theorem dX4_makeShot_53 : decode cX4_makeShot 53 = .ok (.iconst 3, 1) := by decide +kernel
theorem dX4_makeShot_54 : decode cX4_makeShot 54 = .ok (.iload_n 2, 1) := by decide +kernel
theorem dX4_makeShot_55 : decode cX4_makeShot 55 = .ok (.iadd, 1) := by decide +kernel
theorem dX4_makeShot_56 : decode cX4_makeShot 56 = .ok (.iload_n 1, 1) := by decide +kernel
theorem dX4_makeShot_57 : decode cX4_makeShot 57 = .ok (.iastore, 1) := by decide +kernel
theorem dX4_makeShot_58 : decode cX4_makeShot 58 = .ok (.aload_n 0, 1) := by decide +kernel
theorem dX4_makeShot_59 : decode cX4_makeShot 59 = .ok (.getfield 7, 3) := by decide +kernel
theorem dX4_makeShot_62 : decode cX4_makeShot 62 = .ok (.iconst 1, 1) := by decide +kernel
theorem dX4_makeShot_63 : decode cX4_makeShot 63 = .ok (.dup2, 1) := by decide +kernel
theorem dX4_makeShot_64 : decode cX4_makeShot 64 = .ok (.iaload, 1) := by decide +kernel
theorem dX4_makeShot_65 : decode cX4_makeShot 65 = .ok (.iconst 1, 1) := by decide +kernel
theorem dX4_makeShot_66 : decode cX4_makeShot 66 = .ok (.iadd, 1) := by decide +kernel
theorem dX4_makeShot_67 : decode cX4_makeShot 67 = .ok (.iastore, 1) := by decide +kernel
theorem dX4_makeShot_68 : decode cX4_makeShot 68 = .ok (.return_, 1) := by decide +kernel
theorem dX4_addShot_0 : decode cX4_addShot 0 = .ok (.aload_n 0, 1) := by decide +kernel
theorem dX4_addShot_1 : decode cX4_addShot 1 = .ok (.iconst 0, 1) := by decide +kernel
theorem dX4_addShot_2 : decode cX4_addShot 2 = .ok (.putfield 26, 3) := by decide +kernel
theorem dX4_addShot_5 : decode cX4_addShot 5 = .ok (.iload_n 1, 1) := by decide +kernel
theorem dX4_addShot_6 : decode cX4_addShot 6 = .ok (.i2l, 1) := by decide +kernel
theorem dX4_addShot_7 : decode cX4_addShot 7 = .ok (.lconst 1, 1) := by decide +kernel
theorem dX4_addShot_8 : decode cX4_addShot 8 = .ok (.ldc2_w 110, 3) := by decide +kernel
theorem dX4_addShot_11 : decode cX4_addShot 11 = .ok (.invokestatic 33, 3) := by decide +kernel
theorem dX4_addShot_14 : decode cX4_addShot 14 = .ok (.ifCond .ne 6, 3) := by decide +kernel
theorem dX4_addShot_17 : decode cX4_addShot 17 = .ok (.bipush (-11), 2) := by decide +kernel
theorem dX4_addShot_19 : decode cX4_addShot 19 = .ok (.ireturn, 1) := by decide +kernel
theorem dX4_addShot_20 : decode cX4_addShot 20 = .ok (.aload_n 0, 1) := by decide +kernel
theorem dX4_addShot_21 : decode cX4_addShot 21 = .ok (.iload_n 1, 1) := by decide +kernel
theorem dX4_addShot_22 : decode cX4_addShot 22 = .ok (.invokevirtual 112, 3) := by decide +kernel
theorem dX4_addShot_25 : decode cX4_addShot 25 = .ok (.bipush (-19), 2) := by decide +kernel
theorem dX4_addShot_27 : decode cX4_addShot 27 = .ok (.if_icmp .eq 6, 3) := by decide +kernel
theorem dX4_addShot_30 : decode cX4_addShot 30 = .ok (.bipush (-12), 2) := by decide +kernel
theorem dX4_addShot_32 : decode cX4_addShot 32 = .ok (.ireturn, 1) := by decide +kernel
theorem dX4_addShot_33 : decode cX4_addShot 33 = .ok (.aload_n 0, 1) := by decide +kernel
theorem dX4_addShot_34 : decode cX4_addShot 34 = .ok (.getfield 7, 3) := by decide +kernel
theorem dX4_addShot_37 : decode cX4_addShot 37 = .ok (.iconst 1, 1) := by decide +kernel
theorem dX4_addShot_38 : decode cX4_addShot 38 = .ok (.iaload, 1) := by decide +kernel
theorem dX4_addShot_39 : decode cX4_addShot 39 = .ok (.bipush 10, 2) := by decide +kernel
theorem dX4_addShot_41 : decode cX4_addShot 41 = .ok (.if_icmp .ne 6, 3) := by decide +kernel
theorem dX4_addShot_44 : decode cX4_addShot 44 = .ok (.bipush (-13), 2) := by decide +kernel
theorem dX4_addShot_46 : decode cX4_addShot 46 = .ok (.ireturn, 1) := by decide +kernel
theorem dX4_addShot_47 : decode cX4_addShot 47 = .ok (.aload_n 0, 1) := by decide +kernel
theorem dX4_addShot_48 : decode cX4_addShot 48 = .ok (.invokevirtual 96, 3) := by decide +kernel
theorem dX4_addShot_51 : decode cX4_addShot 51 = .ok (.aload_n 0, 1) := by decide +kernel
theorem dX4_addShot_52 : decode cX4_addShot 52 = .ok (.iload_n 1, 1) := by decide +kernel
theorem dX4_addShot_53 : decode cX4_addShot 53 = .ok (.invokevirtual 115, 3) := by decide +kernel
theorem dX4_addShot_56 : decode cX4_addShot 56 = .ok (.aload_n 0, 1) := by decide +kernel
theorem dX4_addShot_57 : decode cX4_addShot 57 = .ok (.getfield 7, 3) := by decide +kernel
theorem dX4_addShot_60 : decode cX4_addShot 60 = .ok (.iconst 1, 1) := by decide +kernel
theorem dX4_addShot_61 : decode cX4_addShot 61 = .ok (.iaload, 1) := by decide +kernel
theorem dX4_addShot_62 : decode cX4_addShot 62 = .ok (.ireturn, 1) := by decide +kernel
theorem dX4_removeShot_0 : decode cX4_removeShot 0 = .ok (.aload_n 0, 1) := by decide +kernel
theorem dX4_removeShot_1 : decode cX4_removeShot 1 = .ok (.iconst 0, 1) := by decide +kernel
theorem dX4_removeShot_2 : decode cX4_removeShot 2 = .ok (.putfield 26, 3) := by decide +kernel
theorem dX4_removeShot_5 : decode cX4_removeShot 5 = .ok (.iload_n 1, 1) := by decide +kernel
theorem dX4_removeShot_6 : decode cX4_removeShot 6 = .ok (.i2l, 1) := by decide +kernel
theorem dX4_removeShot_7 : decode cX4_removeShot 7 = .ok (.lconst 1, 1) := by decide +kernel
theorem dX4_removeShot_8 : decode cX4_removeShot 8 = .ok (.ldc2_w 110, 3) := by decide +kernel
theorem dX4_removeShot_11 : decode cX4_removeShot 11 = .ok (.invokestatic 33, 3) := by decide +kernel
theorem dX4_removeShot_14 : decode cX4_removeShot 14 = .ok (.ifCond .ne 6, 3) := by decide +kernel
theorem dX4_removeShot_17 : decode cX4_removeShot 17 = .ok (.bipush (-11), 2) := by decide +kernel
theorem dX4_removeShot_19 : decode cX4_removeShot 19 = .ok (.ireturn, 1) := by decide +kernel
theorem dX4_removeShot_20 : decode cX4_removeShot 20 = .ok (.aload_n 0, 1) := by decide +kernel
theorem dX4_removeShot_21 : decode cX4_removeShot 21 = .ok (.iload_n 1, 1) := by decide +kernel
theorem dX4_removeShot_22 : decode cX4_removeShot 22 = .ok (.invokevirtual 112, 3) := by decide +kernel
theorem dX4_removeShot_25 : decode cX4_removeShot 25 = .ok (.istore_n 2, 1) := by decide +kernel
theorem dX4_removeShot_26 : decode cX4_removeShot 26 = .ok (.iload_n 2, 1) := by decide +kernel
theorem dX4_removeShot_27 : decode cX4_removeShot 27 = .ok (.bipush (-19), 2) := by decide +kernel
theorem dX4_removeShot_29 : decode cX4_removeShot 29 = .ok (.if_icmp .ne 6, 3) := by decide +kernel
theorem dX4_removeShot_32 : decode cX4_removeShot 32 = .ok (.bipush (-12), 2) := by decide +kernel
theorem dX4_removeShot_34 : decode cX4_removeShot 34 = .ok (.ireturn, 1) := by decide +kernel
theorem dX4_removeShot_35 : decode cX4_removeShot 35 = .ok (.aload_n 0, 1) := by decide +kernel
theorem dX4_removeShot_36 : decode cX4_removeShot 36 = .ok (.invokevirtual 96, 3) := by decide +kernel
theorem dX4_removeShot_39 : decode cX4_removeShot 39 = .ok (.aload_n 0, 1) := by decide +kernel
theorem dX4_removeShot_40 : decode cX4_removeShot 40 = .ok (.getfield 7, 3) := by decide +kernel
theorem dX4_removeShot_43 : decode cX4_removeShot 43 = .ok (.iconst 1, 1) := by decide +kernel
theorem dX4_removeShot_44 : decode cX4_removeShot 44 = .ok (.dup2, 1) := by decide +kernel
theorem dX4_removeShot_45 : decode cX4_removeShot 45 = .ok (.iaload, 1) := by decide +kernel
theorem dX4_removeShot_46 : decode cX4_removeShot 46 = .ok (.iconst 1, 1) := by decide +kernel
theorem dX4_removeShot_47 : decode cX4_removeShot 47 = .ok (.isub, 1) := by decide +kernel
theorem dX4_removeShot_48 : decode cX4_removeShot 48 = .ok (.iastore, 1) := by decide +kernel
theorem dX4_removeShot_49 : decode cX4_removeShot 49 = .ok (.iload_n 2, 1) := by decide +kernel
theorem dX4_removeShot_50 : decode cX4_removeShot 50 = .ok (.istore_n 3, 1) := by decide +kernel
theorem dX4_removeShot_51 : decode cX4_removeShot 51 = .ok (.iload_n 3, 1) := by decide +kernel
theorem dX4_removeShot_52 : decode cX4_removeShot 52 = .ok (.aload_n 0, 1) := by decide +kernel
theorem dX4_removeShot_53 : decode cX4_removeShot 53 = .ok (.getfield 7, 3) := by decide +kernel
theorem dX4_removeShot_56 : decode cX4_removeShot 56 = .ok (.iconst 1, 1) := by decide +kernel
theorem dX4_removeShot_57 : decode cX4_removeShot 57 = .ok (.iaload, 1) := by decide +kernel
theorem dX4_removeShot_58 : decode cX4_removeShot 58 = .ok (.if_icmp .ge 27, 3) := by decide +kernel
theorem dX4_removeShot_61 : decode cX4_removeShot 61 = .ok (.aload_n 0, 1) := by decide +kernel
theorem dX4_removeShot_62 : decode cX4_removeShot 62 = .ok (.getfield 7, 3) := by decide +kernel
theorem dX4_removeShot_65 : decode cX4_removeShot 65 = .ok (.iconst 3, 1) := by decide +kernel
theorem dX4_removeShot_66 : decode cX4_removeShot 66 = .ok (.iload_n 3, 1) := by decide +kernel
theorem dX4_removeShot_67 : decode cX4_removeShot 67 = .ok (.iadd, 1) := by decide +kernel
theorem dX4_removeShot_68 : decode cX4_removeShot 68 = .ok (.aload_n 0, 1) := by decide +kernel
theorem dX4_removeShot_69 : decode cX4_removeShot 69 = .ok (.getfield 7, 3) := by decide +kernel
theorem dX4_removeShot_72 : decode cX4_removeShot 72 = .ok (.iconst 3, 1) := by decide +kernel
theorem dX4_removeShot_73 : decode cX4_removeShot 73 = .ok (.iload_n 3, 1) := by decide +kernel
theorem dX4_removeShot_74 : decode cX4_removeShot 74 = .ok (.iadd, 1) := by decide +kernel
theorem dX4_removeShot_75 : decode cX4_removeShot 75 = .ok (.iconst 1, 1) := by decide +kernel
theorem dX4_removeShot_76 : decode cX4_removeShot 76 = .ok (.iadd, 1) := by decide +kernel
theorem dX4_removeShot_77 : decode cX4_removeShot 77 = .ok (.iaload, 1) := by decide +kernel
theorem dX4_removeShot_78 : decode cX4_removeShot 78 = .ok (.iastore, 1) := by decide +kernel
theorem dX4_removeShot_79 : decode cX4_removeShot 79 = .ok (.iinc 3 1, 3) := by decide +kernel
theorem dX4_removeShot_82 : decode cX4_removeShot 82 = .ok (.goto (-31), 3) := by decide +kernel
theorem dX4_removeShot_85 : decode cX4_removeShot 85 = .ok (.aload_n 0, 1) := by decide +kernel
theorem dX4_removeShot_86 : decode cX4_removeShot 86 = .ok (.getfield 7, 3) := by decide +kernel
theorem dX4_removeShot_89 : decode cX4_removeShot 89 = .ok (.iconst 1, 1) := by decide +kernel
theorem dX4_removeShot_90 : decode cX4_removeShot 90 = .ok (.iaload, 1) := by decide +kernel
theorem dX4_removeShot_91 : decode cX4_removeShot 91 = .ok (.ireturn, 1) := by decide +kernel
theorem dX4_setSpeed_0 : decode cX4_setSpeed 0 = .ok (.aload_n 0, 1) := by decide +kernel
theorem dX4_setSpeed_1 : decode cX4_setSpeed 1 = .ok (.iconst 0, 1) := by decide +kernel
theorem dX4_setSpeed_2 : decode cX4_setSpeed 2 = .ok (.putfield 26, 3) := by decide +kernel
theorem dX4_setSpeed_5 : decode cX4_setSpeed 5 = .ok (.iload_n 1, 1) := by decide +kernel
theorem dX4_setSpeed_6 : decode cX4_setSpeed 6 = .ok (.i2l, 1) := by decide +kernel
theorem dX4_setSpeed_7 : decode cX4_setSpeed 7 = .ok (.ldc2_w 118, 3) := by decide +kernel
theorem dX4_setSpeed_10 : decode cX4_setSpeed 10 = .ok (.ldc2_w 120, 3) := by decide +kernel
theorem dX4_setSpeed_13 : decode cX4_setSpeed 13 = .ok (.invokestatic 33, 3) := by decide +kernel
theorem dX4_setSpeed_16 : decode cX4_setSpeed 16 = .ok (.ifCond .ne 6, 3) := by decide +kernel
theorem dX4_setSpeed_19 : decode cX4_setSpeed 19 = .ok (.bipush (-11), 2) := by decide +kernel
theorem dX4_setSpeed_21 : decode cX4_setSpeed 21 = .ok (.ireturn, 1) := by decide +kernel
theorem dX4_setSpeed_22 : decode cX4_setSpeed 22 = .ok (.aload_n 0, 1) := by decide +kernel
theorem dX4_setSpeed_23 : decode cX4_setSpeed 23 = .ok (.invokevirtual 96, 3) := by decide +kernel
theorem dX4_setSpeed_26 : decode cX4_setSpeed 26 = .ok (.aload_n 0, 1) := by decide +kernel
theorem dX4_setSpeed_27 : decode cX4_setSpeed 27 = .ok (.getfield 7, 3) := by decide +kernel
theorem dX4_setSpeed_30 : decode cX4_setSpeed 30 = .ok (.iconst 2, 1) := by decide +kernel
theorem dX4_setSpeed_31 : decode cX4_setSpeed 31 = .ok (.iaload, 1) := by decide +kernel
theorem dX4_setSpeed_32 : decode cX4_setSpeed 32 = .ok (.istore_n 2, 1) := by decide +kernel
theorem dX4_setSpeed_33 : decode cX4_setSpeed 33 = .ok (.aload_n 0, 1) := by decide +kernel
theorem dX4_setSpeed_34 : decode cX4_setSpeed 34 = .ok (.getfield 7, 3) := by decide +kernel
theorem dX4_setSpeed_37 : decode cX4_setSpeed 37 = .ok (.iconst 2, 1) := by decide +kernel
theorem dX4_setSpeed_38 : decode cX4_setSpeed 38 = .ok (.iload_n 1, 1) := by decide +kernel
theorem dX4_setSpeed_39 : decode cX4_setSpeed 39 = .ok (.iastore, 1) := by decide +kernel
theorem dX4_setSpeed_40 : decode cX4_setSpeed 40 = .ok (.iload_n 2, 1) := by decide +kernel
theorem dX4_setSpeed_41 : decode cX4_setSpeed 41 = .ok (.ireturn, 1) := by decide +kernel
theorem dX4_append_0 : decode cX4_append 0 = .ok (.aload_n 0, 1) := by decide +kernel
theorem dX4_append_1 : decode cX4_append 1 = .ok (.iconst 0, 1) := by decide +kernel
theorem dX4_append_2 : decode cX4_append 2 = .ok (.putfield 26, 3) := by decide +kernel
theorem dX4_append_5 : decode cX4_append 5 = .ok (.iload_n 1, 1) := by decide +kernel
theorem dX4_append_6 : decode cX4_append 6 = .ok (.i2l, 1) := by decide +kernel
theorem dX4_append_7 : decode cX4_append 7 = .ok (.lconst 1, 1) := by decide +kernel
theorem dX4_append_8 : decode cX4_append 8 = .ok (.ldc2_w 122, 3) := by decide +kernel
theorem dX4_append_11 : decode cX4_append 11 = .ok (.invokestatic 33, 3) := by decide +kernel
theorem dX4_append_14 : decode cX4_append 14 = .ok (.ifCond .ne 6, 3) := by decide +kernel
theorem dX4_append_17 : decode cX4_append 17 = .ok (.bipush (-11), 2) := by decide +kernel
theorem dX4_append_19 : decode cX4_append 19 = .ok (.ireturn, 1) := by decide +kernel
theorem dX4_append_20 : decode cX4_append 20 = .ok (.aload_n 0, 1) := by decide +kernel
theorem dX4_append_21 : decode cX4_append 21 = .ok (.getfield 124, 3) := by decide +kernel
theorem dX4_append_24 : decode cX4_append 24 = .ok (.sipush 160, 3) := by decide +kernel
theorem dX4_append_27 : decode cX4_append 27 = .ok (.if_icmp .ne 6, 3) := by decide +kernel
theorem dX4_append_30 : decode cX4_append 30 = .ok (.bipush (-13), 2) := by decide +kernel
theorem dX4_append_32 : decode cX4_append 32 = .ok (.ireturn, 1) := by decide +kernel
theorem dX4_append_33 : decode cX4_append 33 = .ok (.aload_n 0, 1) := by decide +kernel
theorem dX4_append_34 : decode cX4_append 34 = .ok (.getfield 19, 3) := by decide +kernel
theorem dX4_append_37 : decode cX4_append 37 = .ok (.aload_n 0, 1) := by decide +kernel
theorem dX4_append_38 : decode cX4_append 38 = .ok (.getfield 124, 3) := by decide +kernel
theorem dX4_append_41 : decode cX4_append 41 = .ok (.iload_n 1, 1) := by decide +kernel
theorem dX4_append_42 : decode cX4_append 42 = .ok (.iastore, 1) := by decide +kernel
theorem dX4_append_43 : decode cX4_append 43 = .ok (.aload_n 0, 1) := by decide +kernel
theorem dX4_append_44 : decode cX4_append 44 = .ok (.dup, 1) := by decide +kernel
theorem dX4_append_45 : decode cX4_append 45 = .ok (.getfield 124, 3) := by decide +kernel
theorem dX4_append_48 : decode cX4_append 48 = .ok (.iconst 1, 1) := by decide +kernel
theorem dX4_append_49 : decode cX4_append 49 = .ok (.iadd, 1) := by decide +kernel
theorem dX4_append_50 : decode cX4_append 50 = .ok (.putfield 124, 3) := by decide +kernel
theorem dX4_append_53 : decode cX4_append 53 = .ok (.aload_n 0, 1) := by decide +kernel
theorem dX4_append_54 : decode cX4_append 54 = .ok (.getfield 124, 3) := by decide +kernel
theorem dX4_append_57 : decode cX4_append 57 = .ok (.ireturn, 1) := by decide +kernel
theorem dX4_clearText_0 : decode cX4_clearText 0 = .ok (.aload_n 0, 1) := by decide +kernel
theorem dX4_clearText_1 : decode cX4_clearText 1 = .ok (.iconst 0, 1) := by decide +kernel
theorem dX4_clearText_2 : decode cX4_clearText 2 = .ok (.putfield 26, 3) := by decide +kernel
theorem dX4_clearText_5 : decode cX4_clearText 5 = .ok (.aload_n 0, 1) := by decide +kernel
theorem dX4_clearText_6 : decode cX4_clearText 6 = .ok (.getfield 124, 3) := by decide +kernel
theorem dX4_clearText_9 : decode cX4_clearText 9 = .ok (.istore_n 1, 1) := by decide +kernel
theorem dX4_clearText_10 : decode cX4_clearText 10 = .ok (.aload_n 0, 1) := by decide +kernel
theorem dX4_clearText_11 : decode cX4_clearText 11 = .ok (.iconst 0, 1) := by decide +kernel
theorem dX4_clearText_12 : decode cX4_clearText 12 = .ok (.putfield 124, 3) := by decide +kernel
theorem dX4_clearText_15 : decode cX4_clearText 15 = .ok (.iload_n 1, 1) := by decide +kernel
theorem dX4_clearText_16 : decode cX4_clearText 16 = .ok (.ireturn, 1) := by decide +kernel
theorem dX4_here_0 : decode cX4_here 0 = .ok (.aload_n 0, 1) := by decide +kernel
theorem dX4_here_1 : decode cX4_here 1 = .ok (.getfield 127, 3) := by decide +kernel
theorem dX4_here_4 : decode cX4_here 4 = .ok (.aload_n 0, 1) := by decide +kernel
theorem dX4_here_5 : decode cX4_here 5 = .ok (.getfield 124, 3) := by decide +kernel
theorem dX4_here_8 : decode cX4_here 8 = .ok (.if_icmp .ge 15, 3) := by decide +kernel
theorem dX4_here_11 : decode cX4_here 11 = .ok (.aload_n 0, 1) := by decide +kernel
theorem dX4_here_12 : decode cX4_here 12 = .ok (.getfield 19, 3) := by decide +kernel
theorem dX4_here_15 : decode cX4_here 15 = .ok (.aload_n 0, 1) := by decide +kernel
theorem dX4_here_16 : decode cX4_here 16 = .ok (.getfield 127, 3) := by decide +kernel
theorem dX4_here_19 : decode cX4_here 19 = .ok (.iaload, 1) := by decide +kernel
theorem dX4_here_20 : decode cX4_here 20 = .ok (.goto 4, 3) := by decide +kernel
theorem dX4_here_23 : decode cX4_here 23 = .ok (.iconst (-1), 1) := by decide +kernel
theorem dX4_here_24 : decode cX4_here 24 = .ok (.ireturn, 1) := by decide +kernel
theorem dX4_read_0 : decode cX4_read 0 = .ok (.aload_n 0, 1) := by decide +kernel
theorem dX4_read_1 : decode cX4_read 1 = .ok (.invokevirtual 130, 3) := by decide +kernel
theorem dX4_read_4 : decode cX4_read 4 = .ok (.bipush 32, 2) := by decide +kernel
theorem dX4_read_6 : decode cX4_read 6 = .ok (.if_icmp .ne 16, 3) := by decide +kernel
theorem dX4_read_9 : decode cX4_read 9 = .ok (.aload_n 0, 1) := by decide +kernel
theorem dX4_read_10 : decode cX4_read 10 = .ok (.dup, 1) := by decide +kernel
theorem dX4_read_11 : decode cX4_read 11 = .ok (.getfield 127, 3) := by decide +kernel
theorem dX4_read_14 : decode cX4_read 14 = .ok (.iconst 1, 1) := by decide +kernel
theorem dX4_read_15 : decode cX4_read 15 = .ok (.iadd, 1) := by decide +kernel
theorem dX4_read_16 : decode cX4_read 16 = .ok (.putfield 127, 3) := by decide +kernel
theorem dX4_read_19 : decode cX4_read 19 = .ok (.goto (-19), 3) := by decide +kernel
theorem dX4_read_22 : decode cX4_read 22 = .ok (.aload_n 0, 1) := by decide +kernel
theorem dX4_read_23 : decode cX4_read 23 = .ok (.aload_n 0, 1) := by decide +kernel
theorem dX4_read_24 : decode cX4_read 24 = .ok (.getfield 127, 3) := by decide +kernel
theorem dX4_read_27 : decode cX4_read 27 = .ok (.putfield 134, 3) := by decide +kernel
theorem dX4_read_30 : decode cX4_read 30 = .ok (.aload_n 0, 1) := by decide +kernel
theorem dX4_read_31 : decode cX4_read 31 = .ok (.lconst 0, 1) := by decide +kernel
theorem dX4_read_32 : decode cX4_read 32 = .ok (.putfield 137, 3) := by decide +kernel
theorem dX4_read_35 : decode cX4_read 35 = .ok (.aload_n 0, 1) := by decide +kernel
theorem dX4_read_36 : decode cX4_read 36 = .ok (.invokevirtual 130, 3) := by decide +kernel
theorem dX4_read_39 : decode cX4_read 39 = .ok (.i2l, 1) := by decide +kernel
theorem dX4_read_40 : decode cX4_read 40 = .ok (.ldc2_w 141, 3) := by decide +kernel
theorem dX4_read_43 : decode cX4_read 43 = .ok (.ldc2_w 143, 3) := by decide +kernel
theorem dX4_read_46 : decode cX4_read 46 = .ok (.invokestatic 33, 3) := by decide +kernel
theorem dX4_read_49 : decode cX4_read 49 = .ok (.ifCond .eq 79, 3) := by decide +kernel
theorem dX4_read_52 : decode cX4_read 52 = .ok (.aload_n 0, 1) := by decide +kernel
theorem dX4_read_53 : decode cX4_read 53 = .ok (.iconst 0, 1) := by decide +kernel
theorem dX4_read_54 : decode cX4_read 54 = .ok (.putfield 145, 3) := by decide +kernel
theorem dX4_read_57 : decode cX4_read 57 = .ok (.aload_n 0, 1) := by decide +kernel
theorem dX4_read_58 : decode cX4_read 58 = .ok (.invokevirtual 130, 3) := by decide +kernel
theorem dX4_read_61 : decode cX4_read 61 = .ok (.i2l, 1) := by decide +kernel
theorem dX4_read_62 : decode cX4_read 62 = .ok (.ldc2_w 141, 3) := by decide +kernel
theorem dX4_read_65 : decode cX4_read 65 = .ok (.ldc2_w 143, 3) := by decide +kernel
theorem dX4_read_68 : decode cX4_read 68 = .ok (.invokestatic 33, 3) := by decide +kernel
theorem dX4_read_71 : decode cX4_read 71 = .ok (.ifCond .eq 233, 3) := by decide +kernel
theorem dX4_read_74 : decode cX4_read 74 = .ok (.aload_n 0, 1) := by decide +kernel
theorem dX4_read_75 : decode cX4_read 75 = .ok (.aload_n 0, 1) := by decide +kernel
theorem dX4_read_76 : decode cX4_read 76 = .ok (.getfield 127, 3) := by decide +kernel
theorem dX4_read_79 : decode cX4_read 79 = .ok (.aload_n 0, 1) := by decide +kernel
theorem dX4_read_80 : decode cX4_read 80 = .ok (.getfield 134, 3) := by decide +kernel
theorem dX4_read_83 : decode cX4_read 83 = .ok (.isub, 1) := by decide +kernel
theorem dX4_read_84 : decode cX4_read 84 = .ok (.iconst 5, 1) := by decide +kernel
theorem dX4_read_85 : decode cX4_read 85 = .ok (.if_icmp .ge 26, 3) := by decide +kernel
theorem dX4_read_88 : decode cX4_read 88 = .ok (.ldc2_w 148, 3) := by decide +kernel
theorem dX4_read_91 : decode cX4_read 91 = .ok (.aload_n 0, 1) := by decide +kernel
theorem dX4_read_92 : decode cX4_read 92 = .ok (.getfield 137, 3) := by decide +kernel
theorem dX4_read_95 : decode cX4_read 95 = .ok (.lmul, 1) := by decide +kernel
theorem dX4_read_96 : decode cX4_read 96 = .ok (.aload_n 0, 1) := by decide +kernel
theorem dX4_read_97 : decode cX4_read 97 = .ok (.invokevirtual 130, 3) := by decide +kernel
theorem dX4_read_100 : decode cX4_read 100 = .ok (.i2l, 1) := by decide +kernel
theorem dX4_read_101 : decode cX4_read 101 = .ok (.ladd, 1) := by decide +kernel
theorem dX4_read_102 : decode cX4_read 102 = .ok (.ldc2_w 141, 3) := by decide +kernel
theorem dX4_read_105 : decode cX4_read 105 = .ok (.lsub, 1) := by decide +kernel
theorem dX4_read_106 : decode cX4_read 106 = .ok (.lconst 1, 1) := by decide +kernel
theorem dX4_read_107 : decode cX4_read 107 = .ok (.ladd, 1) := by decide +kernel
theorem dX4_read_108 : decode cX4_read 108 = .ok (.goto 4, 3) := by decide +kernel
theorem dX4_read_111 : decode cX4_read 111 = .ok (.lconst 0, 1) := by decide +kernel
theorem dX4_read_112 : decode cX4_read 112 = .ok (.putfield 137, 3) := by decide +kernel
theorem dX4_read_115 : decode cX4_read 115 = .ok (.aload_n 0, 1) := by decide +kernel
theorem dX4_read_116 : decode cX4_read 116 = .ok (.dup, 1) := by decide +kernel
theorem dX4_read_117 : decode cX4_read 117 = .ok (.getfield 127, 3) := by decide +kernel
theorem dX4_read_120 : decode cX4_read 120 = .ok (.iconst 1, 1) := by decide +kernel
theorem dX4_read_121 : decode cX4_read 121 = .ok (.iadd, 1) := by decide +kernel
theorem dX4_read_122 : decode cX4_read 122 = .ok (.putfield 127, 3) := by decide +kernel
theorem dX4_read_125 : decode cX4_read 125 = .ok (.goto (-68), 3) := by decide +kernel
theorem dX4_read_128 : decode cX4_read 128 = .ok (.aload_n 0, 1) := by decide +kernel
theorem dX4_read_129 : decode cX4_read 129 = .ok (.invokevirtual 130, 3) := by decide +kernel
theorem dX4_read_132 : decode cX4_read 132 = .ok (.i2l, 1) := by decide +kernel
theorem dX4_read_133 : decode cX4_read 133 = .ok (.ldc2_w 150, 3) := by decide +kernel
theorem dX4_read_136 : decode cX4_read 136 = .ok (.ldc2_w 152, 3) := by decide +kernel
theorem dX4_read_139 : decode cX4_read 139 = .ok (.invokestatic 33, 3) := by decide +kernel
theorem dX4_read_142 : decode cX4_read 142 = .ok (.ifCond .eq 112, 3) := by decide +kernel
theorem dX4_read_145 : decode cX4_read 145 = .ok (.aload_n 0, 1) := by decide +kernel
theorem dX4_read_146 : decode cX4_read 146 = .ok (.invokevirtual 130, 3) := by decide +kernel
theorem dX4_read_149 : decode cX4_read 149 = .ok (.i2l, 1) := by decide +kernel
theorem dX4_read_150 : decode cX4_read 150 = .ok (.ldc2_w 150, 3) := by decide +kernel
theorem dX4_read_153 : decode cX4_read 153 = .ok (.ldc2_w 152, 3) := by decide +kernel
theorem dX4_read_156 : decode cX4_read 156 = .ok (.invokestatic 33, 3) := by decide +kernel
theorem dX4_read_159 : decode cX4_read 159 = .ok (.ifCond .eq 56, 3) := by decide +kernel
theorem dX4_read_162 : decode cX4_read 162 = .ok (.aload_n 0, 1) := by decide +kernel
theorem dX4_read_163 : decode cX4_read 163 = .ok (.aload_n 0, 1) := by decide +kernel
theorem dX4_read_164 : decode cX4_read 164 = .ok (.getfield 137, 3) := by decide +kernel
theorem dX4_read_167 : decode cX4_read 167 = .ok (.ldc2_w 154, 3) := by decide +kernel
theorem dX4_read_170 : decode cX4_read 170 = .ok (.lcmp, 1) := by decide +kernel
theorem dX4_read_171 : decode cX4_read 171 = .ok (.ifCond .ge 24, 3) := by decide +kernel
theorem dX4_read_174 : decode cX4_read 174 = .ok (.ldc2_w 156, 3) := by decide +kernel
theorem dX4_read_177 : decode cX4_read 177 = .ok (.aload_n 0, 1) := by decide +kernel
theorem dX4_read_178 : decode cX4_read 178 = .ok (.getfield 137, 3) := by decide +kernel
theorem dX4_read_181 : decode cX4_read 181 = .ok (.lmul, 1) := by decide +kernel
theorem dX4_read_182 : decode cX4_read 182 = .ok (.aload_n 0, 1) := by decide +kernel
theorem dX4_read_183 : decode cX4_read 183 = .ok (.invokevirtual 130, 3) := by decide +kernel
theorem dX4_read_186 : decode cX4_read 186 = .ok (.i2l, 1) := by decide +kernel
theorem dX4_read_187 : decode cX4_read 187 = .ok (.ladd, 1) := by decide +kernel
theorem dX4_read_188 : decode cX4_read 188 = .ok (.ldc2_w 150, 3) := by decide +kernel
theorem dX4_read_191 : decode cX4_read 191 = .ok (.lsub, 1) := by decide +kernel
theorem dX4_read_192 : decode cX4_read 192 = .ok (.goto 7, 3) := by decide +kernel
theorem dX4_read_195 : decode cX4_read 195 = .ok (.aload_n 0, 1) := by decide +kernel
theorem dX4_read_196 : decode cX4_read 196 = .ok (.getfield 137, 3) := by decide +kernel
theorem dX4_read_199 : decode cX4_read 199 = .ok (.putfield 137, 3) := by decide +kernel
theorem dX4_read_202 : decode cX4_read 202 = .ok (.aload_n 0, 1) := by decide +kernel
theorem dX4_read_203 : decode cX4_read 203 = .ok (.dup, 1) := by decide +kernel
theorem dX4_read_204 : decode cX4_read 204 = .ok (.getfield 127, 3) := by decide +kernel
theorem dX4_read_207 : decode cX4_read 207 = .ok (.iconst 1, 1) := by decide +kernel
theorem dX4_read_208 : decode cX4_read 208 = .ok (.iadd, 1) := by decide +kernel
theorem dX4_read_209 : decode cX4_read 209 = .ok (.putfield 127, 3) := by decide +kernel
theorem dX4_read_212 : decode cX4_read 212 = .ok (.goto (-67), 3) := by decide +kernel
theorem dX4_read_215 : decode cX4_read 215 = .ok (.aload_n 0, 1) := by decide +kernel
theorem dX4_read_216 : decode cX4_read 216 = .ok (.aload_n 0, 1) := by decide +kernel
theorem dX4_read_217 : decode cX4_read 217 = .ok (.getfield 19, 3) := by decide +kernel
theorem dX4_read_220 : decode cX4_read 220 = .ok (.aload_n 0, 1) := by decide +kernel
theorem dX4_read_221 : decode cX4_read 221 = .ok (.getfield 134, 3) := by decide +kernel
theorem dX4_read_224 : decode cX4_read 224 = .ok (.iaload, 1) := by decide +kernel
theorem dX4_read_225 : decode cX4_read 225 = .ok (.bipush 48, 2) := by decide +kernel
theorem dX4_read_227 : decode cX4_read 227 = .ok (.if_icmp .ne 16, 3) := by decide +kernel
theorem dX4_read_230 : decode cX4_read 230 = .ok (.aload_n 0, 1) := by decide +kernel
theorem dX4_read_231 : decode cX4_read 231 = .ok (.getfield 127, 3) := by decide +kernel
theorem dX4_read_234 : decode cX4_read 234 = .ok (.aload_n 0, 1) := by decide +kernel
theorem dX4_read_235 : decode cX4_read 235 = .ok (.getfield 134, 3) := by decide +kernel
theorem dX4_read_238 : decode cX4_read 238 = .ok (.iconst 1, 1) := by decide +kernel
theorem dX4_read_239 : decode cX4_read 239 = .ok (.iadd, 1) := by decide +kernel
theorem dX4_read_240 : decode cX4_read 240 = .ok (.if_icmp .ne 7, 3) := by decide +kernel
theorem dX4_read_243 : decode cX4_read 243 = .ok (.iconst 1, 1) := by decide +kernel
theorem dX4_read_244 : decode cX4_read 244 = .ok (.goto 4, 3) := by decide +kernel
theorem dX4_read_247 : decode cX4_read 247 = .ok (.iconst 3, 1) := by decide +kernel
theorem dX4_read_248 : decode cX4_read 248 = .ok (.putfield 145, 3) := by decide +kernel
theorem dX4_read_251 : decode cX4_read 251 = .ok (.goto 53, 3) := by decide +kernel
theorem dX4_read_254 : decode cX4_read 254 = .ok (.aload_n 0, 1) := by decide +kernel
theorem dX4_read_255 : decode cX4_read 255 = .ok (.aload_n 0, 1) := by decide +kernel
theorem dX4_read_256 : decode cX4_read 256 = .ok (.invokevirtual 130, 3) := by decide +kernel
theorem dX4_read_259 : decode cX4_read 259 = .ok (.bipush 59, 2) := by decide +kernel
theorem dX4_read_261 : decode cX4_read 261 = .ok (.if_icmp .ne 7, 3) := by decide +kernel
theorem dX4_read_264 : decode cX4_read 264 = .ok (.iconst 2, 1) := by decide +kernel
theorem dX4_read_265 : decode cX4_read 265 = .ok (.goto 15, 3) := by decide +kernel
theorem dX4_read_268 : decode cX4_read 268 = .ok (.aload_n 0, 1) := by decide +kernel
theorem dX4_read_269 : decode cX4_read 269 = .ok (.invokevirtual 130, 3) := by decide +kernel
theorem dX4_read_272 : decode cX4_read 272 = .ok (.ifCond .ge 7, 3) := by decide +kernel
theorem dX4_read_275 : decode cX4_read 275 = .ok (.iconst 4, 1) := by decide +kernel
theorem dX4_read_276 : decode cX4_read 276 = .ok (.goto 4, 3) := by decide +kernel
theorem dX4_read_279 : decode cX4_read 279 = .ok (.iconst 3, 1) := by decide +kernel
theorem dX4_read_280 : decode cX4_read 280 = .ok (.putfield 145, 3) := by decide +kernel
theorem dX4_read_283 : decode cX4_read 283 = .ok (.aload_n 0, 1) := by decide +kernel
theorem dX4_read_284 : decode cX4_read 284 = .ok (.dup, 1) := by decide +kernel
theorem dX4_read_285 : decode cX4_read 285 = .ok (.getfield 127, 3) := by decide +kernel
theorem dX4_read_288 : decode cX4_read 288 = .ok (.aload_n 0, 1) := by decide +kernel
theorem dX4_read_289 : decode cX4_read 289 = .ok (.invokevirtual 130, 3) := by decide +kernel
theorem dX4_read_292 : decode cX4_read 292 = .ok (.ifCond .ge 7, 3) := by decide +kernel
theorem dX4_read_295 : decode cX4_read 295 = .ok (.iconst 0, 1) := by decide +kernel
theorem dX4_read_296 : decode cX4_read 296 = .ok (.goto 4, 3) := by decide +kernel
theorem dX4_read_299 : decode cX4_read 299 = .ok (.iconst 1, 1) := by decide +kernel
theorem dX4_read_300 : decode cX4_read 300 = .ok (.iadd, 1) := by decide +kernel
theorem dX4_read_301 : decode cX4_read 301 = .ok (.putfield 127, 3) := by decide +kernel
theorem dX4_read_304 : decode cX4_read 304 = .ok (.return_, 1) := by decide +kernel
theorem dX4_accept_0 : decode cX4_accept 0 = .ok (.aload_n 0, 1) := by decide +kernel
theorem dX4_accept_1 : decode cX4_accept 1 = .ok (.getfield 137, 3) := by decide +kernel
theorem dX4_accept_4 : decode cX4_accept 4 = .ok (.l2i, 1) := by decide +kernel
theorem dX4_accept_5 : decode cX4_accept 5 = .ok (.istore_n 2, 1) := by decide +kernel
theorem dX4_accept_6 : decode cX4_accept 6 = .ok (.aload_n 0, 1) := by decide +kernel
theorem dX4_accept_7 : decode cX4_accept 7 = .ok (.aload_n 0, 1) := by decide +kernel
theorem dX4_accept_8 : decode cX4_accept 8 = .ok (.getfield 158, 3) := by decide +kernel
theorem dX4_accept_11 : decode cX4_accept 11 = .ok (.ifCond .ne 7, 3) := by decide +kernel
theorem dX4_accept_14 : decode cX4_accept 14 = .ok (.iload_n 1, 1) := by decide +kernel
theorem dX4_accept_15 : decode cX4_accept 15 = .ok (.ifCond .ne 7, 3) := by decide +kernel
theorem dX4_accept_18 : decode cX4_accept 18 = .ok (.iconst 1, 1) := by decide +kernel
theorem dX4_accept_19 : decode cX4_accept 19 = .ok (.goto 4, 3) := by decide +kernel
theorem dX4_accept_22 : decode cX4_accept 22 = .ok (.iconst 0, 1) := by decide +kernel
theorem dX4_accept_23 : decode cX4_accept 23 = .ok (.putfield 158, 3) := by decide +kernel
theorem dX4_accept_26 : decode cX4_accept 26 = .ok (.aload_n 0, 1) := by decide +kernel
theorem dX4_accept_27 : decode cX4_accept 27 = .ok (.getfield 158, 3) := by decide +kernel
theorem dX4_accept_30 : decode cX4_accept 30 = .ok (.ifCond .ne 7, 3) := by decide +kernel
theorem dX4_accept_33 : decode cX4_accept 33 = .ok (.aload_n 0, 1) := by decide +kernel
theorem dX4_accept_34 : decode cX4_accept 34 = .ok (.invokevirtual 162, 3) := by decide +kernel
theorem dX4_accept_37 : decode cX4_accept 37 = .ok (.iload_n 2, 1) := by decide +kernel
theorem dX4_accept_38 : decode cX4_accept 38 = .ok (.ireturn, 1) := by decide +kernel
theorem dX4_number_0 : decode cX4_number 0 = .ok (.aload_n 0, 1) := by decide +kernel
theorem dX4_number_1 : decode cX4_number 1 = .ok (.aload_n 0, 1) := by decide +kernel
theorem dX4_number_2 : decode cX4_number 2 = .ok (.getfield 145, 3) := by decide +kernel
theorem dX4_number_5 : decode cX4_number 5 = .ok (.iconst 1, 1) := by decide +kernel
theorem dX4_number_6 : decode cX4_number 6 = .ok (.if_icmp .ne 21, 3) := by decide +kernel
theorem dX4_number_9 : decode cX4_number 9 = .ok (.aload_n 0, 1) := by decide +kernel
theorem dX4_number_10 : decode cX4_number 10 = .ok (.getfield 137, 3) := by decide +kernel
theorem dX4_number_13 : decode cX4_number 13 = .ok (.iload_n 1, 1) := by decide +kernel
theorem dX4_number_14 : decode cX4_number 14 = .ok (.i2l, 1) := by decide +kernel
theorem dX4_number_15 : decode cX4_number 15 = .ok (.iload_n 2, 1) := by decide +kernel
theorem dX4_number_16 : decode cX4_number 16 = .ok (.i2l, 1) := by decide +kernel
theorem dX4_number_17 : decode cX4_number 17 = .ok (.invokestatic 33, 3) := by decide +kernel
theorem dX4_number_20 : decode cX4_number 20 = .ok (.ifCond .eq 7, 3) := by decide +kernel
theorem dX4_number_23 : decode cX4_number 23 = .ok (.iconst 1, 1) := by decide +kernel
theorem dX4_number_24 : decode cX4_number 24 = .ok (.goto 4, 3) := by decide +kernel
theorem dX4_number_27 : decode cX4_number 27 = .ok (.iconst 0, 1) := by decide +kernel
theorem dX4_number_28 : decode cX4_number 28 = .ok (.invokevirtual 165, 3) := by decide +kernel
theorem dX4_number_31 : decode cX4_number 31 = .ok (.ireturn, 1) := by decide +kernel
theorem dX4_wayOf_0 : decode cX4_wayOf 0 = .ok (.aload_n 0, 1) := by decide +kernel
theorem dX4_wayOf_1 : decode cX4_wayOf 1 = .ok (.getfield 145, 3) := by decide +kernel
theorem dX4_wayOf_4 : decode cX4_wayOf 4 = .ok (.ifCond .eq 5, 3) := by decide +kernel
theorem dX4_wayOf_7 : decode cX4_wayOf 7 = .ok (.iconst 0, 1) := by decide +kernel
theorem dX4_wayOf_8 : decode cX4_wayOf 8 = .ok (.ireturn, 1) := by decide +kernel
theorem dX4_wayOf_9 : decode cX4_wayOf 9 = .ok (.aload_n 0, 1) := by decide +kernel
theorem dX4_wayOf_10 : decode cX4_wayOf 10 = .ok (.getfield 137, 3) := by decide +kernel
theorem dX4_wayOf_13 : decode cX4_wayOf 13 = .ok (.ldc2_w 169, 3) := by decide +kernel
theorem dX4_wayOf_16 : decode cX4_wayOf 16 = .ok (.lcmp, 1) := by decide +kernel
theorem dX4_wayOf_17 : decode cX4_wayOf 17 = .ok (.ifCond .ne 7, 3) := by decide +kernel
theorem dX4_wayOf_20 : decode cX4_wayOf 20 = .ok (.iconst 1, 1) := by decide +kernel
theorem dX4_wayOf_21 : decode cX4_wayOf 21 = .ok (.goto 49, 3) := by decide +kernel
theorem dX4_wayOf_24 : decode cX4_wayOf 24 = .ok (.aload_n 0, 1) := by decide +kernel
theorem dX4_wayOf_25 : decode cX4_wayOf 25 = .ok (.getfield 137, 3) := by decide +kernel
theorem dX4_wayOf_28 : decode cX4_wayOf 28 = .ok (.ldc2_w 171, 3) := by decide +kernel
theorem dX4_wayOf_31 : decode cX4_wayOf 31 = .ok (.lcmp, 1) := by decide +kernel
theorem dX4_wayOf_32 : decode cX4_wayOf 32 = .ok (.ifCond .ne 7, 3) := by decide +kernel
theorem dX4_wayOf_35 : decode cX4_wayOf 35 = .ok (.iconst 2, 1) := by decide +kernel
theorem dX4_wayOf_36 : decode cX4_wayOf 36 = .ok (.goto 34, 3) := by decide +kernel
theorem dX4_wayOf_39 : decode cX4_wayOf 39 = .ok (.aload_n 0, 1) := by decide +kernel
theorem dX4_wayOf_40 : decode cX4_wayOf 40 = .ok (.getfield 137, 3) := by decide +kernel
theorem dX4_wayOf_43 : decode cX4_wayOf 43 = .ok (.ldc2_w 173, 3) := by decide +kernel
theorem dX4_wayOf_46 : decode cX4_wayOf 46 = .ok (.lcmp, 1) := by decide +kernel
theorem dX4_wayOf_47 : decode cX4_wayOf 47 = .ok (.ifCond .ne 7, 3) := by decide +kernel
theorem dX4_wayOf_50 : decode cX4_wayOf 50 = .ok (.iconst 3, 1) := by decide +kernel
theorem dX4_wayOf_51 : decode cX4_wayOf 51 = .ok (.goto 19, 3) := by decide +kernel
theorem dX4_wayOf_54 : decode cX4_wayOf 54 = .ok (.aload_n 0, 1) := by decide +kernel
theorem dX4_wayOf_55 : decode cX4_wayOf 55 = .ok (.getfield 137, 3) := by decide +kernel
theorem dX4_wayOf_58 : decode cX4_wayOf 58 = .ok (.ldc2_w 175, 3) := by decide +kernel
theorem dX4_wayOf_61 : decode cX4_wayOf 61 = .ok (.lcmp, 1) := by decide +kernel
theorem dX4_wayOf_62 : decode cX4_wayOf 62 = .ok (.ifCond .ne 7, 3) := by decide +kernel
theorem dX4_wayOf_65 : decode cX4_wayOf 65 = .ok (.iconst 4, 1) := by decide +kernel
theorem dX4_wayOf_66 : decode cX4_wayOf 66 = .ok (.goto 4, 3) := by decide +kernel
theorem dX4_wayOf_69 : decode cX4_wayOf 69 = .ok (.iconst 0, 1) := by decide +kernel
theorem dX4_wayOf_70 : decode cX4_wayOf 70 = .ok (.ireturn, 1) := by decide +kernel
theorem dX4_readWord_0 : decode cX4_readWord 0 = .ok (.aload_n 0, 1) := by decide +kernel
theorem dX4_readWord_1 : decode cX4_readWord 1 = .ok (.getfield 134, 3) := by decide +kernel
theorem dX4_readWord_4 : decode cX4_readWord 4 = .ok (.istore_n 1, 1) := by decide +kernel
theorem dX4_readWord_5 : decode cX4_readWord 5 = .ok (.aload_n 0, 1) := by decide +kernel
theorem dX4_readWord_6 : decode cX4_readWord 6 = .ok (.getfield 127, 3) := by decide +kernel
theorem dX4_readWord_9 : decode cX4_readWord 9 = .ok (.aload_n 0, 1) := by decide +kernel
theorem dX4_readWord_10 : decode cX4_readWord 10 = .ok (.getfield 134, 3) := by decide +kernel
theorem dX4_readWord_13 : decode cX4_readWord 13 = .ok (.isub, 1) := by decide +kernel
theorem dX4_readWord_14 : decode cX4_readWord 14 = .ok (.istore_n 2, 1) := by decide +kernel
theorem dX4_readWord_15 : decode cX4_readWord 15 = .ok (.aload_n 0, 1) := by decide +kernel
theorem dX4_readWord_16 : decode cX4_readWord 16 = .ok (.aload_n 0, 1) := by decide +kernel
theorem dX4_readWord_17 : decode cX4_readWord 17 = .ok (.getfield 145, 3) := by decide +kernel
theorem dX4_readWord_20 : decode cX4_readWord 20 = .ok (.ifCond .ne 13, 3) := by decide +kernel
theorem dX4_readWord_23 : decode cX4_readWord 23 = .ok (.iload_n 2, 1) := by decide +kernel
theorem dX4_readWord_24 : decode cX4_readWord 24 = .ok (.bipush 12, 2) := by decide +kernel
theorem dX4_readWord_26 : decode cX4_readWord 26 = .ok (.if_icmp .gt 7, 3) := by decide +kernel
theorem dX4_readWord_29 : decode cX4_readWord 29 = .ok (.iconst 1, 1) := by decide +kernel
theorem dX4_readWord_30 : decode cX4_readWord 30 = .ok (.goto 4, 3) := by decide +kernel
theorem dX4_readWord_33 : decode cX4_readWord 33 = .ok (.iconst 0, 1) := by decide +kernel
theorem dX4_readWord_34 : decode cX4_readWord 34 = .ok (.invokevirtual 165, 3) := by decide +kernel
theorem dX4_readWord_37 : decode cX4_readWord 37 = .ok (.pop, 1) := by decide +kernel
theorem dX4_readWord_38 : decode cX4_readWord 38 = .ok (.aload_n 0, 1) := by decide +kernel
theorem dX4_readWord_39 : decode cX4_readWord 39 = .ok (.iconst 0, 1) := by decide +kernel
theorem dX4_readWord_40 : decode cX4_readWord 40 = .ok (.sipush 2000, 3) := by decide +kernel
theorem dX4_readWord_43 : decode cX4_readWord 43 = .ok (.invokevirtual 177, 3) := by decide +kernel
theorem dX4_readWord_46 : decode cX4_readWord 46 = .ok (.istore_n 3, 1) := by decide +kernel
theorem dX4_readWord_47 : decode cX4_readWord 47 = .ok (.aload_n 0, 1) := by decide +kernel
theorem dX4_readWord_48 : decode cX4_readWord 48 = .ok (.iconst 1, 1) := by decide +kernel
theorem dX4_readWord_49 : decode cX4_readWord 49 = .ok (.bipush 60, 2) := by decide +kernel
theorem dX4_readWord_51 : decode cX4_readWord 51 = .ok (.invokevirtual 177, 3) := by decide +kernel
theorem dX4_readWord_54 : decode cX4_readWord 54 = .ok (.istore 4, 2) := by decide +kernel
theorem dX4_readWord_56 : decode cX4_readWord 56 = .ok (.aload_n 0, 1) := by decide +kernel
theorem dX4_readWord_57 : decode cX4_readWord 57 = .ok (.iconst 0, 1) := by decide +kernel
theorem dX4_readWord_58 : decode cX4_readWord 58 = .ok (.bipush 60, 2) := by decide +kernel
theorem dX4_readWord_60 : decode cX4_readWord 60 = .ok (.invokevirtual 177, 3) := by decide +kernel
theorem dX4_readWord_63 : decode cX4_readWord 63 = .ok (.istore 5, 2) := by decide +kernel
theorem dX4_readWord_65 : decode cX4_readWord 65 = .ok (.aload_n 0, 1) := by decide +kernel
theorem dX4_readWord_66 : decode cX4_readWord 66 = .ok (.getfield 158, 3) := by decide +kernel
theorem dX4_readWord_69 : decode cX4_readWord 69 = .ok (.ifCond .eq 7, 3) := by decide +kernel
theorem dX4_readWord_72 : decode cX4_readWord 72 = .ok (.iconst 0, 1) := by decide +kernel
theorem dX4_readWord_73 : decode cX4_readWord 73 = .ok (.goto 7, 3) := by decide +kernel
theorem dX4_readWord_76 : decode cX4_readWord 76 = .ok (.aload_n 0, 1) := by decide +kernel
theorem dX4_readWord_77 : decode cX4_readWord 77 = .ok (.invokevirtual 180, 3) := by decide +kernel
theorem dX4_readWord_80 : decode cX4_readWord 80 = .ok (.istore 6, 2) := by decide +kernel
theorem dX4_readWord_82 : decode cX4_readWord 82 = .ok (.iload 6, 2) := by decide +kernel
theorem dX4_readWord_84 : decode cX4_readWord 84 = .ok (.ifCond .le 9, 3) := by decide +kernel
theorem dX4_readWord_87 : decode cX4_readWord 87 = .ok (.aload_n 0, 1) := by decide +kernel
theorem dX4_readWord_88 : decode cX4_readWord 88 = .ok (.iconst 1, 1) := by decide +kernel
theorem dX4_readWord_89 : decode cX4_readWord 89 = .ok (.invokevirtual 165, 3) := by decide +kernel
theorem dX4_readWord_92 : decode cX4_readWord 92 = .ok (.pop, 1) := by decide +kernel
theorem dX4_readWord_93 : decode cX4_readWord 93 = .ok (.aload_n 0, 1) := by decide +kernel
theorem dX4_readWord_94 : decode cX4_readWord 94 = .ok (.aload_n 0, 1) := by decide +kernel
theorem dX4_readWord_95 : decode cX4_readWord 95 = .ok (.getfield 145, 3) := by decide +kernel
theorem dX4_readWord_98 : decode cX4_readWord 98 = .ok (.iconst 2, 1) := by decide +kernel
theorem dX4_readWord_99 : decode cX4_readWord 99 = .ok (.if_icmp .ne 7, 3) := by decide +kernel
theorem dX4_readWord_102 : decode cX4_readWord 102 = .ok (.iconst 1, 1) := by decide +kernel
theorem dX4_readWord_103 : decode cX4_readWord 103 = .ok (.goto 4, 3) := by decide +kernel
theorem dX4_readWord_106 : decode cX4_readWord 106 = .ok (.iconst 0, 1) := by decide +kernel
theorem dX4_readWord_107 : decode cX4_readWord 107 = .ok (.invokevirtual 165, 3) := by decide +kernel
theorem dX4_readWord_110 : decode cX4_readWord 110 = .ok (.pop, 1) := by decide +kernel
theorem dX4_readWord_111 : decode cX4_readWord 111 = .ok (.aload_n 0, 1) := by decide +kernel
theorem dX4_readWord_112 : decode cX4_readWord 112 = .ok (.getfield 158, 3) := by decide +kernel
theorem dX4_readWord_115 : decode cX4_readWord 115 = .ok (.ifCond .ne 52, 3) := by decide +kernel
theorem dX4_readWord_118 : decode cX4_readWord 118 = .ok (.aload_n 0, 1) := by decide +kernel
theorem dX4_readWord_119 : decode cX4_readWord 119 = .ok (.iload_n 2, 1) := by decide +kernel
theorem dX4_readWord_120 : decode cX4_readWord 120 = .ok (.iload_n 3, 1) := by decide +kernel
theorem dX4_readWord_121 : decode cX4_readWord 121 = .ok (.iload 4, 2) := by decide +kernel
theorem dX4_readWord_123 : decode cX4_readWord 123 = .ok (.iload 5, 2) := by decide +kernel
theorem dX4_readWord_125 : decode cX4_readWord 125 = .ok (.iload 6, 2) := by decide +kernel
theorem dX4_readWord_127 : decode cX4_readWord 127 = .ok (.invokevirtual 99, 3) := by decide +kernel
theorem dX4_readWord_130 : decode cX4_readWord 130 = .ok (.istore 7, 2) := by decide +kernel
theorem dX4_readWord_132 : decode cX4_readWord 132 = .ok (.iconst 0, 1) := by decide +kernel
theorem dX4_readWord_133 : decode cX4_readWord 133 = .ok (.istore 8, 2) := by decide +kernel
theorem dX4_readWord_135 : decode cX4_readWord 135 = .ok (.iload 8, 2) := by decide +kernel
theorem dX4_readWord_137 : decode cX4_readWord 137 = .ok (.iload_n 2, 1) := by decide +kernel
theorem dX4_readWord_138 : decode cX4_readWord 138 = .ok (.if_icmp .ge 29, 3) := by decide +kernel
theorem dX4_readWord_141 : decode cX4_readWord 141 = .ok (.aload_n 0, 1) := by decide +kernel
theorem dX4_readWord_142 : decode cX4_readWord 142 = .ok (.iload 7, 2) := by decide +kernel
theorem dX4_readWord_144 : decode cX4_readWord 144 = .ok (.bipush 7, 2) := by decide +kernel
theorem dX4_readWord_146 : decode cX4_readWord 146 = .ok (.iload 8, 2) := by decide +kernel
theorem dX4_readWord_148 : decode cX4_readWord 148 = .ok (.iadd, 1) := by decide +kernel
theorem dX4_readWord_149 : decode cX4_readWord 149 = .ok (.aload_n 0, 1) := by decide +kernel
theorem dX4_readWord_150 : decode cX4_readWord 150 = .ok (.getfield 19, 3) := by decide +kernel
theorem dX4_readWord_153 : decode cX4_readWord 153 = .ok (.iload_n 1, 1) := by decide +kernel
theorem dX4_readWord_154 : decode cX4_readWord 154 = .ok (.iload 8, 2) := by decide +kernel
theorem dX4_readWord_156 : decode cX4_readWord 156 = .ok (.iadd, 1) := by decide +kernel
theorem dX4_readWord_157 : decode cX4_readWord 157 = .ok (.iaload, 1) := by decide +kernel
theorem dX4_readWord_158 : decode cX4_readWord 158 = .ok (.invokevirtual 81, 3) := by decide +kernel
theorem dX4_readWord_161 : decode cX4_readWord 161 = .ok (.iinc 8 1, 3) := by decide +kernel
theorem dX4_readWord_164 : decode cX4_readWord 164 = .ok (.goto (-29), 3) := by decide +kernel
theorem dX4_readWord_167 : decode cX4_readWord 167 = .ok (.return_, 1) := by decide +kernel
theorem dX4_readShot_0 : decode cX4_readShot 0 = .ok (.aload_n 0, 1) := by decide +kernel
theorem dX4_readShot_1 : decode cX4_readShot 1 = .ok (.aload_n 0, 1) := by decide +kernel
theorem dX4_readShot_2 : decode cX4_readShot 2 = .ok (.getfield 145, 3) := by decide +kernel
theorem dX4_readShot_5 : decode cX4_readShot 5 = .ok (.iconst 1, 1) := by decide +kernel
theorem dX4_readShot_6 : decode cX4_readShot 6 = .ok (.if_icmp .ne 35, 3) := by decide +kernel
theorem dX4_readShot_9 : decode cX4_readShot 9 = .ok (.aload_n 0, 1) := by decide +kernel
theorem dX4_readShot_10 : decode cX4_readShot 10 = .ok (.getfield 137, 3) := by decide +kernel
theorem dX4_readShot_13 : decode cX4_readShot 13 = .ok (.lconst 1, 1) := by decide +kernel
theorem dX4_readShot_14 : decode cX4_readShot 14 = .ok (.ldc2_w 110, 3) := by decide +kernel
theorem dX4_readShot_17 : decode cX4_readShot 17 = .ok (.invokestatic 33, 3) := by decide +kernel
theorem dX4_readShot_20 : decode cX4_readShot 20 = .ok (.ifCond .eq 21, 3) := by decide +kernel
theorem dX4_readShot_23 : decode cX4_readShot 23 = .ok (.aload_n 0, 1) := by decide +kernel
theorem dX4_readShot_24 : decode cX4_readShot 24 = .ok (.aload_n 0, 1) := by decide +kernel
theorem dX4_readShot_25 : decode cX4_readShot 25 = .ok (.getfield 137, 3) := by decide +kernel
theorem dX4_readShot_28 : decode cX4_readShot 28 = .ok (.l2i, 1) := by decide +kernel
theorem dX4_readShot_29 : decode cX4_readShot 29 = .ok (.invokevirtual 112, 3) := by decide +kernel
theorem dX4_readShot_32 : decode cX4_readShot 32 = .ok (.bipush (-19), 2) := by decide +kernel
theorem dX4_readShot_34 : decode cX4_readShot 34 = .ok (.if_icmp .ne 7, 3) := by decide +kernel
theorem dX4_readShot_37 : decode cX4_readShot 37 = .ok (.iconst 1, 1) := by decide +kernel
theorem dX4_readShot_38 : decode cX4_readShot 38 = .ok (.goto 4, 3) := by decide +kernel
theorem dX4_readShot_41 : decode cX4_readShot 41 = .ok (.iconst 0, 1) := by decide +kernel
theorem dX4_readShot_42 : decode cX4_readShot 42 = .ok (.invokevirtual 165, 3) := by decide +kernel
theorem dX4_readShot_45 : decode cX4_readShot 45 = .ok (.istore_n 1, 1) := by decide +kernel
theorem dX4_readShot_46 : decode cX4_readShot 46 = .ok (.aload_n 0, 1) := by decide +kernel
theorem dX4_readShot_47 : decode cX4_readShot 47 = .ok (.aload_n 0, 1) := by decide +kernel
theorem dX4_readShot_48 : decode cX4_readShot 48 = .ok (.getfield 145, 3) := by decide +kernel
theorem dX4_readShot_51 : decode cX4_readShot 51 = .ok (.iconst 2, 1) := by decide +kernel
theorem dX4_readShot_52 : decode cX4_readShot 52 = .ok (.if_icmp .ne 7, 3) := by decide +kernel
theorem dX4_readShot_55 : decode cX4_readShot 55 = .ok (.iconst 1, 1) := by decide +kernel
theorem dX4_readShot_56 : decode cX4_readShot 56 = .ok (.goto 4, 3) := by decide +kernel
theorem dX4_readShot_59 : decode cX4_readShot 59 = .ok (.iconst 0, 1) := by decide +kernel
theorem dX4_readShot_60 : decode cX4_readShot 60 = .ok (.invokevirtual 165, 3) := by decide +kernel
theorem dX4_readShot_63 : decode cX4_readShot 63 = .ok (.pop, 1) := by decide +kernel
theorem dX4_readShot_64 : decode cX4_readShot 64 = .ok (.aload_n 0, 1) := by decide +kernel
theorem dX4_readShot_65 : decode cX4_readShot 65 = .ok (.getfield 158, 3) := by decide +kernel
theorem dX4_readShot_68 : decode cX4_readShot 68 = .ok (.ifCond .ne 8, 3) := by decide +kernel
theorem dX4_readShot_71 : decode cX4_readShot 71 = .ok (.aload_n 0, 1) := by decide +kernel
theorem dX4_readShot_72 : decode cX4_readShot 72 = .ok (.iload_n 1, 1) := by decide +kernel
theorem dX4_readShot_73 : decode cX4_readShot 73 = .ok (.invokevirtual 115, 3) := by decide +kernel
theorem dX4_readShot_76 : decode cX4_readShot 76 = .ok (.return_, 1) := by decide +kernel
theorem dX4_readItem_0 : decode cX4_readItem 0 = .ok (.aload_n 0, 1) := by decide +kernel
theorem dX4_readItem_1 : decode cX4_readItem 1 = .ok (.getfield 145, 3) := by decide +kernel
theorem dX4_readItem_4 : decode cX4_readItem 4 = .ok (.ifCond .ne 18, 3) := by decide +kernel
theorem dX4_readItem_7 : decode cX4_readItem 7 = .ok (.aload_n 0, 1) := by decide +kernel
theorem dX4_readItem_8 : decode cX4_readItem 8 = .ok (.getfield 137, 3) := by decide +kernel
theorem dX4_readItem_11 : decode cX4_readItem 11 = .ok (.ldc2_w 183, 3) := by decide +kernel
theorem dX4_readItem_14 : decode cX4_readItem 14 = .ok (.lcmp, 1) := by decide +kernel
theorem dX4_readItem_15 : decode cX4_readItem 15 = .ok (.ifCond .ne 7, 3) := by decide +kernel
theorem dX4_readItem_18 : decode cX4_readItem 18 = .ok (.iconst 1, 1) := by decide +kernel
theorem dX4_readItem_19 : decode cX4_readItem 19 = .ok (.goto 4, 3) := by decide +kernel
theorem dX4_readItem_22 : decode cX4_readItem 22 = .ok (.iconst 0, 1) := by decide +kernel
theorem dX4_readItem_23 : decode cX4_readItem 23 = .ok (.istore_n 1, 1) := by decide +kernel
theorem dX4_readItem_24 : decode cX4_readItem 24 = .ok (.aload_n 0, 1) := by decide +kernel
theorem dX4_readItem_25 : decode cX4_readItem 25 = .ok (.getfield 145, 3) := by decide +kernel
theorem dX4_readItem_28 : decode cX4_readItem 28 = .ok (.ifCond .ne 18, 3) := by decide +kernel
theorem dX4_readItem_31 : decode cX4_readItem 31 = .ok (.aload_n 0, 1) := by decide +kernel
theorem dX4_readItem_32 : decode cX4_readItem 32 = .ok (.getfield 137, 3) := by decide +kernel
theorem dX4_readItem_35 : decode cX4_readItem 35 = .ok (.ldc2_w 185, 3) := by decide +kernel
theorem dX4_readItem_38 : decode cX4_readItem 38 = .ok (.lcmp, 1) := by decide +kernel
theorem dX4_readItem_39 : decode cX4_readItem 39 = .ok (.ifCond .ne 7, 3) := by decide +kernel
theorem dX4_readItem_42 : decode cX4_readItem 42 = .ok (.iconst 1, 1) := by decide +kernel
theorem dX4_readItem_43 : decode cX4_readItem 43 = .ok (.goto 4, 3) := by decide +kernel
theorem dX4_readItem_46 : decode cX4_readItem 46 = .ok (.iconst 0, 1) := by decide +kernel
theorem dX4_readItem_47 : decode cX4_readItem 47 = .ok (.istore_n 2, 1) := by decide +kernel
theorem dX4_readItem_48 : decode cX4_readItem 48 = .ok (.aload_n 0, 1) := by decide +kernel
theorem dX4_readItem_49 : decode cX4_readItem 49 = .ok (.iload_n 1, 1) := by decide +kernel
theorem dX4_readItem_50 : decode cX4_readItem 50 = .ok (.ifCond .eq 14, 3) := by decide +kernel
theorem dX4_readItem_53 : decode cX4_readItem 53 = .ok (.aload_n 0, 1) := by decide +kernel
theorem dX4_readItem_54 : decode cX4_readItem 54 = .ok (.getfield 7, 3) := by decide +kernel
theorem dX4_readItem_57 : decode cX4_readItem 57 = .ok (.iconst 0, 1) := by decide +kernel
theorem dX4_readItem_58 : decode cX4_readItem 58 = .ok (.iaload, 1) := by decide +kernel
theorem dX4_readItem_59 : decode cX4_readItem 59 = .ok (.bipush 12, 2) := by decide +kernel
theorem dX4_readItem_61 : decode cX4_readItem 61 = .ok (.if_icmp .lt 18, 3) := by decide +kernel
theorem dX4_readItem_64 : decode cX4_readItem 64 = .ok (.iload_n 2, 1) := by decide +kernel
theorem dX4_readItem_65 : decode cX4_readItem 65 = .ok (.ifCond .eq 18, 3) := by decide +kernel
theorem dX4_readItem_68 : decode cX4_readItem 68 = .ok (.aload_n 0, 1) := by decide +kernel
theorem dX4_readItem_69 : decode cX4_readItem 69 = .ok (.getfield 7, 3) := by decide +kernel
theorem dX4_readItem_72 : decode cX4_readItem 72 = .ok (.iconst 1, 1) := by decide +kernel
theorem dX4_readItem_73 : decode cX4_readItem 73 = .ok (.iaload, 1) := by decide +kernel
theorem dX4_readItem_74 : decode cX4_readItem 74 = .ok (.bipush 10, 2) := by decide +kernel
theorem dX4_readItem_76 : decode cX4_readItem 76 = .ok (.if_icmp .ge 7, 3) := by decide +kernel
theorem dX4_readItem_79 : decode cX4_readItem 79 = .ok (.iconst 1, 1) := by decide +kernel
theorem dX4_readItem_80 : decode cX4_readItem 80 = .ok (.goto 4, 3) := by decide +kernel
theorem dX4_readItem_83 : decode cX4_readItem 83 = .ok (.iconst 0, 1) := by decide +kernel
theorem dX4_readItem_84 : decode cX4_readItem 84 = .ok (.invokevirtual 165, 3) := by decide +kernel
theorem dX4_readItem_87 : decode cX4_readItem 87 = .ok (.pop, 1) := by decide +kernel
theorem dX4_readItem_88 : decode cX4_readItem 88 = .ok (.aload_n 0, 1) := by decide +kernel
theorem dX4_readItem_89 : decode cX4_readItem 89 = .ok (.getfield 158, 3) := by decide +kernel
theorem dX4_readItem_92 : decode cX4_readItem 92 = .ok (.ifCond .eq 4, 3) := by decide +kernel
theorem dX4_readItem_95 : decode cX4_readItem 95 = .ok (.return_, 1) := by decide +kernel
theorem dX4_readItem_96 : decode cX4_readItem 96 = .ok (.iload_n 1, 1) := by decide +kernel
theorem dX4_readItem_97 : decode cX4_readItem 97 = .ok (.ifCond .eq 10, 3) := by decide +kernel
theorem dX4_readItem_100 : decode cX4_readItem 100 = .ok (.aload_n 0, 1) := by decide +kernel
theorem dX4_readItem_101 : decode cX4_readItem 101 = .ok (.invokevirtual 187, 3) := by decide +kernel
theorem dX4_readItem_104 : decode cX4_readItem 104 = .ok (.goto 7, 3) := by decide +kernel
theorem dX4_readItem_107 : decode cX4_readItem 107 = .ok (.aload_n 0, 1) := by decide +kernel
theorem dX4_readItem_108 : decode cX4_readItem 108 = .ok (.invokevirtual 190, 3) := by decide +kernel
theorem dX4_readItem_111 : decode cX4_readItem 111 = .ok (.return_, 1) := by decide +kernel
theorem dX4_exchange_0 : decode cX4_exchange 0 = .ok (.iconst 0, 1) := by decide +kernel
theorem dX4_exchange_1 : decode cX4_exchange 1 = .ok (.istore_n 1, 1) := by decide +kernel
theorem dX4_exchange_2 : decode cX4_exchange 2 = .ok (.iload_n 1, 1) := by decide +kernel
theorem dX4_exchange_3 : decode cX4_exchange 3 = .ok (.sipush 241, 3) := by decide +kernel
theorem dX4_exchange_6 : decode cX4_exchange 6 = .ok (.if_icmp .ge 35, 3) := by decide +kernel
theorem dX4_exchange_9 : decode cX4_exchange 9 = .ok (.aload_n 0, 1) := by decide +kernel
theorem dX4_exchange_10 : decode cX4_exchange 10 = .ok (.getfield 7, 3) := by decide +kernel
theorem dX4_exchange_13 : decode cX4_exchange 13 = .ok (.iload_n 1, 1) := by decide +kernel
theorem dX4_exchange_14 : decode cX4_exchange 14 = .ok (.iaload, 1) := by decide +kernel
theorem dX4_exchange_15 : decode cX4_exchange 15 = .ok (.istore_n 2, 1) := by decide +kernel
theorem dX4_exchange_16 : decode cX4_exchange 16 = .ok (.aload_n 0, 1) := by decide +kernel
theorem dX4_exchange_17 : decode cX4_exchange 17 = .ok (.getfield 7, 3) := by decide +kernel
theorem dX4_exchange_20 : decode cX4_exchange 20 = .ok (.iload_n 1, 1) := by decide +kernel
theorem dX4_exchange_21 : decode cX4_exchange 21 = .ok (.aload_n 0, 1) := by decide +kernel
theorem dX4_exchange_22 : decode cX4_exchange 22 = .ok (.getfield 13, 3) := by decide +kernel
theorem dX4_exchange_25 : decode cX4_exchange 25 = .ok (.iload_n 1, 1) := by decide +kernel
theorem dX4_exchange_26 : decode cX4_exchange 26 = .ok (.iaload, 1) := by decide +kernel
theorem dX4_exchange_27 : decode cX4_exchange 27 = .ok (.iastore, 1) := by decide +kernel
theorem dX4_exchange_28 : decode cX4_exchange 28 = .ok (.aload_n 0, 1) := by decide +kernel
theorem dX4_exchange_29 : decode cX4_exchange 29 = .ok (.getfield 13, 3) := by decide +kernel
theorem dX4_exchange_32 : decode cX4_exchange 32 = .ok (.iload_n 1, 1) := by decide +kernel
theorem dX4_exchange_33 : decode cX4_exchange 33 = .ok (.iload_n 2, 1) := by decide +kernel
theorem dX4_exchange_34 : decode cX4_exchange 34 = .ok (.iastore, 1) := by decide +kernel
theorem dX4_exchange_35 : decode cX4_exchange 35 = .ok (.iinc 1 1, 3) := by decide +kernel
theorem dX4_exchange_38 : decode cX4_exchange 38 = .ok (.goto (-36), 3) := by decide +kernel
theorem dX4_exchange_41 : decode cX4_exchange 41 = .ok (.return_, 1) := by decide +kernel
theorem dX4_hold_0 : decode cX4_hold 0 = .ok (.iconst 0, 1) := by decide +kernel
theorem dX4_hold_1 : decode cX4_hold 1 = .ok (.istore_n 1, 1) := by decide +kernel
theorem dX4_hold_2 : decode cX4_hold 2 = .ok (.iload_n 1, 1) := by decide +kernel
theorem dX4_hold_3 : decode cX4_hold 3 = .ok (.sipush 241, 3) := by decide +kernel
theorem dX4_hold_6 : decode cX4_hold 6 = .ok (.if_icmp .ge 21, 3) := by decide +kernel
theorem dX4_hold_9 : decode cX4_hold 9 = .ok (.aload_n 0, 1) := by decide +kernel
theorem dX4_hold_10 : decode cX4_hold 10 = .ok (.getfield 13, 3) := by decide +kernel
theorem dX4_hold_13 : decode cX4_hold 13 = .ok (.iload_n 1, 1) := by decide +kernel
theorem dX4_hold_14 : decode cX4_hold 14 = .ok (.aload_n 0, 1) := by decide +kernel
theorem dX4_hold_15 : decode cX4_hold 15 = .ok (.getfield 7, 3) := by decide +kernel
theorem dX4_hold_18 : decode cX4_hold 18 = .ok (.iload_n 1, 1) := by decide +kernel
theorem dX4_hold_19 : decode cX4_hold 19 = .ok (.iaload, 1) := by decide +kernel
theorem dX4_hold_20 : decode cX4_hold 20 = .ok (.iastore, 1) := by decide +kernel
theorem dX4_hold_21 : decode cX4_hold 21 = .ok (.iinc 1 1, 3) := by decide +kernel
theorem dX4_hold_24 : decode cX4_hold 24 = .ok (.goto (-22), 3) := by decide +kernel
theorem dX4_hold_27 : decode cX4_hold 27 = .ok (.return_, 1) := by decide +kernel
theorem dX4_load_0 : decode cX4_load 0 = .ok (.aload_n 0, 1) := by decide +kernel
theorem dX4_load_1 : decode cX4_load 1 = .ok (.iconst 0, 1) := by decide +kernel
theorem dX4_load_2 : decode cX4_load 2 = .ok (.putfield 26, 3) := by decide +kernel
theorem dX4_load_5 : decode cX4_load 5 = .ok (.aload_n 0, 1) := by decide +kernel
theorem dX4_load_6 : decode cX4_load 6 = .ok (.invokevirtual 193, 3) := by decide +kernel
theorem dX4_load_9 : decode cX4_load 9 = .ok (.aload_n 0, 1) := by decide +kernel
theorem dX4_load_10 : decode cX4_load 10 = .ok (.iconst 0, 1) := by decide +kernel
theorem dX4_load_11 : decode cX4_load 11 = .ok (.putfield 127, 3) := by decide +kernel
theorem dX4_load_14 : decode cX4_load 14 = .ok (.aload_n 0, 1) := by decide +kernel
theorem dX4_load_15 : decode cX4_load 15 = .ok (.iconst 0, 1) := by decide +kernel
theorem dX4_load_16 : decode cX4_load 16 = .ok (.putfield 158, 3) := by decide +kernel
theorem dX4_load_19 : decode cX4_load 19 = .ok (.iconst 0, 1) := by decide +kernel
theorem dX4_load_20 : decode cX4_load 20 = .ok (.istore_n 1, 1) := by decide +kernel
theorem dX4_load_21 : decode cX4_load 21 = .ok (.aload_n 0, 1) := by decide +kernel
theorem dX4_load_22 : decode cX4_load 22 = .ok (.invokevirtual 162, 3) := by decide +kernel
theorem dX4_load_25 : decode cX4_load 25 = .ok (.aload_n 0, 1) := by decide +kernel
theorem dX4_load_26 : decode cX4_load 26 = .ok (.getfield 158, 3) := by decide +kernel
theorem dX4_load_29 : decode cX4_load 29 = .ok (.ifCond .ne 21, 3) := by decide +kernel
theorem dX4_load_32 : decode cX4_load 32 = .ok (.aload_n 0, 1) := by decide +kernel
theorem dX4_load_33 : decode cX4_load 33 = .ok (.getfield 145, 3) := by decide +kernel
theorem dX4_load_36 : decode cX4_load 36 = .ok (.iconst 4, 1) := by decide +kernel
theorem dX4_load_37 : decode cX4_load 37 = .ok (.if_icmp .eq 13, 3) := by decide +kernel
theorem dX4_load_40 : decode cX4_load 40 = .ok (.aload_n 0, 1) := by decide +kernel
theorem dX4_load_41 : decode cX4_load 41 = .ok (.invokevirtual 196, 3) := by decide +kernel
theorem dX4_load_44 : decode cX4_load 44 = .ok (.iinc 1 1, 3) := by decide +kernel
theorem dX4_load_47 : decode cX4_load 47 = .ok (.goto (-22), 3) := by decide +kernel
theorem dX4_load_50 : decode cX4_load 50 = .ok (.aload_n 0, 1) := by decide +kernel
theorem dX4_load_51 : decode cX4_load 51 = .ok (.invokevirtual 199, 3) := by decide +kernel
theorem dX4_load_54 : decode cX4_load 54 = .ok (.aload_n 0, 1) := by decide +kernel
theorem dX4_load_55 : decode cX4_load 55 = .ok (.getfield 158, 3) := by decide +kernel
theorem dX4_load_58 : decode cX4_load 58 = .ok (.ifCond .eq 12, 3) := by decide +kernel
theorem dX4_load_61 : decode cX4_load 61 = .ok (.sipush (-1000), 3) := by decide +kernel
theorem dX4_load_64 : decode cX4_load 64 = .ok (.aload_n 0, 1) := by decide +kernel
theorem dX4_load_65 : decode cX4_load 65 = .ok (.getfield 134, 3) := by decide +kernel
theorem dX4_load_68 : decode cX4_load 68 = .ok (.isub, 1) := by decide +kernel
theorem dX4_load_69 : decode cX4_load 69 = .ok (.ireturn, 1) := by decide +kernel
theorem dX4_load_70 : decode cX4_load 70 = .ok (.aload_n 0, 1) := by decide +kernel
theorem dX4_load_71 : decode cX4_load 71 = .ok (.invokevirtual 96, 3) := by decide +kernel
theorem dX4_load_74 : decode cX4_load 74 = .ok (.aload_n 0, 1) := by decide +kernel
theorem dX4_load_75 : decode cX4_load 75 = .ok (.invokevirtual 199, 3) := by decide +kernel
theorem dX4_load_78 : decode cX4_load 78 = .ok (.aload_n 0, 1) := by decide +kernel
theorem dX4_load_79 : decode cX4_load 79 = .ok (.iconst 0, 1) := by decide +kernel
theorem dX4_load_80 : decode cX4_load 80 = .ok (.putfield 124, 3) := by decide +kernel
theorem dX4_load_83 : decode cX4_load 83 = .ok (.iload_n 1, 1) := by decide +kernel
theorem dX4_load_84 : decode cX4_load 84 = .ok (.ireturn, 1) := by decide +kernel
theorem dX4_isPlace_0 : decode cX4_isPlace 0 = .ok (.aload_n 0, 1) := by decide +kernel
theorem dX4_isPlace_1 : decode cX4_isPlace 1 = .ok (.iload_n 1, 1) := by decide +kernel
theorem dX4_isPlace_2 : decode cX4_isPlace 2 = .ok (.invokevirtual 103, 3) := by decide +kernel
theorem dX4_isPlace_5 : decode cX4_isPlace 5 = .ok (.ifCond .eq 39, 3) := by decide +kernel
theorem dX4_isPlace_8 : decode cX4_isPlace 8 = .ok (.iload_n 2, 1) := by decide +kernel
theorem dX4_isPlace_9 : decode cX4_isPlace 9 = .ok (.i2l, 1) := by decide +kernel
theorem dX4_isPlace_10 : decode cX4_isPlace 10 = .ok (.lconst 0, 1) := by decide +kernel
theorem dX4_isPlace_11 : decode cX4_isPlace 11 = .ok (.ldc2_w 62, 3) := by decide +kernel
theorem dX4_isPlace_14 : decode cX4_isPlace 14 = .ok (.invokestatic 33, 3) := by decide +kernel
theorem dX4_isPlace_17 : decode cX4_isPlace 17 = .ok (.ifCond .eq 27, 3) := by decide +kernel
theorem dX4_isPlace_20 : decode cX4_isPlace 20 = .ok (.iload_n 3, 1) := by decide +kernel
theorem dX4_isPlace_21 : decode cX4_isPlace 21 = .ok (.i2l, 1) := by decide +kernel
theorem dX4_isPlace_22 : decode cX4_isPlace 22 = .ok (.lconst 0, 1) := by decide +kernel
theorem dX4_isPlace_23 : decode cX4_isPlace 23 = .ok (.bipush 40, 2) := by decide +kernel
theorem dX4_isPlace_25 : decode cX4_isPlace 25 = .ok (.aload_n 0, 1) := by decide +kernel
theorem dX4_isPlace_26 : decode cX4_isPlace 26 = .ok (.iload_n 1, 1) := by decide +kernel
theorem dX4_isPlace_27 : decode cX4_isPlace 27 = .ok (.bipush 6, 2) := by decide +kernel
theorem dX4_isPlace_29 : decode cX4_isPlace 29 = .ok (.invokevirtual 37, 3) := by decide +kernel
theorem dX4_isPlace_32 : decode cX4_isPlace 32 = .ok (.isub, 1) := by decide +kernel
theorem dX4_isPlace_33 : decode cX4_isPlace 33 = .ok (.i2l, 1) := by decide +kernel
theorem dX4_isPlace_34 : decode cX4_isPlace 34 = .ok (.invokestatic 33, 3) := by decide +kernel
theorem dX4_isPlace_37 : decode cX4_isPlace 37 = .ok (.ifCond .eq 7, 3) := by decide +kernel
theorem dX4_isPlace_40 : decode cX4_isPlace 40 = .ok (.iconst 1, 1) := by decide +kernel
theorem dX4_isPlace_41 : decode cX4_isPlace 41 = .ok (.goto 4, 3) := by decide +kernel
theorem dX4_isPlace_44 : decode cX4_isPlace 44 = .ok (.iconst 0, 1) := by decide +kernel
theorem dX4_isPlace_45 : decode cX4_isPlace 45 = .ok (.ireturn, 1) := by decide +kernel
theorem dX4_lay_0 : decode cX4_lay 0 = .ok (.aload_n 0, 1) := by decide +kernel
theorem dX4_lay_1 : decode cX4_lay 1 = .ok (.iload_n 1, 1) := by decide +kernel
theorem dX4_lay_2 : decode cX4_lay 2 = .ok (.iconst 4, 1) := by decide +kernel
theorem dX4_lay_3 : decode cX4_lay 3 = .ok (.iload_n 2, 1) := by decide +kernel
theorem dX4_lay_4 : decode cX4_lay 4 = .ok (.invokevirtual 81, 3) := by decide +kernel
theorem dX4_lay_7 : decode cX4_lay 7 = .ok (.aload_n 0, 1) := by decide +kernel
theorem dX4_lay_8 : decode cX4_lay 8 = .ok (.iload_n 1, 1) := by decide +kernel
theorem dX4_lay_9 : decode cX4_lay 9 = .ok (.iconst 5, 1) := by decide +kernel
theorem dX4_lay_10 : decode cX4_lay 10 = .ok (.iload_n 3, 1) := by decide +kernel
theorem dX4_lay_11 : decode cX4_lay 11 = .ok (.invokevirtual 81, 3) := by decide +kernel
theorem dX4_lay_14 : decode cX4_lay 14 = .ok (.return_, 1) := by decide +kernel
theorem dX4_put_0 : decode cX4_put 0 = .ok (.aload_n 0, 1) := by decide +kernel
theorem dX4_put_1 : decode cX4_put 1 = .ok (.iconst 0, 1) := by decide +kernel
theorem dX4_put_2 : decode cX4_put 2 = .ok (.putfield 26, 3) := by decide +kernel
theorem dX4_put_5 : decode cX4_put 5 = .ok (.aload_n 0, 1) := by decide +kernel
theorem dX4_put_6 : decode cX4_put 6 = .ok (.iload_n 1, 1) := by decide +kernel
theorem dX4_put_7 : decode cX4_put 7 = .ok (.iload_n 2, 1) := by decide +kernel
theorem dX4_put_8 : decode cX4_put 8 = .ok (.iload_n 3, 1) := by decide +kernel
theorem dX4_put_9 : decode cX4_put 9 = .ok (.invokevirtual 202, 3) := by decide +kernel
theorem dX4_put_12 : decode cX4_put 12 = .ok (.ifCond .ne 6, 3) := by decide +kernel
theorem dX4_put_15 : decode cX4_put 15 = .ok (.bipush (-11), 2) := by decide +kernel
theorem dX4_put_17 : decode cX4_put 17 = .ok (.ireturn, 1) := by decide +kernel
theorem dX4_put_18 : decode cX4_put 18 = .ok (.aload_n 0, 1) := by decide +kernel
theorem dX4_put_19 : decode cX4_put 19 = .ok (.invokevirtual 193, 3) := by decide +kernel
theorem dX4_put_22 : decode cX4_put 22 = .ok (.aload_n 0, 1) := by decide +kernel
theorem dX4_put_23 : decode cX4_put 23 = .ok (.iload_n 1, 1) := by decide +kernel
theorem dX4_put_24 : decode cX4_put 24 = .ok (.iload_n 2, 1) := by decide +kernel
theorem dX4_put_25 : decode cX4_put 25 = .ok (.iload_n 3, 1) := by decide +kernel
theorem dX4_put_26 : decode cX4_put 26 = .ok (.invokevirtual 205, 3) := by decide +kernel
theorem dX4_put_29 : decode cX4_put 29 = .ok (.aload_n 0, 1) := by decide +kernel
theorem dX4_put_30 : decode cX4_put 30 = .ok (.iload_n 1, 1) := by decide +kernel
theorem dX4_put_31 : decode cX4_put 31 = .ok (.invokevirtual 208, 3) := by decide +kernel
theorem dX4_put_34 : decode cX4_put 34 = .ok (.istore 4, 2) := by decide +kernel
theorem dX4_put_36 : decode cX4_put 36 = .ok (.aload_n 0, 1) := by decide +kernel
theorem dX4_put_37 : decode cX4_put 37 = .ok (.invokevirtual 199, 3) := by decide +kernel
theorem dX4_put_40 : decode cX4_put 40 = .ok (.iload 4, 2) := by decide +kernel
theorem dX4_put_42 : decode cX4_put 42 = .ok (.ifCond .eq 6, 3) := by decide +kernel
theorem dX4_put_45 : decode cX4_put 45 = .ok (.bipush (-12), 2) := by decide +kernel
theorem dX4_put_47 : decode cX4_put 47 = .ok (.ireturn, 1) := by decide +kernel
theorem dX4_put_48 : decode cX4_put 48 = .ok (.aload_n 0, 1) := by decide +kernel
theorem dX4_put_49 : decode cX4_put 49 = .ok (.invokevirtual 96, 3) := by decide +kernel
theorem dX4_put_52 : decode cX4_put 52 = .ok (.aload_n 0, 1) := by decide +kernel
theorem dX4_put_53 : decode cX4_put 53 = .ok (.iload_n 1, 1) := by decide +kernel
theorem dX4_put_54 : decode cX4_put 54 = .ok (.iload_n 2, 1) := by decide +kernel
theorem dX4_put_55 : decode cX4_put 55 = .ok (.iload_n 3, 1) := by decide +kernel
theorem dX4_put_56 : decode cX4_put 56 = .ok (.invokevirtual 205, 3) := by decide +kernel
theorem dX4_put_59 : decode cX4_put 59 = .ok (.aload_n 0, 1) := by decide +kernel
theorem dX4_put_60 : decode cX4_put 60 = .ok (.invokevirtual 211, 3) := by decide +kernel
theorem dX4_put_63 : decode cX4_put 63 = .ok (.ireturn, 1) := by decide +kernel
theorem dX4_take_0 : decode cX4_take 0 = .ok (.aload_n 0, 1) := by decide +kernel
theorem dX4_take_1 : decode cX4_take 1 = .ok (.iconst 0, 1) := by decide +kernel
theorem dX4_take_2 : decode cX4_take 2 = .ok (.putfield 26, 3) := by decide +kernel
theorem dX4_take_5 : decode cX4_take 5 = .ok (.aload_n 0, 1) := by decide +kernel
theorem dX4_take_6 : decode cX4_take 6 = .ok (.iload_n 1, 1) := by decide +kernel
theorem dX4_take_7 : decode cX4_take 7 = .ok (.invokevirtual 103, 3) := by decide +kernel
theorem dX4_take_10 : decode cX4_take 10 = .ok (.ifCond .ne 6, 3) := by decide +kernel
theorem dX4_take_13 : decode cX4_take 13 = .ok (.bipush (-11), 2) := by decide +kernel
theorem dX4_take_15 : decode cX4_take 15 = .ok (.ireturn, 1) := by decide +kernel
theorem dX4_take_16 : decode cX4_take 16 = .ok (.aload_n 0, 1) := by decide +kernel
theorem dX4_take_17 : decode cX4_take 17 = .ok (.iload_n 1, 1) := by decide +kernel
theorem dX4_take_18 : decode cX4_take 18 = .ok (.invokevirtual 41, 3) := by decide +kernel
theorem dX4_take_21 : decode cX4_take 21 = .ok (.ifCond .ne 6, 3) := by decide +kernel
theorem dX4_take_24 : decode cX4_take 24 = .ok (.bipush (-12), 2) := by decide +kernel
theorem dX4_take_26 : decode cX4_take 26 = .ok (.ireturn, 1) := by decide +kernel
theorem dX4_take_27 : decode cX4_take 27 = .ok (.aload_n 0, 1) := by decide +kernel
theorem dX4_take_28 : decode cX4_take 28 = .ok (.invokevirtual 96, 3) := by decide +kernel
theorem dX4_take_31 : decode cX4_take 31 = .ok (.aload_n 0, 1) := by decide +kernel
theorem dX4_take_32 : decode cX4_take 32 = .ok (.iload_n 1, 1) := by decide +kernel
theorem dX4_take_33 : decode cX4_take 33 = .ok (.invokevirtual 106, 3) := by decide +kernel
theorem dX4_take_36 : decode cX4_take 36 = .ok (.aload_n 0, 1) := by decide +kernel
theorem dX4_take_37 : decode cX4_take 37 = .ok (.invokevirtual 211, 3) := by decide +kernel
theorem dX4_take_40 : decode cX4_take 40 = .ok (.ireturn, 1) := by decide +kernel
theorem dX4_nextWord_0 : decode cX4_nextWord 0 = .ok (.bipush (-19), 2) := by decide +kernel
theorem dX4_nextWord_2 : decode cX4_nextWord 2 = .ok (.istore_n 1, 1) := by decide +kernel
theorem dX4_nextWord_3 : decode cX4_nextWord 3 = .ok (.iconst 0, 1) := by decide +kernel
theorem dX4_nextWord_4 : decode cX4_nextWord 4 = .ok (.istore_n 2, 1) := by decide +kernel
theorem dX4_nextWord_5 : decode cX4_nextWord 5 = .ok (.iload_n 2, 1) := by decide +kernel
theorem dX4_nextWord_6 : decode cX4_nextWord 6 = .ok (.aload_n 0, 1) := by decide +kernel
theorem dX4_nextWord_7 : decode cX4_nextWord 7 = .ok (.getfield 7, 3) := by decide +kernel
theorem dX4_nextWord_10 : decode cX4_nextWord 10 = .ok (.iconst 0, 1) := by decide +kernel
theorem dX4_nextWord_11 : decode cX4_nextWord 11 = .ok (.iaload, 1) := by decide +kernel
theorem dX4_nextWord_12 : decode cX4_nextWord 12 = .ok (.if_icmp .ge 87, 3) := by decide +kernel
theorem dX4_nextWord_15 : decode cX4_nextWord 15 = .ok (.aload_n 0, 1) := by decide +kernel
theorem dX4_nextWord_16 : decode cX4_nextWord 16 = .ok (.getfield 22, 3) := by decide +kernel
theorem dX4_nextWord_19 : decode cX4_nextWord 19 = .ok (.iload_n 2, 1) := by decide +kernel
theorem dX4_nextWord_20 : decode cX4_nextWord 20 = .ok (.baload, 1) := by decide +kernel
theorem dX4_nextWord_21 : decode cX4_nextWord 21 = .ok (.ifCond .ne 72, 3) := by decide +kernel
theorem dX4_nextWord_24 : decode cX4_nextWord 24 = .ok (.iload_n 1, 1) := by decide +kernel
theorem dX4_nextWord_25 : decode cX4_nextWord 25 = .ok (.bipush (-19), 2) := by decide +kernel
theorem dX4_nextWord_27 : decode cX4_nextWord 27 = .ok (.if_icmp .eq 50, 3) := by decide +kernel
theorem dX4_nextWord_30 : decode cX4_nextWord 30 = .ok (.aload_n 0, 1) := by decide +kernel
theorem dX4_nextWord_31 : decode cX4_nextWord 31 = .ok (.iload_n 2, 1) := by decide +kernel
theorem dX4_nextWord_32 : decode cX4_nextWord 32 = .ok (.iconst 0, 1) := by decide +kernel
theorem dX4_nextWord_33 : decode cX4_nextWord 33 = .ok (.invokevirtual 37, 3) := by decide +kernel
theorem dX4_nextWord_36 : decode cX4_nextWord 36 = .ok (.aload_n 0, 1) := by decide +kernel
theorem dX4_nextWord_37 : decode cX4_nextWord 37 = .ok (.iload_n 1, 1) := by decide +kernel
theorem dX4_nextWord_38 : decode cX4_nextWord 38 = .ok (.iconst 0, 1) := by decide +kernel
theorem dX4_nextWord_39 : decode cX4_nextWord 39 = .ok (.invokevirtual 37, 3) := by decide +kernel
theorem dX4_nextWord_42 : decode cX4_nextWord 42 = .ok (.if_icmp .lt 35, 3) := by decide +kernel
theorem dX4_nextWord_45 : decode cX4_nextWord 45 = .ok (.aload_n 0, 1) := by decide +kernel
theorem dX4_nextWord_46 : decode cX4_nextWord 46 = .ok (.iload_n 2, 1) := by decide +kernel
theorem dX4_nextWord_47 : decode cX4_nextWord 47 = .ok (.iconst 0, 1) := by decide +kernel
theorem dX4_nextWord_48 : decode cX4_nextWord 48 = .ok (.invokevirtual 37, 3) := by decide +kernel
theorem dX4_nextWord_51 : decode cX4_nextWord 51 = .ok (.aload_n 0, 1) := by decide +kernel
theorem dX4_nextWord_52 : decode cX4_nextWord 52 = .ok (.iload_n 1, 1) := by decide +kernel
theorem dX4_nextWord_53 : decode cX4_nextWord 53 = .ok (.iconst 0, 1) := by decide +kernel
theorem dX4_nextWord_54 : decode cX4_nextWord 54 = .ok (.invokevirtual 37, 3) := by decide +kernel
theorem dX4_nextWord_57 : decode cX4_nextWord 57 = .ok (.if_icmp .ne 24, 3) := by decide +kernel
theorem dX4_nextWord_60 : decode cX4_nextWord 60 = .ok (.aload_n 0, 1) := by decide +kernel
theorem dX4_nextWord_61 : decode cX4_nextWord 61 = .ok (.iload_n 2, 1) := by decide +kernel
theorem dX4_nextWord_62 : decode cX4_nextWord 62 = .ok (.bipush 6, 2) := by decide +kernel
theorem dX4_nextWord_64 : decode cX4_nextWord 64 = .ok (.invokevirtual 37, 3) := by decide +kernel
theorem dX4_nextWord_67 : decode cX4_nextWord 67 = .ok (.aload_n 0, 1) := by decide +kernel
theorem dX4_nextWord_68 : decode cX4_nextWord 68 = .ok (.iload_n 1, 1) := by decide +kernel
theorem dX4_nextWord_69 : decode cX4_nextWord 69 = .ok (.bipush 6, 2) := by decide +kernel
theorem dX4_nextWord_71 : decode cX4_nextWord 71 = .ok (.invokevirtual 37, 3) := by decide +kernel
theorem dX4_nextWord_74 : decode cX4_nextWord 74 = .ok (.if_icmp .le 7, 3) := by decide +kernel
theorem dX4_nextWord_77 : decode cX4_nextWord 77 = .ok (.iconst 1, 1) := by decide +kernel
theorem dX4_nextWord_78 : decode cX4_nextWord 78 = .ok (.goto 4, 3) := by decide +kernel
theorem dX4_nextWord_81 : decode cX4_nextWord 81 = .ok (.iconst 0, 1) := by decide +kernel
theorem dX4_nextWord_82 : decode cX4_nextWord 82 = .ok (.istore_n 3, 1) := by decide +kernel
theorem dX4_nextWord_83 : decode cX4_nextWord 83 = .ok (.iload_n 3, 1) := by decide +kernel
theorem dX4_nextWord_84 : decode cX4_nextWord 84 = .ok (.ifCond .eq 7, 3) := by decide +kernel
theorem dX4_nextWord_87 : decode cX4_nextWord 87 = .ok (.iload_n 2, 1) := by decide +kernel
theorem dX4_nextWord_88 : decode cX4_nextWord 88 = .ok (.goto 4, 3) := by decide +kernel
theorem dX4_nextWord_91 : decode cX4_nextWord 91 = .ok (.iload_n 1, 1) := by decide +kernel
theorem dX4_nextWord_92 : decode cX4_nextWord 92 = .ok (.istore_n 1, 1) := by decide +kernel
theorem dX4_nextWord_93 : decode cX4_nextWord 93 = .ok (.iinc 2 1, 3) := by decide +kernel
theorem dX4_nextWord_96 : decode cX4_nextWord 96 = .ok (.goto (-91), 3) := by decide +kernel
theorem dX4_nextWord_99 : decode cX4_nextWord 99 = .ok (.iload_n 1, 1) := by decide +kernel
theorem dX4_nextWord_100 : decode cX4_nextWord 100 = .ok (.ireturn, 1) := by decide +kernel
theorem dX4_laneOf_0 : decode cX4_laneOf 0 = .ok (.iload_n 0, 1) := by decide +kernel
theorem dX4_laneOf_1 : decode cX4_laneOf 1 = .ok (.iconst 2, 1) := by decide +kernel
theorem dX4_laneOf_2 : decode cX4_laneOf 2 = .ok (.irem, 1) := by decide +kernel
theorem dX4_laneOf_3 : decode cX4_laneOf 3 = .ok (.ifCond .ne 11, 3) := by decide +kernel
theorem dX4_laneOf_6 : decode cX4_laneOf 6 = .ok (.iconst 3, 1) := by decide +kernel
theorem dX4_laneOf_7 : decode cX4_laneOf 7 = .ok (.iload_n 0, 1) := by decide +kernel
theorem dX4_laneOf_8 : decode cX4_laneOf 8 = .ok (.iconst 2, 1) := by decide +kernel
theorem dX4_laneOf_9 : decode cX4_laneOf 9 = .ok (.idiv, 1) := by decide +kernel
theorem dX4_laneOf_10 : decode cX4_laneOf 10 = .ok (.isub, 1) := by decide +kernel
theorem dX4_laneOf_11 : decode cX4_laneOf 11 = .ok (.goto 8, 3) := by decide +kernel
theorem dX4_laneOf_14 : decode cX4_laneOf 14 = .ok (.iconst 4, 1) := by decide +kernel
theorem dX4_laneOf_15 : decode cX4_laneOf 15 = .ok (.iload_n 0, 1) := by decide +kernel
theorem dX4_laneOf_16 : decode cX4_laneOf 16 = .ok (.iconst 2, 1) := by decide +kernel
theorem dX4_laneOf_17 : decode cX4_laneOf 17 = .ok (.idiv, 1) := by decide +kernel
theorem dX4_laneOf_18 : decode cX4_laneOf 18 = .ok (.iadd, 1) := by decide +kernel
theorem dX4_laneOf_19 : decode cX4_laneOf 19 = .ok (.ireturn, 1) := by decide +kernel
theorem dX4_laysIn_0 : decode cX4_laysIn 0 = .ok (.bipush 40, 2) := by decide +kernel
theorem dX4_laysIn_2 : decode cX4_laysIn 2 = .ok (.aload_n 0, 1) := by decide +kernel
theorem dX4_laysIn_3 : decode cX4_laysIn 3 = .ok (.iload_n 1, 1) := by decide +kernel
theorem dX4_laysIn_4 : decode cX4_laysIn 4 = .ok (.bipush 6, 2) := by decide +kernel
theorem dX4_laysIn_6 : decode cX4_laysIn 6 = .ok (.invokevirtual 37, 3) := by decide +kernel
theorem dX4_laysIn_9 : decode cX4_laysIn 9 = .ok (.isub, 1) := by decide +kernel
theorem dX4_laysIn_10 : decode cX4_laysIn 10 = .ok (.istore_n 3, 1) := by decide +kernel
theorem dX4_laysIn_11 : decode cX4_laysIn 11 = .ok (.iload_n 3, 1) := by decide +kernel
theorem dX4_laysIn_12 : decode cX4_laysIn 12 = .ok (.iconst 2, 1) := by decide +kernel
theorem dX4_laysIn_13 : decode cX4_laysIn 13 = .ok (.idiv, 1) := by decide +kernel
theorem dX4_laysIn_14 : decode cX4_laysIn 14 = .ok (.istore 4, 2) := by decide +kernel
theorem dX4_laysIn_16 : decode cX4_laysIn 16 = .ok (.iconst 0, 1) := by decide +kernel
theorem dX4_laysIn_17 : decode cX4_laysIn 17 = .ok (.istore 5, 2) := by decide +kernel
theorem dX4_laysIn_19 : decode cX4_laysIn 19 = .ok (.iload 5, 2) := by decide +kernel
theorem dX4_laysIn_21 : decode cX4_laysIn 21 = .ok (.bipush 40, 2) := by decide +kernel
theorem dX4_laysIn_23 : decode cX4_laysIn 23 = .ok (.if_icmp .gt 83, 3) := by decide +kernel
theorem dX4_laysIn_26 : decode cX4_laysIn 26 = .ok (.iconst 0, 1) := by decide +kernel
theorem dX4_laysIn_27 : decode cX4_laysIn 27 = .ok (.istore 6, 2) := by decide +kernel
theorem dX4_laysIn_29 : decode cX4_laysIn 29 = .ok (.iload 6, 2) := by decide +kernel
theorem dX4_laysIn_31 : decode cX4_laysIn 31 = .ok (.iload 5, 2) := by decide +kernel
theorem dX4_laysIn_33 : decode cX4_laysIn 33 = .ok (.ifCond .ne 7, 3) := by decide +kernel
theorem dX4_laysIn_36 : decode cX4_laysIn 36 = .ok (.iconst 1, 1) := by decide +kernel
theorem dX4_laysIn_37 : decode cX4_laysIn 37 = .ok (.goto 4, 3) := by decide +kernel
theorem dX4_laysIn_40 : decode cX4_laysIn 40 = .ok (.iconst 2, 1) := by decide +kernel
theorem dX4_laysIn_41 : decode cX4_laysIn 41 = .ok (.if_icmp .ge 59, 3) := by decide +kernel
theorem dX4_laysIn_44 : decode cX4_laysIn 44 = .ok (.iload 6, 2) := by decide +kernel
theorem dX4_laysIn_46 : decode cX4_laysIn 46 = .ok (.ifCond .ne 11, 3) := by decide +kernel
theorem dX4_laysIn_49 : decode cX4_laysIn 49 = .ok (.iload 4, 2) := by decide +kernel
theorem dX4_laysIn_51 : decode cX4_laysIn 51 = .ok (.iload 5, 2) := by decide +kernel
theorem dX4_laysIn_53 : decode cX4_laysIn 53 = .ok (.isub, 1) := by decide +kernel
theorem dX4_laysIn_54 : decode cX4_laysIn 54 = .ok (.goto 8, 3) := by decide +kernel
theorem dX4_laysIn_57 : decode cX4_laysIn 57 = .ok (.iload 4, 2) := by decide +kernel
theorem dX4_laysIn_59 : decode cX4_laysIn 59 = .ok (.iload 5, 2) := by decide +kernel
theorem dX4_laysIn_61 : decode cX4_laysIn 61 = .ok (.iadd, 1) := by decide +kernel
theorem dX4_laysIn_62 : decode cX4_laysIn 62 = .ok (.istore 7, 2) := by decide +kernel
theorem dX4_laysIn_64 : decode cX4_laysIn 64 = .ok (.iload 7, 2) := by decide +kernel
theorem dX4_laysIn_66 : decode cX4_laysIn 66 = .ok (.i2l, 1) := by decide +kernel
theorem dX4_laysIn_67 : decode cX4_laysIn 67 = .ok (.lconst 0, 1) := by decide +kernel
theorem dX4_laysIn_68 : decode cX4_laysIn 68 = .ok (.iload_n 3, 1) := by decide +kernel
theorem dX4_laysIn_69 : decode cX4_laysIn 69 = .ok (.i2l, 1) := by decide +kernel
theorem dX4_laysIn_70 : decode cX4_laysIn 70 = .ok (.invokestatic 33, 3) := by decide +kernel
theorem dX4_laysIn_73 : decode cX4_laysIn 73 = .ok (.ifCond .eq 21, 3) := by decide +kernel
theorem dX4_laysIn_76 : decode cX4_laysIn 76 = .ok (.aload_n 0, 1) := by decide +kernel
theorem dX4_laysIn_77 : decode cX4_laysIn 77 = .ok (.iload_n 1, 1) := by decide +kernel
theorem dX4_laysIn_78 : decode cX4_laysIn 78 = .ok (.iload_n 2, 1) := by decide +kernel
theorem dX4_laysIn_79 : decode cX4_laysIn 79 = .ok (.iload 7, 2) := by decide +kernel
theorem dX4_laysIn_81 : decode cX4_laysIn 81 = .ok (.invokevirtual 205, 3) := by decide +kernel
theorem dX4_laysIn_84 : decode cX4_laysIn 84 = .ok (.aload_n 0, 1) := by decide +kernel
theorem dX4_laysIn_85 : decode cX4_laysIn 85 = .ok (.iload_n 1, 1) := by decide +kernel
theorem dX4_laysIn_86 : decode cX4_laysIn 86 = .ok (.invokevirtual 208, 3) := by decide +kernel
theorem dX4_laysIn_89 : decode cX4_laysIn 89 = .ok (.ifCond .ne 5, 3) := by decide +kernel
theorem dX4_laysIn_92 : decode cX4_laysIn 92 = .ok (.iconst 1, 1) := by decide +kernel
theorem dX4_laysIn_93 : decode cX4_laysIn 93 = .ok (.ireturn, 1) := by decide +kernel
theorem dX4_laysIn_94 : decode cX4_laysIn 94 = .ok (.iinc 6 1, 3) := by decide +kernel
theorem dX4_laysIn_97 : decode cX4_laysIn 97 = .ok (.goto (-68), 3) := by decide +kernel
theorem dX4_laysIn_100 : decode cX4_laysIn 100 = .ok (.iinc 5 1, 3) := by decide +kernel
theorem dX4_laysIn_103 : decode cX4_laysIn 103 = .ok (.goto (-84), 3) := by decide +kernel
theorem dX4_laysIn_106 : decode cX4_laysIn 106 = .ok (.aload_n 0, 1) := by decide +kernel
theorem dX4_laysIn_107 : decode cX4_laysIn 107 = .ok (.iload_n 1, 1) := by decide +kernel
theorem dX4_laysIn_108 : decode cX4_laysIn 108 = .ok (.invokevirtual 106, 3) := by decide +kernel
theorem dX4_laysIn_111 : decode cX4_laysIn 111 = .ok (.iconst 0, 1) := by decide +kernel
theorem dX4_laysIn_112 : decode cX4_laysIn 112 = .ok (.ireturn, 1) := by decide +kernel
theorem dX4_putAll_0 : decode cX4_putAll 0 = .ok (.aload_n 0, 1) := by decide +kernel
theorem dX4_putAll_1 : decode cX4_putAll 1 = .ok (.iconst 0, 1) := by decide +kernel
theorem dX4_putAll_2 : decode cX4_putAll 2 = .ok (.putfield 26, 3) := by decide +kernel
theorem dX4_putAll_5 : decode cX4_putAll 5 = .ok (.aload_n 0, 1) := by decide +kernel
theorem dX4_putAll_6 : decode cX4_putAll 6 = .ok (.invokevirtual 96, 3) := by decide +kernel
theorem dX4_putAll_9 : decode cX4_putAll 9 = .ok (.iconst 0, 1) := by decide +kernel
theorem dX4_putAll_10 : decode cX4_putAll 10 = .ok (.istore_n 1, 1) := by decide +kernel
theorem dX4_putAll_11 : decode cX4_putAll 11 = .ok (.iload_n 1, 1) := by decide +kernel
theorem dX4_putAll_12 : decode cX4_putAll 12 = .ok (.aload_n 0, 1) := by decide +kernel
theorem dX4_putAll_13 : decode cX4_putAll 13 = .ok (.getfield 7, 3) := by decide +kernel
theorem dX4_putAll_16 : decode cX4_putAll 16 = .ok (.iconst 0, 1) := by decide +kernel
theorem dX4_putAll_17 : decode cX4_putAll 17 = .ok (.iaload, 1) := by decide +kernel
theorem dX4_putAll_18 : decode cX4_putAll 18 = .ok (.if_icmp .ge 21, 3) := by decide +kernel
theorem dX4_putAll_21 : decode cX4_putAll 21 = .ok (.aload_n 0, 1) := by decide +kernel
theorem dX4_putAll_22 : decode cX4_putAll 22 = .ok (.iload_n 1, 1) := by decide +kernel
theorem dX4_putAll_23 : decode cX4_putAll 23 = .ok (.invokevirtual 106, 3) := by decide +kernel
theorem dX4_putAll_26 : decode cX4_putAll 26 = .ok (.aload_n 0, 1) := by decide +kernel
theorem dX4_putAll_27 : decode cX4_putAll 27 = .ok (.getfield 22, 3) := by decide +kernel
theorem dX4_putAll_30 : decode cX4_putAll 30 = .ok (.iload_n 1, 1) := by decide +kernel
theorem dX4_putAll_31 : decode cX4_putAll 31 = .ok (.iconst 0, 1) := by decide +kernel
theorem dX4_putAll_32 : decode cX4_putAll 32 = .ok (.bastore, 1) := by decide +kernel
theorem dX4_putAll_33 : decode cX4_putAll 33 = .ok (.iinc 1 1, 3) := by decide +kernel
theorem dX4_putAll_36 : decode cX4_putAll 36 = .ok (.goto (-25), 3) := by decide +kernel
theorem dX4_putAll_39 : decode cX4_putAll 39 = .ok (.aload_n 0, 1) := by decide +kernel
theorem dX4_putAll_40 : decode cX4_putAll 40 = .ok (.invokevirtual 214, 3) := by decide +kernel
theorem dX4_putAll_43 : decode cX4_putAll 43 = .ok (.istore_n 1, 1) := by decide +kernel
theorem dX4_putAll_44 : decode cX4_putAll 44 = .ok (.iload_n 1, 1) := by decide +kernel
theorem dX4_putAll_45 : decode cX4_putAll 45 = .ok (.bipush (-19), 2) := by decide +kernel
theorem dX4_putAll_47 : decode cX4_putAll 47 = .ok (.if_icmp .eq 48, 3) := by decide +kernel
theorem dX4_putAll_50 : decode cX4_putAll 50 = .ok (.aload_n 0, 1) := by decide +kernel
theorem dX4_putAll_51 : decode cX4_putAll 51 = .ok (.getfield 22, 3) := by decide +kernel
theorem dX4_putAll_54 : decode cX4_putAll 54 = .ok (.iload_n 1, 1) := by decide +kernel
theorem dX4_putAll_55 : decode cX4_putAll 55 = .ok (.iconst 1, 1) := by decide +kernel
theorem dX4_putAll_56 : decode cX4_putAll 56 = .ok (.bastore, 1) := by decide +kernel
theorem dX4_putAll_57 : decode cX4_putAll 57 = .ok (.iconst 0, 1) := by decide +kernel
theorem dX4_putAll_58 : decode cX4_putAll 58 = .ok (.istore_n 2, 1) := by decide +kernel
theorem dX4_putAll_59 : decode cX4_putAll 59 = .ok (.iconst 0, 1) := by decide +kernel
theorem dX4_putAll_60 : decode cX4_putAll 60 = .ok (.istore_n 3, 1) := by decide +kernel
theorem dX4_putAll_61 : decode cX4_putAll 61 = .ok (.iload_n 3, 1) := by decide +kernel
theorem dX4_putAll_62 : decode cX4_putAll 62 = .ok (.bipush 8, 2) := by decide +kernel
theorem dX4_putAll_64 : decode cX4_putAll 64 = .ok (.if_icmp .ge 23, 3) := by decide +kernel
theorem dX4_putAll_67 : decode cX4_putAll 67 = .ok (.iload_n 2, 1) := by decide +kernel
theorem dX4_putAll_68 : decode cX4_putAll 68 = .ok (.ifCond .ne 19, 3) := by decide +kernel
theorem dX4_putAll_71 : decode cX4_putAll 71 = .ok (.aload_n 0, 1) := by decide +kernel
theorem dX4_putAll_72 : decode cX4_putAll 72 = .ok (.iload_n 1, 1) := by decide +kernel
theorem dX4_putAll_73 : decode cX4_putAll 73 = .ok (.iload_n 3, 1) := by decide +kernel
theorem dX4_putAll_74 : decode cX4_putAll 74 = .ok (.invokestatic 217, 3) := by decide +kernel
theorem dX4_putAll_77 : decode cX4_putAll 77 = .ok (.invokevirtual 220, 3) := by decide +kernel
theorem dX4_putAll_80 : decode cX4_putAll 80 = .ok (.istore_n 2, 1) := by decide +kernel
theorem dX4_putAll_81 : decode cX4_putAll 81 = .ok (.iinc 3 1, 3) := by decide +kernel
theorem dX4_putAll_84 : decode cX4_putAll 84 = .ok (.goto (-23), 3) := by decide +kernel
theorem dX4_putAll_87 : decode cX4_putAll 87 = .ok (.aload_n 0, 1) := by decide +kernel
theorem dX4_putAll_88 : decode cX4_putAll 88 = .ok (.invokevirtual 214, 3) := by decide +kernel
theorem dX4_putAll_91 : decode cX4_putAll 91 = .ok (.istore_n 1, 1) := by decide +kernel
theorem dX4_putAll_92 : decode cX4_putAll 92 = .ok (.goto (-48), 3) := by decide +kernel
theorem dX4_putAll_95 : decode cX4_putAll 95 = .ok (.aload_n 0, 1) := by decide +kernel
theorem dX4_putAll_96 : decode cX4_putAll 96 = .ok (.invokevirtual 211, 3) := by decide +kernel
theorem dX4_putAll_99 : decode cX4_putAll 99 = .ok (.ireturn, 1) := by decide +kernel
theorem dX4_undo_0 : decode cX4_undo 0 = .ok (.aload_n 0, 1) := by decide +kernel
theorem dX4_undo_1 : decode cX4_undo 1 = .ok (.iconst 0, 1) := by decide +kernel
theorem dX4_undo_2 : decode cX4_undo 2 = .ok (.putfield 26, 3) := by decide +kernel
theorem dX4_undo_5 : decode cX4_undo 5 = .ok (.aload_n 0, 1) := by decide +kernel
theorem dX4_undo_6 : decode cX4_undo 6 = .ok (.getfield 30, 3) := by decide +kernel
theorem dX4_undo_9 : decode cX4_undo 9 = .ok (.ifCond .ne 6, 3) := by decide +kernel
theorem dX4_undo_12 : decode cX4_undo 12 = .ok (.bipush (-12), 2) := by decide +kernel
theorem dX4_undo_14 : decode cX4_undo 14 = .ok (.ireturn, 1) := by decide +kernel
theorem dX4_undo_15 : decode cX4_undo 15 = .ok (.aload_n 0, 1) := by decide +kernel
theorem dX4_undo_16 : decode cX4_undo 16 = .ok (.dup, 1) := by decide +kernel
theorem dX4_undo_17 : decode cX4_undo 17 = .ok (.getfield 30, 3) := by decide +kernel
theorem dX4_undo_20 : decode cX4_undo 20 = .ok (.iconst 1, 1) := by decide +kernel
theorem dX4_undo_21 : decode cX4_undo 21 = .ok (.isub, 1) := by decide +kernel
theorem dX4_undo_22 : decode cX4_undo 22 = .ok (.putfield 30, 3) := by decide +kernel
theorem dX4_undo_25 : decode cX4_undo 25 = .ok (.iconst 0, 1) := by decide +kernel
theorem dX4_undo_26 : decode cX4_undo 26 = .ok (.istore_n 1, 1) := by decide +kernel
theorem dX4_undo_27 : decode cX4_undo 27 = .ok (.iload_n 1, 1) := by decide +kernel
theorem dX4_undo_28 : decode cX4_undo 28 = .ok (.sipush 241, 3) := by decide +kernel
theorem dX4_undo_31 : decode cX4_undo 31 = .ok (.if_icmp .ge 30, 3) := by decide +kernel
theorem dX4_undo_34 : decode cX4_undo 34 = .ok (.aload_n 0, 1) := by decide +kernel
theorem dX4_undo_35 : decode cX4_undo 35 = .ok (.getfield 7, 3) := by decide +kernel
theorem dX4_undo_38 : decode cX4_undo 38 = .ok (.iload_n 1, 1) := by decide +kernel
theorem dX4_undo_39 : decode cX4_undo 39 = .ok (.aload_n 0, 1) := by decide +kernel
theorem dX4_undo_40 : decode cX4_undo 40 = .ok (.getfield 16, 3) := by decide +kernel
theorem dX4_undo_43 : decode cX4_undo 43 = .ok (.sipush 241, 3) := by decide +kernel
theorem dX4_undo_46 : decode cX4_undo 46 = .ok (.aload_n 0, 1) := by decide +kernel
theorem dX4_undo_47 : decode cX4_undo 47 = .ok (.getfield 30, 3) := by decide +kernel
theorem dX4_undo_50 : decode cX4_undo 50 = .ok (.imul, 1) := by decide +kernel
theorem dX4_undo_51 : decode cX4_undo 51 = .ok (.iload_n 1, 1) := by decide +kernel
theorem dX4_undo_52 : decode cX4_undo 52 = .ok (.iadd, 1) := by decide +kernel
theorem dX4_undo_53 : decode cX4_undo 53 = .ok (.iaload, 1) := by decide +kernel
theorem dX4_undo_54 : decode cX4_undo 54 = .ok (.iastore, 1) := by decide +kernel
theorem dX4_undo_55 : decode cX4_undo 55 = .ok (.iinc 1 1, 3) := by decide +kernel
theorem dX4_undo_58 : decode cX4_undo 58 = .ok (.goto (-31), 3) := by decide +kernel
theorem dX4_undo_61 : decode cX4_undo 61 = .ok (.aload_n 0, 1) := by decide +kernel
theorem dX4_undo_62 : decode cX4_undo 62 = .ok (.getfield 30, 3) := by decide +kernel
theorem dX4_undo_65 : decode cX4_undo 65 = .ok (.ireturn, 1) := by decide +kernel
theorem dX4_meetingPairs_0 : decode cX4_meetingPairs 0 = .ok (.iconst 0, 1) := by decide +kernel
theorem dX4_meetingPairs_1 : decode cX4_meetingPairs 1 = .ok (.istore_n 1, 1) := by decide +kernel
theorem dX4_meetingPairs_2 : decode cX4_meetingPairs 2 = .ok (.iconst 0, 1) := by decide +kernel
theorem dX4_meetingPairs_3 : decode cX4_meetingPairs 3 = .ok (.istore_n 2, 1) := by decide +kernel
theorem dX4_meetingPairs_4 : decode cX4_meetingPairs 4 = .ok (.iload_n 2, 1) := by decide +kernel
theorem dX4_meetingPairs_5 : decode cX4_meetingPairs 5 = .ok (.aload_n 0, 1) := by decide +kernel
theorem dX4_meetingPairs_6 : decode cX4_meetingPairs 6 = .ok (.getfield 7, 3) := by decide +kernel
theorem dX4_meetingPairs_9 : decode cX4_meetingPairs 9 = .ok (.iconst 0, 1) := by decide +kernel
theorem dX4_meetingPairs_10 : decode cX4_meetingPairs 10 = .ok (.iaload, 1) := by decide +kernel
theorem dX4_meetingPairs_11 : decode cX4_meetingPairs 11 = .ok (.if_icmp .ge 48, 3) := by decide +kernel
theorem dX4_meetingPairs_14 : decode cX4_meetingPairs 14 = .ok (.iload_n 2, 1) := by decide +kernel
theorem dX4_meetingPairs_15 : decode cX4_meetingPairs 15 = .ok (.iconst 1, 1) := by decide +kernel
theorem dX4_meetingPairs_16 : decode cX4_meetingPairs 16 = .ok (.iadd, 1) := by decide +kernel
theorem dX4_meetingPairs_17 : decode cX4_meetingPairs 17 = .ok (.istore_n 3, 1) := by decide +kernel
theorem dX4_meetingPairs_18 : decode cX4_meetingPairs 18 = .ok (.iload_n 3, 1) := by decide +kernel
theorem dX4_meetingPairs_19 : decode cX4_meetingPairs 19 = .ok (.aload_n 0, 1) := by decide +kernel
theorem dX4_meetingPairs_20 : decode cX4_meetingPairs 20 = .ok (.getfield 7, 3) := by decide +kernel
theorem dX4_meetingPairs_23 : decode cX4_meetingPairs 23 = .ok (.iconst 0, 1) := by decide +kernel
theorem dX4_meetingPairs_24 : decode cX4_meetingPairs 24 = .ok (.iaload, 1) := by decide +kernel
theorem dX4_meetingPairs_25 : decode cX4_meetingPairs 25 = .ok (.if_icmp .ge 28, 3) := by decide +kernel
theorem dX4_meetingPairs_28 : decode cX4_meetingPairs 28 = .ok (.iload_n 1, 1) := by decide +kernel
theorem dX4_meetingPairs_29 : decode cX4_meetingPairs 29 = .ok (.aload_n 0, 1) := by decide +kernel
theorem dX4_meetingPairs_30 : decode cX4_meetingPairs 30 = .ok (.iload_n 2, 1) := by decide +kernel
theorem dX4_meetingPairs_31 : decode cX4_meetingPairs 31 = .ok (.iload_n 3, 1) := by decide +kernel
theorem dX4_meetingPairs_32 : decode cX4_meetingPairs 32 = .ok (.invokevirtual 78, 3) := by decide +kernel
theorem dX4_meetingPairs_35 : decode cX4_meetingPairs 35 = .ok (.bipush (-19), 2) := by decide +kernel
theorem dX4_meetingPairs_37 : decode cX4_meetingPairs 37 = .ok (.if_icmp .eq 7, 3) := by decide +kernel
theorem dX4_meetingPairs_40 : decode cX4_meetingPairs 40 = .ok (.iconst 1, 1) := by decide +kernel
theorem dX4_meetingPairs_41 : decode cX4_meetingPairs 41 = .ok (.goto 4, 3) := by decide +kernel
theorem dX4_meetingPairs_44 : decode cX4_meetingPairs 44 = .ok (.iconst 0, 1) := by decide +kernel
theorem dX4_meetingPairs_45 : decode cX4_meetingPairs 45 = .ok (.iadd, 1) := by decide +kernel
theorem dX4_meetingPairs_46 : decode cX4_meetingPairs 46 = .ok (.istore_n 1, 1) := by decide +kernel
theorem dX4_meetingPairs_47 : decode cX4_meetingPairs 47 = .ok (.iinc 3 1, 3) := by decide +kernel
theorem dX4_meetingPairs_50 : decode cX4_meetingPairs 50 = .ok (.goto (-32), 3) := by decide +kernel
theorem dX4_meetingPairs_53 : decode cX4_meetingPairs 53 = .ok (.iinc 2 1, 3) := by decide +kernel
theorem dX4_meetingPairs_56 : decode cX4_meetingPairs 56 = .ok (.goto (-52), 3) := by decide +kernel
theorem dX4_meetingPairs_59 : decode cX4_meetingPairs 59 = .ok (.iload_n 1, 1) := by decide +kernel
theorem dX4_meetingPairs_60 : decode cX4_meetingPairs 60 = .ok (.ireturn, 1) := by decide +kernel
theorem dX4_count_0 : decode cX4_count 0 = .ok (.aload_n 0, 1) := by decide +kernel
theorem dX4_count_1 : decode cX4_count 1 = .ok (.iconst 0, 1) := by decide +kernel
theorem dX4_count_2 : decode cX4_count 2 = .ok (.putfield 26, 3) := by decide +kernel
theorem dX4_count_5 : decode cX4_count 5 = .ok (.iload_n 1, 1) := by decide +kernel
theorem dX4_count_6 : decode cX4_count 6 = .ok (.tableswitch 83 0 6 #[42, 49, 54, 61, 68, 73, 78], 42) := by decide +kernel
theorem dX4_count_48 : decode cX4_count 48 = .ok (.aload_n 0, 1) := by decide +kernel
theorem dX4_count_49 : decode cX4_count 49 = .ok (.getfield 7, 3) := by decide +kernel
theorem dX4_count_52 : decode cX4_count 52 = .ok (.iconst 0, 1) := by decide +kernel
theorem dX4_count_53 : decode cX4_count 53 = .ok (.iaload, 1) := by decide +kernel
theorem dX4_count_54 : decode cX4_count 54 = .ok (.ireturn, 1) := by decide +kernel
theorem dX4_count_55 : decode cX4_count 55 = .ok (.aload_n 0, 1) := by decide +kernel
theorem dX4_count_56 : decode cX4_count 56 = .ok (.invokevirtual 211, 3) := by decide +kernel
theorem dX4_count_59 : decode cX4_count 59 = .ok (.ireturn, 1) := by decide +kernel
theorem dX4_count_60 : decode cX4_count 60 = .ok (.aload_n 0, 1) := by decide +kernel
theorem dX4_count_61 : decode cX4_count 61 = .ok (.getfield 7, 3) := by decide +kernel
theorem dX4_count_64 : decode cX4_count 64 = .ok (.iconst 1, 1) := by decide +kernel
theorem dX4_count_65 : decode cX4_count 65 = .ok (.iaload, 1) := by decide +kernel
theorem dX4_count_66 : decode cX4_count 66 = .ok (.ireturn, 1) := by decide +kernel
theorem dX4_count_67 : decode cX4_count 67 = .ok (.aload_n 0, 1) := by decide +kernel
theorem dX4_count_68 : decode cX4_count 68 = .ok (.getfield 7, 3) := by decide +kernel
theorem dX4_count_71 : decode cX4_count 71 = .ok (.iconst 2, 1) := by decide +kernel
theorem dX4_count_72 : decode cX4_count 72 = .ok (.iaload, 1) := by decide +kernel
theorem dX4_count_73 : decode cX4_count 73 = .ok (.ireturn, 1) := by decide +kernel
theorem dX4_count_74 : decode cX4_count 74 = .ok (.aload_n 0, 1) := by decide +kernel
theorem dX4_count_75 : decode cX4_count 75 = .ok (.invokevirtual 223, 3) := by decide +kernel
theorem dX4_count_78 : decode cX4_count 78 = .ok (.ireturn, 1) := by decide +kernel
theorem dX4_count_79 : decode cX4_count 79 = .ok (.aload_n 0, 1) := by decide +kernel
theorem dX4_count_80 : decode cX4_count 80 = .ok (.getfield 30, 3) := by decide +kernel
theorem dX4_count_83 : decode cX4_count 83 = .ok (.ireturn, 1) := by decide +kernel
theorem dX4_count_84 : decode cX4_count 84 = .ok (.aload_n 0, 1) := by decide +kernel
theorem dX4_count_85 : decode cX4_count 85 = .ok (.getfield 124, 3) := by decide +kernel
theorem dX4_count_88 : decode cX4_count 88 = .ok (.ireturn, 1) := by decide +kernel
theorem dX4_count_89 : decode cX4_count 89 = .ok (.bipush (-11), 2) := by decide +kernel
theorem dX4_count_91 : decode cX4_count 91 = .ok (.ireturn, 1) := by decide +kernel
theorem dX4_lastOn_0 : decode cX4_lastOn 0 = .ok (.aload_n 0, 1) := by decide +kernel
theorem dX4_lastOn_1 : decode cX4_lastOn 1 = .ok (.iload_n 1, 1) := by decide +kernel
theorem dX4_lastOn_2 : decode cX4_lastOn 2 = .ok (.iconst 0, 1) := by decide +kernel
theorem dX4_lastOn_3 : decode cX4_lastOn 3 = .ok (.invokevirtual 37, 3) := by decide +kernel
theorem dX4_lastOn_6 : decode cX4_lastOn 6 = .ok (.istore_n 2, 1) := by decide +kernel
theorem dX4_lastOn_7 : decode cX4_lastOn 7 = .ok (.aload_n 0, 1) := by decide +kernel
theorem dX4_lastOn_8 : decode cX4_lastOn 8 = .ok (.iload_n 1, 1) := by decide +kernel
theorem dX4_lastOn_9 : decode cX4_lastOn 9 = .ok (.iload_n 2, 1) := by decide +kernel
theorem dX4_lastOn_10 : decode cX4_lastOn 10 = .ok (.iconst 1, 1) := by decide +kernel
theorem dX4_lastOn_11 : decode cX4_lastOn 11 = .ok (.iadd, 1) := by decide +kernel
theorem dX4_lastOn_12 : decode cX4_lastOn 12 = .ok (.invokevirtual 64, 3) := by decide +kernel
theorem dX4_lastOn_15 : decode cX4_lastOn 15 = .ok (.ifCond .eq 9, 3) := by decide +kernel
theorem dX4_lastOn_18 : decode cX4_lastOn 18 = .ok (.iinc 2 1, 3) := by decide +kernel
theorem dX4_lastOn_21 : decode cX4_lastOn 21 = .ok (.goto (-14), 3) := by decide +kernel
theorem dX4_lastOn_24 : decode cX4_lastOn 24 = .ok (.iload_n 2, 1) := by decide +kernel
theorem dX4_lastOn_25 : decode cX4_lastOn 25 = .ok (.ireturn, 1) := by decide +kernel
theorem dX4_word_0 : decode cX4_word 0 = .ok (.aload_n 0, 1) := by decide +kernel
theorem dX4_word_1 : decode cX4_word 1 = .ok (.iconst 0, 1) := by decide +kernel
theorem dX4_word_2 : decode cX4_word 2 = .ok (.putfield 26, 3) := by decide +kernel
theorem dX4_word_5 : decode cX4_word 5 = .ok (.aload_n 0, 1) := by decide +kernel
theorem dX4_word_6 : decode cX4_word 6 = .ok (.iload_n 1, 1) := by decide +kernel
theorem dX4_word_7 : decode cX4_word 7 = .ok (.invokevirtual 103, 3) := by decide +kernel
theorem dX4_word_10 : decode cX4_word 10 = .ok (.ifCond .eq 15, 3) := by decide +kernel
theorem dX4_word_13 : decode cX4_word 13 = .ok (.iload_n 2, 1) := by decide +kernel
theorem dX4_word_14 : decode cX4_word 14 = .ok (.i2l, 1) := by decide +kernel
theorem dX4_word_15 : decode cX4_word 15 = .ok (.lconst 0, 1) := by decide +kernel
theorem dX4_word_16 : decode cX4_word 16 = .ok (.ldc2_w 62, 3) := by decide +kernel
theorem dX4_word_19 : decode cX4_word 19 = .ok (.invokestatic 33, 3) := by decide +kernel
theorem dX4_word_22 : decode cX4_word 22 = .ok (.ifCond .ne 6, 3) := by decide +kernel
theorem dX4_word_25 : decode cX4_word 25 = .ok (.bipush (-11), 2) := by decide +kernel
theorem dX4_word_27 : decode cX4_word 27 = .ok (.ireturn, 1) := by decide +kernel
theorem dX4_word_28 : decode cX4_word 28 = .ok (.iload_n 2, 1) := by decide +kernel
theorem dX4_word_29 : decode cX4_word 29 = .ok (.bipush 7, 2) := by decide +kernel
theorem dX4_word_31 : decode cX4_word 31 = .ok (.if_icmp .ne 11, 3) := by decide +kernel
theorem dX4_word_34 : decode cX4_word 34 = .ok (.aload_n 0, 1) := by decide +kernel
theorem dX4_word_35 : decode cX4_word 35 = .ok (.iload_n 1, 1) := by decide +kernel
theorem dX4_word_36 : decode cX4_word 36 = .ok (.bipush 6, 2) := by decide +kernel
theorem dX4_word_38 : decode cX4_word 38 = .ok (.invokevirtual 37, 3) := by decide +kernel
theorem dX4_word_41 : decode cX4_word 41 = .ok (.ireturn, 1) := by decide +kernel
theorem dX4_word_42 : decode cX4_word 42 = .ok (.iload_n 2, 1) := by decide +kernel
theorem dX4_word_43 : decode cX4_word 43 = .ok (.iconst 3, 1) := by decide +kernel
theorem dX4_word_44 : decode cX4_word 44 = .ok (.if_icmp .le 14, 3) := by decide +kernel
theorem dX4_word_47 : decode cX4_word 47 = .ok (.aload_n 0, 1) := by decide +kernel
theorem dX4_word_48 : decode cX4_word 48 = .ok (.iload_n 1, 1) := by decide +kernel
theorem dX4_word_49 : decode cX4_word 49 = .ok (.invokevirtual 41, 3) := by decide +kernel
theorem dX4_word_52 : decode cX4_word 52 = .ok (.ifCond .ne 6, 3) := by decide +kernel
theorem dX4_word_55 : decode cX4_word 55 = .ok (.bipush (-19), 2) := by decide +kernel
theorem dX4_word_57 : decode cX4_word 57 = .ok (.ireturn, 1) := by decide +kernel
theorem dX4_word_58 : decode cX4_word 58 = .ok (.iload_n 2, 1) := by decide +kernel
theorem dX4_word_59 : decode cX4_word 59 = .ok (.bipush 6, 2) := by decide +kernel
theorem dX4_word_61 : decode cX4_word 61 = .ok (.if_icmp .ne 11, 3) := by decide +kernel
theorem dX4_word_64 : decode cX4_word 64 = .ok (.aload_n 0, 1) := by decide +kernel
theorem dX4_word_65 : decode cX4_word 65 = .ok (.iload_n 1, 1) := by decide +kernel
theorem dX4_word_66 : decode cX4_word 66 = .ok (.invokevirtual 226, 3) := by decide +kernel
theorem dX4_word_69 : decode cX4_word 69 = .ok (.goto 9, 3) := by decide +kernel
theorem dX4_word_72 : decode cX4_word 72 = .ok (.aload_n 0, 1) := by decide +kernel
theorem dX4_word_73 : decode cX4_word 73 = .ok (.iload_n 1, 1) := by decide +kernel
theorem dX4_word_74 : decode cX4_word 74 = .ok (.iload_n 2, 1) := by decide +kernel
theorem dX4_word_75 : decode cX4_word 75 = .ok (.invokevirtual 37, 3) := by decide +kernel
theorem dX4_word_78 : decode cX4_word 78 = .ok (.ireturn, 1) := by decide +kernel
theorem dX4_letter_0 : decode cX4_letter 0 = .ok (.aload_n 0, 1) := by decide +kernel
theorem dX4_letter_1 : decode cX4_letter 1 = .ok (.iconst 0, 1) := by decide +kernel
theorem dX4_letter_2 : decode cX4_letter 2 = .ok (.putfield 26, 3) := by decide +kernel
theorem dX4_letter_5 : decode cX4_letter 5 = .ok (.aload_n 0, 1) := by decide +kernel
theorem dX4_letter_6 : decode cX4_letter 6 = .ok (.iload_n 1, 1) := by decide +kernel
theorem dX4_letter_7 : decode cX4_letter 7 = .ok (.invokevirtual 103, 3) := by decide +kernel
theorem dX4_letter_10 : decode cX4_letter 10 = .ok (.ifCond .eq 7, 3) := by decide +kernel
theorem dX4_letter_13 : decode cX4_letter 13 = .ok (.iload_n 2, 1) := by decide +kernel
theorem dX4_letter_14 : decode cX4_letter 14 = .ok (.ifCond .ge 6, 3) := by decide +kernel
theorem dX4_letter_17 : decode cX4_letter 17 = .ok (.bipush (-11), 2) := by decide +kernel
theorem dX4_letter_19 : decode cX4_letter 19 = .ok (.ireturn, 1) := by decide +kernel
theorem dX4_letter_20 : decode cX4_letter 20 = .ok (.iload_n 2, 1) := by decide +kernel
theorem dX4_letter_21 : decode cX4_letter 21 = .ok (.aload_n 0, 1) := by decide +kernel
theorem dX4_letter_22 : decode cX4_letter 22 = .ok (.iload_n 1, 1) := by decide +kernel
theorem dX4_letter_23 : decode cX4_letter 23 = .ok (.bipush 6, 2) := by decide +kernel
theorem dX4_letter_25 : decode cX4_letter 25 = .ok (.invokevirtual 37, 3) := by decide +kernel
theorem dX4_letter_28 : decode cX4_letter 28 = .ok (.if_icmp .ge 15, 3) := by decide +kernel
theorem dX4_letter_31 : decode cX4_letter 31 = .ok (.aload_n 0, 1) := by decide +kernel
theorem dX4_letter_32 : decode cX4_letter 32 = .ok (.iload_n 1, 1) := by decide +kernel
theorem dX4_letter_33 : decode cX4_letter 33 = .ok (.bipush 7, 2) := by decide +kernel
theorem dX4_letter_35 : decode cX4_letter 35 = .ok (.iload_n 2, 1) := by decide +kernel
theorem dX4_letter_36 : decode cX4_letter 36 = .ok (.iadd, 1) := by decide +kernel
theorem dX4_letter_37 : decode cX4_letter 37 = .ok (.invokevirtual 37, 3) := by decide +kernel
theorem dX4_letter_40 : decode cX4_letter 40 = .ok (.goto 5, 3) := by decide +kernel
theorem dX4_letter_43 : decode cX4_letter 43 = .ok (.bipush (-19), 2) := by decide +kernel
theorem dX4_letter_45 : decode cX4_letter 45 = .ok (.ireturn, 1) := by decide +kernel
theorem dX4_shot_0 : decode cX4_shot 0 = .ok (.aload_n 0, 1) := by decide +kernel
theorem dX4_shot_1 : decode cX4_shot 1 = .ok (.iconst 0, 1) := by decide +kernel
theorem dX4_shot_2 : decode cX4_shot 2 = .ok (.putfield 26, 3) := by decide +kernel
theorem dX4_shot_5 : decode cX4_shot 5 = .ok (.iload_n 1, 1) := by decide +kernel
theorem dX4_shot_6 : decode cX4_shot 6 = .ok (.ifCond .ge 8, 3) := by decide +kernel
theorem dX4_shot_9 : decode cX4_shot 9 = .ok (.bipush (-11), 2) := by decide +kernel
theorem dX4_shot_11 : decode cX4_shot 11 = .ok (.goto 26, 3) := by decide +kernel
theorem dX4_shot_14 : decode cX4_shot 14 = .ok (.iload_n 1, 1) := by decide +kernel
theorem dX4_shot_15 : decode cX4_shot 15 = .ok (.aload_n 0, 1) := by decide +kernel
theorem dX4_shot_16 : decode cX4_shot 16 = .ok (.getfield 7, 3) := by decide +kernel
theorem dX4_shot_19 : decode cX4_shot 19 = .ok (.iconst 1, 1) := by decide +kernel
theorem dX4_shot_20 : decode cX4_shot 20 = .ok (.iaload, 1) := by decide +kernel
theorem dX4_shot_21 : decode cX4_shot 21 = .ok (.if_icmp .ge 14, 3) := by decide +kernel
theorem dX4_shot_24 : decode cX4_shot 24 = .ok (.aload_n 0, 1) := by decide +kernel
theorem dX4_shot_25 : decode cX4_shot 25 = .ok (.getfield 7, 3) := by decide +kernel
theorem dX4_shot_28 : decode cX4_shot 28 = .ok (.iconst 3, 1) := by decide +kernel
theorem dX4_shot_29 : decode cX4_shot 29 = .ok (.iload_n 1, 1) := by decide +kernel
theorem dX4_shot_30 : decode cX4_shot 30 = .ok (.iadd, 1) := by decide +kernel
theorem dX4_shot_31 : decode cX4_shot 31 = .ok (.iaload, 1) := by decide +kernel
theorem dX4_shot_32 : decode cX4_shot 32 = .ok (.goto 5, 3) := by decide +kernel
theorem dX4_shot_35 : decode cX4_shot 35 = .ok (.bipush (-19), 2) := by decide +kernel
theorem dX4_shot_37 : decode cX4_shot 37 = .ok (.ireturn, 1) := by decide +kernel
theorem dX4_isFrame_0 : decode cX4_isFrame 0 = .ok (.iload_n 0, 1) := by decide +kernel
theorem dX4_isFrame_1 : decode cX4_isFrame 1 = .ok (.i2l, 1) := by decide +kernel
theorem dX4_isFrame_2 : decode cX4_isFrame 2 = .ok (.lconst 0, 1) := by decide +kernel
theorem dX4_isFrame_3 : decode cX4_isFrame 3 = .ok (.ldc2_w 229, 3) := by decide +kernel
theorem dX4_isFrame_6 : decode cX4_isFrame 6 = .ok (.invokestatic 33, 3) := by decide +kernel
theorem dX4_isFrame_9 : decode cX4_isFrame 9 = .ok (.ireturn, 1) := by decide +kernel
theorem dX4_where_0 : decode cX4_where 0 = .ok (.aload_n 0, 1) := by decide +kernel
theorem dX4_where_1 : decode cX4_where 1 = .ok (.iconst 0, 1) := by decide +kernel
theorem dX4_where_2 : decode cX4_where 2 = .ok (.putfield 26, 3) := by decide +kernel
theorem dX4_where_5 : decode cX4_where 5 = .ok (.aload_n 0, 1) := by decide +kernel
theorem dX4_where_6 : decode cX4_where 6 = .ok (.iload_n 1, 1) := by decide +kernel
theorem dX4_where_7 : decode cX4_where 7 = .ok (.invokevirtual 103, 3) := by decide +kernel
theorem dX4_where_10 : decode cX4_where 10 = .ok (.ifCond .eq 20, 3) := by decide +kernel
theorem dX4_where_13 : decode cX4_where 13 = .ok (.iload_n 2, 1) := by decide +kernel
theorem dX4_where_14 : decode cX4_where 14 = .ok (.invokestatic 231, 3) := by decide +kernel
theorem dX4_where_17 : decode cX4_where 17 = .ok (.ifCond .eq 13, 3) := by decide +kernel
theorem dX4_where_20 : decode cX4_where 20 = .ok (.iload_n 3, 1) := by decide +kernel
theorem dX4_where_21 : decode cX4_where 21 = .ok (.i2l, 1) := by decide +kernel
theorem dX4_where_22 : decode cX4_where 22 = .ok (.lconst 0, 1) := by decide +kernel
theorem dX4_where_23 : decode cX4_where 23 = .ok (.lconst 1, 1) := by decide +kernel
theorem dX4_where_24 : decode cX4_where 24 = .ok (.invokestatic 33, 3) := by decide +kernel
theorem dX4_where_27 : decode cX4_where 27 = .ok (.ifCond .ne 6, 3) := by decide +kernel
theorem dX4_where_30 : decode cX4_where 30 = .ok (.bipush (-11), 2) := by decide +kernel
theorem dX4_where_32 : decode cX4_where 32 = .ok (.ireturn, 1) := by decide +kernel
theorem dX4_where_33 : decode cX4_where 33 = .ok (.aload_n 0, 1) := by decide +kernel
theorem dX4_where_34 : decode cX4_where 34 = .ok (.iload_n 1, 1) := by decide +kernel
theorem dX4_where_35 : decode cX4_where 35 = .ok (.iload_n 2, 1) := by decide +kernel
theorem dX4_where_36 : decode cX4_where 36 = .ok (.invokevirtual 64, 3) := by decide +kernel
theorem dX4_where_39 : decode cX4_where 39 = .ok (.ifCond .ne 6, 3) := by decide +kernel
theorem dX4_where_42 : decode cX4_where 42 = .ok (.bipush (-19), 2) := by decide +kernel
theorem dX4_where_44 : decode cX4_where 44 = .ok (.ireturn, 1) := by decide +kernel
theorem dX4_where_45 : decode cX4_where 45 = .ok (.aload_n 0, 1) := by decide +kernel
theorem dX4_where_46 : decode cX4_where 46 = .ok (.iload_n 1, 1) := by decide +kernel
theorem dX4_where_47 : decode cX4_where 47 = .ok (.iload_n 2, 1) := by decide +kernel
theorem dX4_where_48 : decode cX4_where 48 = .ok (.invokevirtual 56, 3) := by decide +kernel
theorem dX4_where_51 : decode cX4_where 51 = .ok (.istore 4, 2) := by decide +kernel
theorem dX4_where_53 : decode cX4_where 53 = .ok (.iload_n 3, 1) := by decide +kernel
theorem dX4_where_54 : decode cX4_where 54 = .ok (.ifCond .ne 12, 3) := by decide +kernel
theorem dX4_where_57 : decode cX4_where 57 = .ok (.aload_n 0, 1) := by decide +kernel
theorem dX4_where_58 : decode cX4_where 58 = .ok (.iload_n 1, 1) := by decide +kernel
theorem dX4_where_59 : decode cX4_where 59 = .ok (.iload_n 2, 1) := by decide +kernel
theorem dX4_where_60 : decode cX4_where 60 = .ok (.invokevirtual 59, 3) := by decide +kernel
theorem dX4_where_63 : decode cX4_where 63 = .ok (.goto 27, 3) := by decide +kernel
theorem dX4_where_66 : decode cX4_where 66 = .ok (.iload 4, 2) := by decide +kernel
theorem dX4_where_68 : decode cX4_where 68 = .ok (.i2l, 1) := by decide +kernel
theorem dX4_where_69 : decode cX4_where 69 = .ok (.lconst 0, 1) := by decide +kernel
theorem dX4_where_70 : decode cX4_where 70 = .ok (.ldc2_w 234, 3) := by decide +kernel
theorem dX4_where_73 : decode cX4_where 73 = .ok (.invokestatic 33, 3) := by decide +kernel
theorem dX4_where_76 : decode cX4_where 76 = .ok (.ifCond .eq 8, 3) := by decide +kernel
theorem dX4_where_79 : decode cX4_where 79 = .ok (.iload 4, 2) := by decide +kernel
theorem dX4_where_81 : decode cX4_where 81 = .ok (.goto 9, 3) := by decide +kernel
theorem dX4_where_84 : decode cX4_where 84 = .ok (.iload 4, 2) := by decide +kernel
theorem dX4_where_86 : decode cX4_where 86 = .ok (.sipush 1000, 3) := by decide +kernel
theorem dX4_where_89 : decode cX4_where 89 = .ok (.isub, 1) := by decide +kernel
theorem dX4_where_90 : decode cX4_where 90 = .ok (.ireturn, 1) := by decide +kernel
theorem dX4_wordIn_0 : decode cX4_wordIn 0 = .ok (.iconst 0, 1) := by decide +kernel
theorem dX4_wordIn_1 : decode cX4_wordIn 1 = .ok (.istore 4, 2) := by decide +kernel
theorem dX4_wordIn_3 : decode cX4_wordIn 3 = .ok (.iload 4, 2) := by decide +kernel
theorem dX4_wordIn_5 : decode cX4_wordIn 5 = .ok (.aload_n 0, 1) := by decide +kernel
theorem dX4_wordIn_6 : decode cX4_wordIn 6 = .ok (.getfield 7, 3) := by decide +kernel
theorem dX4_wordIn_9 : decode cX4_wordIn 9 = .ok (.iconst 0, 1) := by decide +kernel
theorem dX4_wordIn_10 : decode cX4_wordIn 10 = .ok (.iaload, 1) := by decide +kernel
theorem dX4_wordIn_11 : decode cX4_wordIn 11 = .ok (.if_icmp .ge 67, 3) := by decide +kernel
theorem dX4_wordIn_14 : decode cX4_wordIn 14 = .ok (.aload_n 0, 1) := by decide +kernel
theorem dX4_wordIn_15 : decode cX4_wordIn 15 = .ok (.iload 4, 2) := by decide +kernel
theorem dX4_wordIn_17 : decode cX4_wordIn 17 = .ok (.iload_n 3, 1) := by decide +kernel
theorem dX4_wordIn_18 : decode cX4_wordIn 18 = .ok (.invokevirtual 56, 3) := by decide +kernel
theorem dX4_wordIn_21 : decode cX4_wordIn 21 = .ok (.istore 5, 2) := by decide +kernel
theorem dX4_wordIn_23 : decode cX4_wordIn 23 = .ok (.aload_n 0, 1) := by decide +kernel
theorem dX4_wordIn_24 : decode cX4_wordIn 24 = .ok (.iload 4, 2) := by decide +kernel
theorem dX4_wordIn_26 : decode cX4_wordIn 26 = .ok (.iload_n 3, 1) := by decide +kernel
theorem dX4_wordIn_27 : decode cX4_wordIn 27 = .ok (.invokevirtual 64, 3) := by decide +kernel
theorem dX4_wordIn_30 : decode cX4_wordIn 30 = .ok (.ifCond .eq 42, 3) := by decide +kernel
theorem dX4_wordIn_33 : decode cX4_wordIn 33 = .ok (.aload_n 0, 1) := by decide +kernel
theorem dX4_wordIn_34 : decode cX4_wordIn 34 = .ok (.iload 4, 2) := by decide +kernel
theorem dX4_wordIn_36 : decode cX4_wordIn 36 = .ok (.iload_n 3, 1) := by decide +kernel
theorem dX4_wordIn_37 : decode cX4_wordIn 37 = .ok (.invokevirtual 59, 3) := by decide +kernel
theorem dX4_wordIn_40 : decode cX4_wordIn 40 = .ok (.iload_n 1, 1) := by decide +kernel
theorem dX4_wordIn_41 : decode cX4_wordIn 41 = .ok (.if_icmp .ne 31, 3) := by decide +kernel
theorem dX4_wordIn_44 : decode cX4_wordIn 44 = .ok (.iload_n 2, 1) := by decide +kernel
theorem dX4_wordIn_45 : decode cX4_wordIn 45 = .ok (.i2l, 1) := by decide +kernel
theorem dX4_wordIn_46 : decode cX4_wordIn 46 = .ok (.iload 5, 2) := by decide +kernel
theorem dX4_wordIn_48 : decode cX4_wordIn 48 = .ok (.i2l, 1) := by decide +kernel
theorem dX4_wordIn_49 : decode cX4_wordIn 49 = .ok (.iload 5, 2) := by decide +kernel
theorem dX4_wordIn_51 : decode cX4_wordIn 51 = .ok (.aload_n 0, 1) := by decide +kernel
theorem dX4_wordIn_52 : decode cX4_wordIn 52 = .ok (.iload 4, 2) := by decide +kernel
theorem dX4_wordIn_54 : decode cX4_wordIn 54 = .ok (.bipush 6, 2) := by decide +kernel
theorem dX4_wordIn_56 : decode cX4_wordIn 56 = .ok (.invokevirtual 37, 3) := by decide +kernel
theorem dX4_wordIn_59 : decode cX4_wordIn 59 = .ok (.iadd, 1) := by decide +kernel
theorem dX4_wordIn_60 : decode cX4_wordIn 60 = .ok (.iconst 1, 1) := by decide +kernel
theorem dX4_wordIn_61 : decode cX4_wordIn 61 = .ok (.isub, 1) := by decide +kernel
theorem dX4_wordIn_62 : decode cX4_wordIn 62 = .ok (.i2l, 1) := by decide +kernel
theorem dX4_wordIn_63 : decode cX4_wordIn 63 = .ok (.invokestatic 33, 3) := by decide +kernel
theorem dX4_wordIn_66 : decode cX4_wordIn 66 = .ok (.ifCond .eq 6, 3) := by decide +kernel
theorem dX4_wordIn_69 : decode cX4_wordIn 69 = .ok (.iload 4, 2) := by decide +kernel
theorem dX4_wordIn_71 : decode cX4_wordIn 71 = .ok (.ireturn, 1) := by decide +kernel
theorem dX4_wordIn_72 : decode cX4_wordIn 72 = .ok (.iinc 4 1, 3) := by decide +kernel
theorem dX4_wordIn_75 : decode cX4_wordIn 75 = .ok (.goto (-72), 3) := by decide +kernel
theorem dX4_wordIn_78 : decode cX4_wordIn 78 = .ok (.bipush (-19), 2) := by decide +kernel
theorem dX4_wordIn_80 : decode cX4_wordIn 80 = .ok (.ireturn, 1) := by decide +kernel
theorem dX4_written_0 : decode cX4_written 0 = .ok (.aload_n 0, 1) := by decide +kernel
theorem dX4_written_1 : decode cX4_written 1 = .ok (.iconst 0, 1) := by decide +kernel
theorem dX4_written_2 : decode cX4_written 2 = .ok (.putfield 26, 3) := by decide +kernel
theorem dX4_written_5 : decode cX4_written 5 = .ok (.iload_n 1, 1) := by decide +kernel
theorem dX4_written_6 : decode cX4_written 6 = .ok (.i2l, 1) := by decide +kernel
theorem dX4_written_7 : decode cX4_written 7 = .ok (.lconst 0, 1) := by decide +kernel
theorem dX4_written_8 : decode cX4_written 8 = .ok (.ldc2_w 62, 3) := by decide +kernel
theorem dX4_written_11 : decode cX4_written 11 = .ok (.invokestatic 33, 3) := by decide +kernel
theorem dX4_written_14 : decode cX4_written 14 = .ok (.ifCond .eq 22, 3) := by decide +kernel
theorem dX4_written_17 : decode cX4_written 17 = .ok (.iload_n 2, 1) := by decide +kernel
theorem dX4_written_18 : decode cX4_written 18 = .ok (.i2l, 1) := by decide +kernel
theorem dX4_written_19 : decode cX4_written 19 = .ok (.lconst 0, 1) := by decide +kernel
theorem dX4_written_20 : decode cX4_written 20 = .ok (.ldc2_w 234, 3) := by decide +kernel
theorem dX4_written_23 : decode cX4_written 23 = .ok (.invokestatic 33, 3) := by decide +kernel
theorem dX4_written_26 : decode cX4_written 26 = .ok (.ifCond .eq 10, 3) := by decide +kernel
theorem dX4_written_29 : decode cX4_written 29 = .ok (.iload_n 3, 1) := by decide +kernel
theorem dX4_written_30 : decode cX4_written 30 = .ok (.invokestatic 231, 3) := by decide +kernel
theorem dX4_written_33 : decode cX4_written 33 = .ok (.ifCond .ne 6, 3) := by decide +kernel
theorem dX4_written_36 : decode cX4_written 36 = .ok (.bipush (-11), 2) := by decide +kernel
theorem dX4_written_38 : decode cX4_written 38 = .ok (.ireturn, 1) := by decide +kernel
theorem dX4_written_39 : decode cX4_written 39 = .ok (.aload_n 0, 1) := by decide +kernel
theorem dX4_written_40 : decode cX4_written 40 = .ok (.iload_n 1, 1) := by decide +kernel
theorem dX4_written_41 : decode cX4_written 41 = .ok (.iload_n 2, 1) := by decide +kernel
theorem dX4_written_42 : decode cX4_written 42 = .ok (.iload_n 3, 1) := by decide +kernel
theorem dX4_written_43 : decode cX4_written 43 = .ok (.invokevirtual 236, 3) := by decide +kernel
theorem dX4_written_46 : decode cX4_written 46 = .ok (.istore 4, 2) := by decide +kernel
theorem dX4_written_48 : decode cX4_written 48 = .ok (.iload 4, 2) := by decide +kernel
theorem dX4_written_50 : decode cX4_written 50 = .ok (.bipush (-19), 2) := by decide +kernel
theorem dX4_written_52 : decode cX4_written 52 = .ok (.if_icmp .ne 8, 3) := by decide +kernel
theorem dX4_written_55 : decode cX4_written 55 = .ok (.bipush (-19), 2) := by decide +kernel
theorem dX4_written_57 : decode cX4_written 57 = .ok (.goto 21, 3) := by decide +kernel
theorem dX4_written_60 : decode cX4_written 60 = .ok (.aload_n 0, 1) := by decide +kernel
theorem dX4_written_61 : decode cX4_written 61 = .ok (.iload 4, 2) := by decide +kernel
theorem dX4_written_63 : decode cX4_written 63 = .ok (.bipush 7, 2) := by decide +kernel
theorem dX4_written_65 : decode cX4_written 65 = .ok (.iload_n 2, 1) := by decide +kernel
theorem dX4_written_66 : decode cX4_written 66 = .ok (.iadd, 1) := by decide +kernel
theorem dX4_written_67 : decode cX4_written 67 = .ok (.aload_n 0, 1) := by decide +kernel
theorem dX4_written_68 : decode cX4_written 68 = .ok (.iload 4, 2) := by decide +kernel
theorem dX4_written_70 : decode cX4_written 70 = .ok (.iload_n 3, 1) := by decide +kernel
theorem dX4_written_71 : decode cX4_written 71 = .ok (.invokevirtual 56, 3) := by decide +kernel
theorem dX4_written_74 : decode cX4_written 74 = .ok (.isub, 1) := by decide +kernel
theorem dX4_written_75 : decode cX4_written 75 = .ok (.invokevirtual 37, 3) := by decide +kernel
theorem dX4_written_78 : decode cX4_written 78 = .ok (.ireturn, 1) := by decide +kernel
theorem dX4_onScreen_0 : decode cX4_onScreen 0 = .ok (.aload_n 0, 1) := by decide +kernel
theorem dX4_onScreen_1 : decode cX4_onScreen 1 = .ok (.iconst 0, 1) := by decide +kernel
theorem dX4_onScreen_2 : decode cX4_onScreen 2 = .ok (.putfield 26, 3) := by decide +kernel
theorem dX4_onScreen_5 : decode cX4_onScreen 5 = .ok (.iload_n 1, 1) := by decide +kernel
theorem dX4_onScreen_6 : decode cX4_onScreen 6 = .ok (.invokestatic 231, 3) := by decide +kernel
theorem dX4_onScreen_9 : decode cX4_onScreen 9 = .ok (.ifCond .ne 6, 3) := by decide +kernel
theorem dX4_onScreen_12 : decode cX4_onScreen 12 = .ok (.bipush (-11), 2) := by decide +kernel
theorem dX4_onScreen_14 : decode cX4_onScreen 14 = .ok (.ireturn, 1) := by decide +kernel
theorem dX4_onScreen_15 : decode cX4_onScreen 15 = .ok (.iconst 0, 1) := by decide +kernel
theorem dX4_onScreen_16 : decode cX4_onScreen 16 = .ok (.istore_n 2, 1) := by decide +kernel
theorem dX4_onScreen_17 : decode cX4_onScreen 17 = .ok (.iconst 0, 1) := by decide +kernel
theorem dX4_onScreen_18 : decode cX4_onScreen 18 = .ok (.istore_n 3, 1) := by decide +kernel
theorem dX4_onScreen_19 : decode cX4_onScreen 19 = .ok (.iload_n 3, 1) := by decide +kernel
theorem dX4_onScreen_20 : decode cX4_onScreen 20 = .ok (.aload_n 0, 1) := by decide +kernel
theorem dX4_onScreen_21 : decode cX4_onScreen 21 = .ok (.getfield 7, 3) := by decide +kernel
theorem dX4_onScreen_24 : decode cX4_onScreen 24 = .ok (.iconst 0, 1) := by decide +kernel
theorem dX4_onScreen_25 : decode cX4_onScreen 25 = .ok (.iaload, 1) := by decide +kernel
theorem dX4_onScreen_26 : decode cX4_onScreen 26 = .ok (.if_icmp .ge 28, 3) := by decide +kernel
theorem dX4_onScreen_29 : decode cX4_onScreen 29 = .ok (.iload_n 2, 1) := by decide +kernel
theorem dX4_onScreen_30 : decode cX4_onScreen 30 = .ok (.aload_n 0, 1) := by decide +kernel
theorem dX4_onScreen_31 : decode cX4_onScreen 31 = .ok (.iload_n 3, 1) := by decide +kernel
theorem dX4_onScreen_32 : decode cX4_onScreen 32 = .ok (.iload_n 1, 1) := by decide +kernel
theorem dX4_onScreen_33 : decode cX4_onScreen 33 = .ok (.invokevirtual 64, 3) := by decide +kernel
theorem dX4_onScreen_36 : decode cX4_onScreen 36 = .ok (.ifCond .eq 9, 3) := by decide +kernel
theorem dX4_onScreen_39 : decode cX4_onScreen 39 = .ok (.iconst 1, 1) := by decide +kernel
theorem dX4_onScreen_40 : decode cX4_onScreen 40 = .ok (.iload_n 3, 1) := by decide +kernel
theorem dX4_onScreen_41 : decode cX4_onScreen 41 = .ok (.ishl, 1) := by decide +kernel
theorem dX4_onScreen_42 : decode cX4_onScreen 42 = .ok (.goto 4, 3) := by decide +kernel
theorem dX4_onScreen_45 : decode cX4_onScreen 45 = .ok (.iconst 0, 1) := by decide +kernel
theorem dX4_onScreen_46 : decode cX4_onScreen 46 = .ok (.ior, 1) := by decide +kernel
theorem dX4_onScreen_47 : decode cX4_onScreen 47 = .ok (.istore_n 2, 1) := by decide +kernel
theorem dX4_onScreen_48 : decode cX4_onScreen 48 = .ok (.iinc 3 1, 3) := by decide +kernel
theorem dX4_onScreen_51 : decode cX4_onScreen 51 = .ok (.goto (-32), 3) := by decide +kernel
theorem dX4_onScreen_54 : decode cX4_onScreen 54 = .ok (.iload_n 2, 1) := by decide +kernel
theorem dX4_onScreen_55 : decode cX4_onScreen 55 = .ok (.ireturn, 1) := by decide +kernel
theorem dX4_meeting_0 : decode cX4_meeting 0 = .ok (.aload_n 0, 1) := by decide +kernel
theorem dX4_meeting_1 : decode cX4_meeting 1 = .ok (.iconst 0, 1) := by decide +kernel
theorem dX4_meeting_2 : decode cX4_meeting 2 = .ok (.putfield 26, 3) := by decide +kernel
theorem dX4_meeting_5 : decode cX4_meeting 5 = .ok (.aload_n 0, 1) := by decide +kernel
theorem dX4_meeting_6 : decode cX4_meeting 6 = .ok (.iload_n 1, 1) := by decide +kernel
theorem dX4_meeting_7 : decode cX4_meeting 7 = .ok (.invokevirtual 103, 3) := by decide +kernel
theorem dX4_meeting_10 : decode cX4_meeting 10 = .ok (.ifCond .eq 25, 3) := by decide +kernel
theorem dX4_meeting_13 : decode cX4_meeting 13 = .ok (.aload_n 0, 1) := by decide +kernel
theorem dX4_meeting_14 : decode cX4_meeting 14 = .ok (.iload_n 2, 1) := by decide +kernel
theorem dX4_meeting_15 : decode cX4_meeting 15 = .ok (.invokevirtual 103, 3) := by decide +kernel
theorem dX4_meeting_18 : decode cX4_meeting 18 = .ok (.ifCond .eq 17, 3) := by decide +kernel
theorem dX4_meeting_21 : decode cX4_meeting 21 = .ok (.iload_n 1, 1) := by decide +kernel
theorem dX4_meeting_22 : decode cX4_meeting 22 = .ok (.iload_n 2, 1) := by decide +kernel
theorem dX4_meeting_23 : decode cX4_meeting 23 = .ok (.if_icmp .eq 12, 3) := by decide +kernel
theorem dX4_meeting_26 : decode cX4_meeting 26 = .ok (.aload_n 0, 1) := by decide +kernel
theorem dX4_meeting_27 : decode cX4_meeting 27 = .ok (.iload_n 1, 1) := by decide +kernel
theorem dX4_meeting_28 : decode cX4_meeting 28 = .ok (.iload_n 2, 1) := by decide +kernel
theorem dX4_meeting_29 : decode cX4_meeting 29 = .ok (.invokevirtual 78, 3) := by decide +kernel
theorem dX4_meeting_32 : decode cX4_meeting 32 = .ok (.goto 5, 3) := by decide +kernel
theorem dX4_meeting_35 : decode cX4_meeting 35 = .ok (.bipush (-11), 2) := by decide +kernel
theorem dX4_meeting_37 : decode cX4_meeting 37 = .ok (.ireturn, 1) := by decide +kernel
theorem dX4_pace_0 : decode cX4_pace 0 = .ok (.aload_n 0, 1) := by decide +kernel
theorem dX4_pace_1 : decode cX4_pace 1 = .ok (.iconst 0, 1) := by decide +kernel
theorem dX4_pace_2 : decode cX4_pace 2 = .ok (.putfield 26, 3) := by decide +kernel
theorem dX4_pace_5 : decode cX4_pace 5 = .ok (.iload_n 1, 1) := by decide +kernel
theorem dX4_pace_6 : decode cX4_pace 6 = .ok (.invokestatic 231, 3) := by decide +kernel
theorem dX4_pace_9 : decode cX4_pace 9 = .ok (.ifCond .ne 6, 3) := by decide +kernel
theorem dX4_pace_12 : decode cX4_pace 12 = .ok (.bipush (-11), 2) := by decide +kernel
theorem dX4_pace_14 : decode cX4_pace 14 = .ok (.ireturn, 1) := by decide +kernel
theorem dX4_pace_15 : decode cX4_pace 15 = .ok (.fconst 0, 1) := by decide +kernel
theorem dX4_pace_16 : decode cX4_pace 16 = .ok (.fstore_n 2, 1) := by decide +kernel
theorem dX4_pace_17 : decode cX4_pace 17 = .ok (.iconst 0, 1) := by decide +kernel
theorem dX4_pace_18 : decode cX4_pace 18 = .ok (.istore_n 3, 1) := by decide +kernel
theorem dX4_pace_19 : decode cX4_pace 19 = .ok (.iload_n 3, 1) := by decide +kernel
theorem dX4_pace_20 : decode cX4_pace 20 = .ok (.aload_n 0, 1) := by decide +kernel
theorem dX4_pace_21 : decode cX4_pace 21 = .ok (.getfield 7, 3) := by decide +kernel
theorem dX4_pace_24 : decode cX4_pace 24 = .ok (.iconst 0, 1) := by decide +kernel
theorem dX4_pace_25 : decode cX4_pace 25 = .ok (.iaload, 1) := by decide +kernel
theorem dX4_pace_26 : decode cX4_pace 26 = .ok (.if_icmp .ge 59, 3) := by decide +kernel
theorem dX4_pace_29 : decode cX4_pace 29 = .ok (.iload_n 1, 1) := by decide +kernel
theorem dX4_pace_30 : decode cX4_pace 30 = .ok (.i2l, 1) := by decide +kernel
theorem dX4_pace_31 : decode cX4_pace 31 = .ok (.aload_n 0, 1) := by decide +kernel
theorem dX4_pace_32 : decode cX4_pace 32 = .ok (.iload_n 3, 1) := by decide +kernel
theorem dX4_pace_33 : decode cX4_pace 33 = .ok (.iconst 0, 1) := by decide +kernel
theorem dX4_pace_34 : decode cX4_pace 34 = .ok (.invokevirtual 37, 3) := by decide +kernel
theorem dX4_pace_37 : decode cX4_pace 37 = .ok (.i2l, 1) := by decide +kernel
theorem dX4_pace_38 : decode cX4_pace 38 = .ok (.aload_n 0, 1) := by decide +kernel
theorem dX4_pace_39 : decode cX4_pace 39 = .ok (.iload_n 3, 1) := by decide +kernel
theorem dX4_pace_40 : decode cX4_pace 40 = .ok (.iconst 0, 1) := by decide +kernel
theorem dX4_pace_41 : decode cX4_pace 41 = .ok (.invokevirtual 37, 3) := by decide +kernel
theorem dX4_pace_44 : decode cX4_pace 44 = .ok (.aload_n 0, 1) := by decide +kernel
theorem dX4_pace_45 : decode cX4_pace 45 = .ok (.iload_n 3, 1) := by decide +kernel
theorem dX4_pace_46 : decode cX4_pace 46 = .ok (.iconst 1, 1) := by decide +kernel
theorem dX4_pace_47 : decode cX4_pace 47 = .ok (.invokevirtual 37, 3) := by decide +kernel
theorem dX4_pace_50 : decode cX4_pace 50 = .ok (.iadd, 1) := by decide +kernel
theorem dX4_pace_51 : decode cX4_pace 51 = .ok (.iconst 1, 1) := by decide +kernel
theorem dX4_pace_52 : decode cX4_pace 52 = .ok (.isub, 1) := by decide +kernel
theorem dX4_pace_53 : decode cX4_pace 53 = .ok (.i2l, 1) := by decide +kernel
theorem dX4_pace_54 : decode cX4_pace 54 = .ok (.invokestatic 33, 3) := by decide +kernel
theorem dX4_pace_57 : decode cX4_pace 57 = .ok (.ifCond .eq 22, 3) := by decide +kernel
theorem dX4_pace_60 : decode cX4_pace 60 = .ok (.fload_n 2, 1) := by decide +kernel
theorem dX4_pace_61 : decode cX4_pace 61 = .ok (.aload_n 0, 1) := by decide +kernel
theorem dX4_pace_62 : decode cX4_pace 62 = .ok (.iload_n 3, 1) := by decide +kernel
theorem dX4_pace_63 : decode cX4_pace 63 = .ok (.bipush 6, 2) := by decide +kernel
theorem dX4_pace_65 : decode cX4_pace 65 = .ok (.invokevirtual 37, 3) := by decide +kernel
theorem dX4_pace_68 : decode cX4_pace 68 = .ok (.i2f, 1) := by decide +kernel
theorem dX4_pace_69 : decode cX4_pace 69 = .ok (.aload_n 0, 1) := by decide +kernel
theorem dX4_pace_70 : decode cX4_pace 70 = .ok (.iload_n 3, 1) := by decide +kernel
theorem dX4_pace_71 : decode cX4_pace 71 = .ok (.iconst 1, 1) := by decide +kernel
theorem dX4_pace_72 : decode cX4_pace 72 = .ok (.invokevirtual 37, 3) := by decide +kernel
theorem dX4_pace_75 : decode cX4_pace 75 = .ok (.i2f, 1) := by decide +kernel
theorem dX4_pace_76 : decode cX4_pace 76 = .ok (.fdiv, 1) := by decide +kernel
theorem dX4_pace_77 : decode cX4_pace 77 = .ok (.fadd, 1) := by decide +kernel
theorem dX4_pace_78 : decode cX4_pace 78 = .ok (.fstore_n 2, 1) := by decide +kernel
theorem dX4_pace_79 : decode cX4_pace 79 = .ok (.iinc 3 1, 3) := by decide +kernel
theorem dX4_pace_82 : decode cX4_pace 82 = .ok (.goto (-63), 3) := by decide +kernel
theorem dX4_pace_85 : decode cX4_pace 85 = .ok (.fload_n 2, 1) := by decide +kernel
theorem dX4_pace_86 : decode cX4_pace 86 = .ok (.ldc 240, 2) := by decide +kernel
theorem dX4_pace_88 : decode cX4_pace 88 = .ok (.fmul, 1) := by decide +kernel
theorem dX4_pace_89 : decode cX4_pace 89 = .ok (.f2i, 1) := by decide +kernel
theorem dX4_pace_90 : decode cX4_pace 90 = .ok (.ireturn, 1) := by decide +kernel
theorem dX4_earliest_0 : decode cX4_earliest 0 = .ok (.aload_n 0, 1) := by decide +kernel
theorem dX4_earliest_1 : decode cX4_earliest 1 = .ok (.iconst 0, 1) := by decide +kernel
theorem dX4_earliest_2 : decode cX4_earliest 2 = .ok (.putfield 26, 3) := by decide +kernel
theorem dX4_earliest_5 : decode cX4_earliest 5 = .ok (.aload_n 0, 1) := by decide +kernel
theorem dX4_earliest_6 : decode cX4_earliest 6 = .ok (.iload_n 1, 1) := by decide +kernel
theorem dX4_earliest_7 : decode cX4_earliest 7 = .ok (.iload_n 2, 1) := by decide +kernel
theorem dX4_earliest_8 : decode cX4_earliest 8 = .ok (.iload_n 3, 1) := by decide +kernel
theorem dX4_earliest_9 : decode cX4_earliest 9 = .ok (.invokevirtual 202, 3) := by decide +kernel
theorem dX4_earliest_12 : decode cX4_earliest 12 = .ok (.ifCond .ne 6, 3) := by decide +kernel
theorem dX4_earliest_15 : decode cX4_earliest 15 = .ok (.bipush (-11), 2) := by decide +kernel
theorem dX4_earliest_17 : decode cX4_earliest 17 = .ok (.ireturn, 1) := by decide +kernel
theorem dX4_earliest_18 : decode cX4_earliest 18 = .ok (.aload_n 0, 1) := by decide +kernel
theorem dX4_earliest_19 : decode cX4_earliest 19 = .ok (.invokevirtual 193, 3) := by decide +kernel
theorem dX4_earliest_22 : decode cX4_earliest 22 = .ok (.aload_n 0, 1) := by decide +kernel
theorem dX4_earliest_23 : decode cX4_earliest 23 = .ok (.iload_n 1, 1) := by decide +kernel
theorem dX4_earliest_24 : decode cX4_earliest 24 = .ok (.iload_n 2, 1) := by decide +kernel
theorem dX4_earliest_25 : decode cX4_earliest 25 = .ok (.iload_n 3, 1) := by decide +kernel
theorem dX4_earliest_26 : decode cX4_earliest 26 = .ok (.invokevirtual 205, 3) := by decide +kernel
theorem dX4_earliest_29 : decode cX4_earliest 29 = .ok (.bipush (-19), 2) := by decide +kernel
theorem dX4_earliest_31 : decode cX4_earliest 31 = .ok (.istore 4, 2) := by decide +kernel
theorem dX4_earliest_33 : decode cX4_earliest 33 = .ok (.aload_n 0, 1) := by decide +kernel
theorem dX4_earliest_34 : decode cX4_earliest 34 = .ok (.iload_n 1, 1) := by decide +kernel
theorem dX4_earliest_35 : decode cX4_earliest 35 = .ok (.iconst 0, 1) := by decide +kernel
theorem dX4_earliest_36 : decode cX4_earliest 36 = .ok (.invokevirtual 37, 3) := by decide +kernel
theorem dX4_earliest_39 : decode cX4_earliest 39 = .ok (.istore 5, 2) := by decide +kernel
theorem dX4_earliest_41 : decode cX4_earliest 41 = .ok (.iload 5, 2) := by decide +kernel
theorem dX4_earliest_43 : decode cX4_earliest 43 = .ok (.sipush 2000, 3) := by decide +kernel
theorem dX4_earliest_46 : decode cX4_earliest 46 = .ok (.if_icmp .gt 41, 3) := by decide +kernel
theorem dX4_earliest_49 : decode cX4_earliest 49 = .ok (.iload 4, 2) := by decide +kernel
theorem dX4_earliest_51 : decode cX4_earliest 51 = .ok (.bipush (-19), 2) := by decide +kernel
theorem dX4_earliest_53 : decode cX4_earliest 53 = .ok (.if_icmp .ne 34, 3) := by decide +kernel
theorem dX4_earliest_56 : decode cX4_earliest 56 = .ok (.aload_n 0, 1) := by decide +kernel
theorem dX4_earliest_57 : decode cX4_earliest 57 = .ok (.iload_n 1, 1) := by decide +kernel
theorem dX4_earliest_58 : decode cX4_earliest 58 = .ok (.iconst 0, 1) := by decide +kernel
theorem dX4_earliest_59 : decode cX4_earliest 59 = .ok (.iload 5, 2) := by decide +kernel
theorem dX4_earliest_61 : decode cX4_earliest 61 = .ok (.invokevirtual 81, 3) := by decide +kernel
theorem dX4_earliest_64 : decode cX4_earliest 64 = .ok (.aload_n 0, 1) := by decide +kernel
theorem dX4_earliest_65 : decode cX4_earliest 65 = .ok (.iload_n 1, 1) := by decide +kernel
theorem dX4_earliest_66 : decode cX4_earliest 66 = .ok (.invokevirtual 208, 3) := by decide +kernel
theorem dX4_earliest_69 : decode cX4_earliest 69 = .ok (.ifCond .eq 8, 3) := by decide +kernel
theorem dX4_earliest_72 : decode cX4_earliest 72 = .ok (.bipush (-19), 2) := by decide +kernel
theorem dX4_earliest_74 : decode cX4_earliest 74 = .ok (.goto 5, 3) := by decide +kernel
theorem dX4_earliest_77 : decode cX4_earliest 77 = .ok (.iload 5, 2) := by decide +kernel
theorem dX4_earliest_79 : decode cX4_earliest 79 = .ok (.istore 4, 2) := by decide +kernel
theorem dX4_earliest_81 : decode cX4_earliest 81 = .ok (.iinc 5 1, 3) := by decide +kernel
theorem dX4_earliest_84 : decode cX4_earliest 84 = .ok (.goto (-43), 3) := by decide +kernel
theorem dX4_earliest_87 : decode cX4_earliest 87 = .ok (.aload_n 0, 1) := by decide +kernel
theorem dX4_earliest_88 : decode cX4_earliest 88 = .ok (.invokevirtual 199, 3) := by decide +kernel
theorem dX4_earliest_91 : decode cX4_earliest 91 = .ok (.iload 4, 2) := by decide +kernel
theorem dX4_earliest_93 : decode cX4_earliest 93 = .ok (.ireturn, 1) := by decide +kernel
theorem dX4_filled_0 : decode cX4_filled 0 = .ok (.aload_n 0, 1) := by decide +kernel
theorem dX4_filled_1 : decode cX4_filled 1 = .ok (.iconst 0, 1) := by decide +kernel
theorem dX4_filled_2 : decode cX4_filled 2 = .ok (.putfield 26, 3) := by decide +kernel
theorem dX4_filled_5 : decode cX4_filled 5 = .ok (.iload_n 1, 1) := by decide +kernel
theorem dX4_filled_6 : decode cX4_filled 6 = .ok (.invokestatic 231, 3) := by decide +kernel
theorem dX4_filled_9 : decode cX4_filled 9 = .ok (.ifCond .ne 6, 3) := by decide +kernel
theorem dX4_filled_12 : decode cX4_filled 12 = .ok (.bipush (-11), 2) := by decide +kernel
theorem dX4_filled_14 : decode cX4_filled 14 = .ok (.ireturn, 1) := by decide +kernel
theorem dX4_filled_15 : decode cX4_filled 15 = .ok (.iconst 0, 1) := by decide +kernel
theorem dX4_filled_16 : decode cX4_filled 16 = .ok (.istore_n 2, 1) := by decide +kernel
theorem dX4_filled_17 : decode cX4_filled 17 = .ok (.iconst 0, 1) := by decide +kernel
theorem dX4_filled_18 : decode cX4_filled 18 = .ok (.istore_n 3, 1) := by decide +kernel
theorem dX4_filled_19 : decode cX4_filled 19 = .ok (.iload_n 3, 1) := by decide +kernel
theorem dX4_filled_20 : decode cX4_filled 20 = .ok (.bipush 8, 2) := by decide +kernel
theorem dX4_filled_22 : decode cX4_filled 22 = .ok (.if_icmp .ge 46, 3) := by decide +kernel
theorem dX4_filled_25 : decode cX4_filled 25 = .ok (.iconst 0, 1) := by decide +kernel
theorem dX4_filled_26 : decode cX4_filled 26 = .ok (.istore 4, 2) := by decide +kernel
theorem dX4_filled_28 : decode cX4_filled 28 = .ok (.iload 4, 2) := by decide +kernel
theorem dX4_filled_30 : decode cX4_filled 30 = .ok (.bipush 40, 2) := by decide +kernel
theorem dX4_filled_32 : decode cX4_filled 32 = .ok (.if_icmp .ge 30, 3) := by decide +kernel
theorem dX4_filled_35 : decode cX4_filled 35 = .ok (.iload_n 2, 1) := by decide +kernel
theorem dX4_filled_36 : decode cX4_filled 36 = .ok (.aload_n 0, 1) := by decide +kernel
theorem dX4_filled_37 : decode cX4_filled 37 = .ok (.iload_n 3, 1) := by decide +kernel
theorem dX4_filled_38 : decode cX4_filled 38 = .ok (.iload 4, 2) := by decide +kernel
theorem dX4_filled_40 : decode cX4_filled 40 = .ok (.iload_n 1, 1) := by decide +kernel
theorem dX4_filled_41 : decode cX4_filled 41 = .ok (.invokevirtual 236, 3) := by decide +kernel
theorem dX4_filled_44 : decode cX4_filled 44 = .ok (.bipush (-19), 2) := by decide +kernel
theorem dX4_filled_46 : decode cX4_filled 46 = .ok (.if_icmp .eq 7, 3) := by decide +kernel
theorem dX4_filled_49 : decode cX4_filled 49 = .ok (.iconst 1, 1) := by decide +kernel
theorem dX4_filled_50 : decode cX4_filled 50 = .ok (.goto 4, 3) := by decide +kernel
theorem dX4_filled_53 : decode cX4_filled 53 = .ok (.iconst 0, 1) := by decide +kernel
theorem dX4_filled_54 : decode cX4_filled 54 = .ok (.iadd, 1) := by decide +kernel
theorem dX4_filled_55 : decode cX4_filled 55 = .ok (.istore_n 2, 1) := by decide +kernel
theorem dX4_filled_56 : decode cX4_filled 56 = .ok (.iinc 4 1, 3) := by decide +kernel
theorem dX4_filled_59 : decode cX4_filled 59 = .ok (.goto (-31), 3) := by decide +kernel
theorem dX4_filled_62 : decode cX4_filled 62 = .ok (.iinc 3 1, 3) := by decide +kernel
theorem dX4_filled_65 : decode cX4_filled 65 = .ok (.goto (-46), 3) := by decide +kernel
theorem dX4_filled_68 : decode cX4_filled 68 = .ok (.iload_n 2, 1) := by decide +kernel
theorem dX4_filled_69 : decode cX4_filled 69 = .ok (.ireturn, 1) := by decide +kernel
end
